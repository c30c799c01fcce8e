set_option maxHeartbeats 1000000 in
theorem c_X8_highestEndScore {Γ : jE} (hl : Γ.1.stackTraces = false) {s : Nat → Int → Int} {ε : jEps} {d : Nat} {f : Int → Int} (hd : 4 ≤ d) (p0 : RM s 21 f) : Con Γ (d, 0, 0) mX8_highestEndScore [.ref 0] (jmem s ε) (RI (gHigh f) (s) ε) X0 := by
  refine Con.ofJ (by decide +kernel) (by simp [Value.category]) (Nat.le_of_ble_eq_true rfl) ?_ hl
  have hw := RM.w p0
  have gr := gGi_rng p0.l p0.v
  have hm7 := gMoves_rng hw.2.2.1
  refine J.aload_n 0 dX8_highestEndScore_0 rfl rfl ?_
  refine I.getR dX8_highestEndScore_1 jcls fX8_30 rfl (by decide) rfl rfl ?_
  refine I.callV0i (d' := d - 1) (mi' := mX2_greediestMove) dX8_highestEndScore_4 lX8_233 eX2_greediestMove rfl rfl (c_X2_greediestMove (d := d - 1) hl (by omega) jm21 (by assumption)) (show d - 1 + 1 ≤ d from by omega) (Nat.le_of_ble_eq_true rfl) ?_
  refine J.istore_n 1 dX8_highestEndScore_7 rfl (by decide) rfl ?_
  refine J.iload_n 1 dX8_highestEndScore_8 rfl rfl ?_
  refine I.iconst dX8_highestEndScore_9 ?_
  refine I.icmp_ne 17 dX8_highestEndScore_10 (by decide) (by omega) (by omega) (fun h10 => ?_) (fun h10 => ?_)
  · skip
    have ho : ¬ gOver f := fun ho => h10 (gGi_over ho)
    have ge := greedy_eq p0.l p0.v ho
    refine J.aload_n 0 dX8_highestEndScore_17 rfl rfl ?_
    refine I.getR dX8_highestEndScore_18 jcls fX8_30 rfl (by decide) rfl rfl ?_
    refine J.aload_n 0 dX8_highestEndScore_21 rfl rfl ?_
    refine I.getR dX8_highestEndScore_22 jcls fX8_30 rfl (by decide) rfl rfl ?_
    refine J.iload_n 1 dX8_highestEndScore_25 rfl rfl ?_
    refine I.callV1i (d' := d - 1) (mi' := mX2_codeOfMove) dX8_highestEndScore_26 lX8_236 eX2_codeOfMove rfl rfl (c_X2_codeOfMove (d := d - 1) hl (by omega) jm21 (by assumption) (by first | omega | assumption)) (show d - 1 + 1 ≤ d from by omega) (Nat.le_of_ble_eq_true rfl) ?_
    refine I.sx ((gCode_in ⟨by omega, by omega⟩).trans ge.2.1) ?_
    refine I.callV1i (d' := d - 1) (mi' := mX2_pointsOfCode) dX8_highestEndScore_29 lX8_218 eX2_pointsOfCode rfl rfl (c_X2_pointsOfCode (d := d - 1) hl (by omega) jm21 (by assumption) ge.2.2.2.ok) (show d - 1 + 1 ≤ d from by omega) (Nat.le_of_ble_eq_true rfl) ?_
    exact I.iretI dX8_highestEndScore_32 rfl (by first | exact (gHigh_o ho).symm | exact (gHigh_n ho).symm) rfl
  · skip
    have ho : gOver f := Classical.byContradiction fun ho => by have := (greedy_eq p0.l p0.v ho).1; omega
    refine I.iconst dX8_highestEndScore_13 ?_
    refine J.goto 32 dX8_highestEndScore_14 (by decide) ?_
    exact I.iretI dX8_highestEndScore_32 rfl (by first | exact (gHigh_o ho).symm | exact (gHigh_n ho).symm) rfl
set_option maxHeartbeats 1000000 in
theorem k_X8_greedyDifference_13 {Γ : jE} (hl : Γ.1.stackTraces = false) {s : Nat → Int → Int} {ε : jEps} {d : Nat} {f : Int → Int} (hd : 4 ≤ d) (p0 : RM s 21 f) {mc ms : Nat} {P : Option Value → jM → Prop} {X : String → jM → Prop} : ∀ (k : Nat) {z : Nat → Int → Int} {g : Int → Int} {i : Int} (q0 : ((k : Nat) : Int) = 42 - i) (q1 : 0 ≤ i) (q2 : RM z 36 g) (q3 : ∀ q j, (q ≤ 36 ∨ 51 ≤ q) → z q j = s q j) (kx : ∀ s', (RM s' 36 (gGRun k g) ∧ ∀ q j, (q ≤ 36 ∨ 51 ≤ q) → s' q j = s q j) → J Γ (d, mc, ms) mX8_greedyDifference 59 [some (.ref 0), none, none, none] [] (jmem s' ε) P X), J Γ (d, mc, ms) mX8_greedyDifference 13 [some (.ref 0), some (.int (iI (i))), none, none] [] (jmem z ε) P X := by
  have hw := RM.w p0
  intro k
  induction k with
  | zero =>
    intro z g i q0 q1 q2 q3 kx
    refine J.iload_n 1 dX8_greedyDifference_13 rfl rfl ?_
    refine I.bipush dX8_greedyDifference_14 (by decide) ?_
    refine I.icmp_ge 59 dX8_greedyDifference_16 (by decide) (by omega) (by omega) (fun h16 => ?_) (fun h16 => ?_)
    · skip
      exact J.fgt (by exact ⟨Or.inr rfl, Or.inl rfl, Or.inl rfl, Or.inl rfl, trivial⟩) (kx _ ⟨q2, q3⟩)
    · exact absurd h16 (by omega)
  | succ k ih =>
    intro z g i q0 q1 q2 q3 kx
    refine J.iload_n 1 dX8_greedyDifference_13 rfl rfl ?_
    refine I.bipush dX8_greedyDifference_14 (by decide) ?_
    refine I.icmp_ge 59 dX8_greedyDifference_16 (by decide) (by omega) (by omega) (fun h16 => ?_) (fun h16 => ?_)
    · exact absurd h16 (by omega)
    · skip
      refine J.aload_n 0 dX8_greedyDifference_19 rfl rfl ?_
      refine I.getR dX8_greedyDifference_20 jcls fX8_34 rfl (by decide) rfl rfl ?_
      refine I.getR dX8_greedyDifference_23 jcls fX8_129 rfl (by decide) rfl rfl ?_
      refine I.gI 4 rfl dX8_greedyDifference_26 jcls fX8_135 rfl (by decide) rfl ?_
      refine I.sx (RM.over q2) ?_
      refine I.if_neB 59 dX8_greedyDifference_29 (by decide) (fun h29 => ?_) (fun h29 => ?_)
      · skip
        exact J.fgt (by exact ⟨Or.inr rfl, Or.inl rfl, Or.inl rfl, Or.inl rfl, trivial⟩) (kx _ ⟨by rw [gGRun_o h29]; exact q2, q3⟩)
      · skip
        have ge := greedy_eq q2.l q2.v h29
        have hg7 := gMoves_rng q2.c
        refine J.aload_n 0 dX8_greedyDifference_32 rfl rfl ?_
        refine I.getR dX8_greedyDifference_33 jcls fX8_34 rfl (by decide) rfl rfl ?_
        refine J.aload_n 0 dX8_greedyDifference_36 rfl rfl ?_
        refine I.getR dX8_greedyDifference_37 jcls fX8_34 rfl (by decide) rfl rfl ?_
        refine J.aload_n 0 dX8_greedyDifference_40 rfl rfl ?_
        refine I.getR dX8_greedyDifference_41 jcls fX8_34 rfl (by decide) rfl rfl ?_
        refine I.callV0i (d' := d - 1) (mi' := mX2_greediestMove) dX8_greedyDifference_44 lX8_233 eX2_greediestMove rfl rfl (c_X2_greediestMove (d := d - 1) hl (by omega) jm36 (by assumption)) (show d - 1 + 1 ≤ d from by omega) (Nat.le_of_ble_eq_true rfl) ?_
        refine I.callV1i (d' := d - 1) (mi' := mX2_codeOfMove) dX8_greedyDifference_47 lX8_236 eX2_codeOfMove rfl rfl (c_X2_codeOfMove (d := d - 1) hl (by omega) jm36 (by assumption) (by first | omega | assumption)) (show d - 1 + 1 ≤ d from by omega) (Nat.le_of_ble_eq_true rfl) ?_
        refine I.sx ((gCode_in ⟨by omega, by omega⟩).trans ge.2.1) ?_
        refine I.callV1w (d' := d - 1) (mi' := mX2_play) dX8_greedyDifference_50 lX8_281 eX2_play rfl rfl (c_X2_play (d := d - 1) hl (by omega) jm36 (by assumption) ge.2.2.2 (by first | omega | assumption)) (show d - 1 + 1 ≤ d from by omega) (Nat.le_of_ble_eq_true rfl) ?_
        rintro s50 h50
        refine I.iinc dX8_greedyDifference_53 rfl rfl ?_
        refine J.goto 13 dX8_greedyDifference_56 (by decide) ?_
        exact J.fgt (by exact ⟨Or.inr rfl, Or.inr rfl, Or.inl rfl, Or.inl rfl, trivial⟩) (ih (by omega) (by omega) h50.1 (fun q j h => (h50.2 q j (by omega)).trans (q3 q j h)) (fun s' hs => kx s' (by rw [gGRun_n h29]; exact hs)))
set_option maxHeartbeats 1000000 in
theorem c_X8_greedyDifference {Γ : jE} (hl : Γ.1.stackTraces = false) {s : Nat → Int → Int} {ε : jEps} {d : Nat} {f : Int → Int} (hd : 4 ≤ d) (p0 : RM s 21 f) : Con Γ (d, 0, 0) mX8_greedyDifference [.ref 0] (jmem s ε) (RQ (fun w s' => gGreedyDif f = w ∧ ∀ q j, (q ≤ 36 ∨ 51 ≤ q) → s' q j = s q j) ε) X0 := by
  refine Con.ofJ (by decide +kernel) (by simp [Value.category]) (Nat.le_of_ble_eq_true rfl) ?_ hl
  have hw := RM.w p0
  refine J.aload_n 0 dX8_greedyDifference_0 rfl rfl ?_
  refine I.getR dX8_greedyDifference_1 jcls fX8_34 rfl (by decide) rfl rfl ?_
  refine J.aload_n 0 dX8_greedyDifference_4 rfl rfl ?_
  refine I.getR dX8_greedyDifference_5 jcls fX8_30 rfl (by decide) rfl rfl ?_
  refine I.callV1w (d' := d - 1) (mi' := mX2_copyFrom) dX8_greedyDifference_8 lX8_106 eX2_copyFrom rfl rfl (c_X2_copyFrom (d := d - 1) hl (by omega) jm36 jm21 p0 (by first | omega | assumption)) (show d - 1 + 1 ≤ d from by omega) (Nat.le_of_ble_eq_true rfl) ?_
  rintro s8 h8
  refine I.iconst dX8_greedyDifference_11 ?_
  refine J.istore_n 1 dX8_greedyDifference_12 rfl (by decide) rfl ?_
  refine J.fgt (by exact ⟨Or.inr rfl, Or.inr rfl, Or.inl rfl, Or.inl rfl, trivial⟩) (k_X8_greedyDifference_13 hl (by omega) p0 (42) (by omega) (by omega) h8.1 (fun q j h => h8.2 q j (by omega)) ?_)
  rintro s13 h13
  have r36 := h13.1
  have r21 := RM.congr p0 (s' := s13) fun q i a b => h13.2 q i (by omega)
  have lv := gGRun_lv 42 p0.l p0.v
  refine J.aload_n 0 dX8_greedyDifference_59 rfl rfl ?_
  refine I.getR dX8_greedyDifference_60 jcls fX8_30 rfl (by decide) rfl rfl ?_
  refine I.getR dX8_greedyDifference_63 jcls fX8_129 rfl (by decide) rfl rfl ?_
  refine I.gI 2 rfl dX8_greedyDifference_66 jcls fX8_160 rfl (by decide) rfl ?_
  refine I.sx (RM.mover r21) ?_
  refine J.istore_n 1 dX8_greedyDifference_69 rfl (by decide) rfl ?_
  refine J.aload_n 0 dX8_greedyDifference_70 rfl rfl ?_
  refine I.getR dX8_greedyDifference_71 jcls fX8_34 rfl (by decide) rfl rfl ?_
  refine J.iload_n 1 dX8_greedyDifference_74 rfl rfl ?_
  refine I.callV1i (d' := d - 1) (mi' := mX2_scoreNow) dX8_greedyDifference_75 lX8_245 eX2_scoreNow rfl rfl (c_X2_scoreNow (d := d - 1) hl (by omega) jm36 (by assumption) (by first | omega | assumption)) (show d - 1 + 1 ≤ d from by omega) (Nat.le_of_ble_eq_true rfl) ?_
  refine J.aload_n 0 dX8_greedyDifference_78 rfl rfl ?_
  refine I.getR dX8_greedyDifference_79 jcls fX8_30 rfl (by decide) rfl rfl ?_
  refine J.iload_n 1 dX8_greedyDifference_82 rfl rfl ?_
  refine I.callV1i (d' := d - 1) (mi' := mX2_scoreNow) dX8_greedyDifference_83 lX8_245 eX2_scoreNow rfl rfl (c_X2_scoreNow (d := d - 1) hl (by omega) jm21 (by assumption) (by first | omega | assumption)) (show d - 1 + 1 ≤ d from by omega) (Nat.le_of_ble_eq_true rfl) ?_
  refine I.sub dX8_greedyDifference_86 ?_
  refine J.istore_n 2 dX8_greedyDifference_87 rfl (by decide) rfl ?_
  refine J.aload_n 0 dX8_greedyDifference_88 rfl rfl ?_
  refine I.getR dX8_greedyDifference_89 jcls fX8_34 rfl (by decide) rfl rfl ?_
  refine I.iconst dX8_greedyDifference_92 ?_
  refine J.iload_n 1 dX8_greedyDifference_93 rfl rfl ?_
  refine I.sub dX8_greedyDifference_94 ?_
  refine I.callV1i (d' := d - 1) (mi' := mX2_scoreNow) dX8_greedyDifference_95 lX8_245 eX2_scoreNow rfl rfl (c_X2_scoreNow (d := d - 1) hl (by omega) jm36 (by assumption) (by first | omega | assumption)) (show d - 1 + 1 ≤ d from by omega) (Nat.le_of_ble_eq_true rfl) ?_
  refine J.aload_n 0 dX8_greedyDifference_98 rfl rfl ?_
  refine I.getR dX8_greedyDifference_99 jcls fX8_30 rfl (by decide) rfl rfl ?_
  refine I.iconst dX8_greedyDifference_102 ?_
  refine J.iload_n 1 dX8_greedyDifference_103 rfl rfl ?_
  refine I.sub dX8_greedyDifference_104 ?_
  refine I.callV1i (d' := d - 1) (mi' := mX2_scoreNow) dX8_greedyDifference_105 lX8_245 eX2_scoreNow rfl rfl (c_X2_scoreNow (d := d - 1) hl (by omega) jm21 (by assumption) (by first | omega | assumption)) (show d - 1 + 1 ≤ d from by omega) (Nat.le_of_ble_eq_true rfl) ?_
  refine I.sub dX8_greedyDifference_108 ?_
  refine J.istore_n 3 dX8_greedyDifference_109 rfl (by decide) rfl ?_
  refine J.iload_n 2 dX8_greedyDifference_110 rfl rfl ?_
  refine J.iload_n 3 dX8_greedyDifference_111 rfl rfl ?_
  refine I.sub dX8_greedyDifference_112 ?_
  exact I.iretQ dX8_greedyDifference_113 rfl (by
    have e := greedy_dif 21 42 (g := f) (p := f 2) (y := 1) (a := 0) p0.l p0.v (by have := gBt_rng p0.l p0.v; omega) (by have := gBt_rng p0.l p0.v; omega) (by omega) (Or.inl ⟨rfl, rfl⟩)
    refine ⟨?_, h13.2⟩
    unfold gGreedyDif
    rw [e, lv.2.2.2]
    omega)
