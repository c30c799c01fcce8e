set_option maxHeartbeats 1000000 in
theorem c_X8_burn {Γ : jE} (hl : Γ.1.stackTraces = false) {s : Nat → Int → Int} {ε : jEps} {d : Nat} {c : Int} {b : Int} {a : AS} (hd : 3 ≤ d) (p0 : CI s a) (p1 : AI a) (p2 : -2147483648 ≤ c ∧ c < 2147483648) (p3 : 0 ≤ b ∧ b ≤ 1) : Con Γ (d, 2, 12) mX8_burn [.ref 0, .int (iI c), .int (iI b)] (jmem s ε) (RQ (fun w s' => ((0 ≤ c ∧ c < (aF a) (18 + (aF a) 1)) ∧ ¬ gOver (aF a) ∧ 1 < (aF a) (37 + c) - (aF a) (34 + c) + 1) ∧ gPt (aF a) (2 * c + (1 - b)) = w ∧ CI s' (aSet (aRec a) (gPlay (aF a) (2 * c + (1 - b)))) ∧ HiE s s') ε) ((fun E M => M = jmem s ε ∧ ((E = "java/lang/IndexOutOfBoundsException" ∧ ¬ (0 ≤ c ∧ c < (aF a) (18 + (aF a) 1))) ∨ (E = "java/lang/IllegalStateException" ∧ (0 ≤ c ∧ c < (aF a) (18 + (aF a) 1)) ∧ ¬ (¬ gOver (aF a) ∧ 1 < (aF a) (37 + c) - (aF a) (34 + c) + 1))))) := by
  refine Con.ofJ (by decide +kernel) (by simp [Value.category]) (Nat.le_of_ble_eq_true rfl) ?_ hl
  have hw := RM.w p0.m
  have fl := p1.1.1
  have fv := p1.1.2
  have n8 := p1.2.1
  have s3 := p0.2.2.1
  have f5 := p1.1.2.moves
  refine J.aload_n 0 dX8_burn_0 rfl rfl ?_
  refine J.iload_n 1 dX8_burn_1 rfl rfl ?_
  refine I.callV1wX (b' := (d - 1, 1, 6)) (mi' := mX8_needChain) dX8_burn_2 lX8_181 eX8_needChain rfl rfl (c_X8_needChain (d := d - 1) hl (by omega) p0.m (by first | omega | assumption)) (show d - 1 + 1 ≤ d ∧ 1 ≤ 2 ∧ 6 ≤ 12 from ⟨by omega, by decide, by decide⟩) (by rintro E M' ⟨rfl, hc, rfl⟩; exact ⟨rfl, Or.inl ⟨rfl, hc⟩⟩) (Nat.le_of_ble_eq_true rfl) ?_
  rintro _ ⟨rfl, ok2⟩
  refine J.aload_n 0 dX8_burn_5 rfl rfl ?_
  refine I.getR dX8_burn_6 jcls fX8_30 rfl (by decide) rfl rfl ?_
  refine I.getR dX8_burn_9 jcls fX8_129 rfl (by decide) rfl rfl ?_
  refine I.gI 4 rfl dX8_burn_12 jcls fX8_135 rfl (by decide) rfl ?_
  refine I.sx (RM.over p0.m) ?_
  refine I.if_neB 30 dX8_burn_15 (by decide) (fun h15 => ?_) (fun h15 => ?_)
  · skip
    exact I.throw75 (text := "nothing can be burnt there") rfl (by decide) (Or.inr ⟨dX8_burn_30, dX8_burn_33, dX8_burn_34, dX8_burn_37, dX8_burn_40⟩) (show 1 ≤ 1 ∧ 6 ≤ 6 from by decide) ⟨rfl, Or.inr ⟨rfl, ok2, fun h => by first | exact h.1 (by assumption) | (have := h.2; omega)⟩⟩
  · skip
    have e := RM.e p0.m c ok2.1 ok2.2
    refine J.aload_n 0 dX8_burn_18 rfl rfl ?_
    refine I.getR dX8_burn_19 jcls fX8_30 rfl (by decide) rfl rfl ?_
    refine J.iload_n 1 dX8_burn_22 rfl rfl ?_
    refine I.callV1i (d' := d - 1) (mi' := mX2_lengthNow) dX8_burn_23 lX8_184 eX2_lengthNow rfl rfl (c_X2_lengthNow (d := d - 1) hl (by omega) jm21 p0.m (by first | omega | assumption)) (show d - 1 + 1 ≤ d from by omega) (Nat.le_of_ble_eq_true rfl) ?_
    refine I.iconst dX8_burn_26 ?_
    refine I.icmp_ge 41 dX8_burn_27 (by decide) (by omega) (by omega) (fun h27 => ?_) (fun h27 => ?_)
    · skip
      have lg : gLegal (aF a) (2 * c + (1 - b)) := Or.inr ⟨by omega, by omega, by rw [show (2 * c + (1 - b)) / 2 = c by omega]; omega⟩
      have ly := gPlay_lay fl fv lg
      refine J.iload_n 1 dX8_burn_41 rfl rfl ?_
      refine J.iload_n 2 dX8_burn_42 rfl rfl ?_
      refine I.callS2i (d' := d - 1) (mi' := mX8_burnCode) dX8_burn_43 lX8_298 eX8_burnCode rfl (c_X8_burnCode (d := d - 1) hl (by omega) (by first | omega | assumption) (by first | omega | assumption)) (show d - 1 + 1 ≤ d from by omega) (Nat.le_of_ble_eq_true rfl) ?_
      refine J.istore_n 3 dX8_burn_46 rfl (by decide) rfl ?_
      refine J.aload_n 0 dX8_burn_47 rfl rfl ?_
      refine I.getR dX8_burn_48 jcls fX8_30 rfl (by decide) rfl rfl ?_
      refine J.iload_n 3 dX8_burn_51 rfl rfl ?_
      refine I.callV1i (d' := d - 1) (mi' := mX2_pointsOfCode) dX8_burn_52 lX8_218 eX2_pointsOfCode rfl rfl (c_X2_pointsOfCode (d := d - 1) hl (by omega) jm21 p0.m lg.ok) (show d - 1 + 1 ≤ d from by omega) (Nat.le_of_ble_eq_true rfl) ?_
      refine J.istore dX8_burn_55 (by decide) rfl ?_
      refine J.aload_n 0 dX8_burn_57 rfl rfl ?_
      refine I.getR dX8_burn_58 jcls fX8_47 rfl (by decide) rfl rfl ?_
      refine J.aload_n 0 dX8_burn_61 rfl rfl ?_
      refine I.getR dX8_burn_62 jcls fX8_30 rfl (by decide) rfl rfl ?_
      refine I.getR dX8_burn_65 jcls fX8_129 rfl (by decide) rfl rfl ?_
      refine I.callV1w (d' := d - 1) (mi' := mX0_remember) dX8_burn_68 lX8_302 eX0_remember rfl rfl (c_X0_remember (d := d - 1) hl (by omega) jt28 (by omega) ⟨s3.2.1, s3.2.2.1⟩ (by omega) (by rw [show s 28 4 = _ from RM.over p0.m]; exact bI_01 _)) (show d - 1 + 1 ≤ d from by omega) (Nat.le_of_ble_eq_true rfl) ?_
      rintro s68 ⟨a068, a168, a268, e068, e168, e268, e368, e468, e568, e668, e768⟩
      have hr68 : HRem (f := (aF a)) s s68 := ⟨a068, a168, a268, RT.copy (o := 28) p0.m.t f5.2.2 e068 e168 e268 e368 e468 e568 e668 e768⟩
      obtain ⟨ci68, hi68⟩ := p0.rec p1 hr68
      refine J.aload_n 0 dX8_burn_71 rfl rfl ?_
      refine I.getR dX8_burn_72 jcls fX8_30 rfl (by decide) rfl rfl ?_
      refine J.iload_n 3 dX8_burn_75 rfl rfl ?_
      refine I.callV1w (d' := d - 1) (mi' := mX2_play) dX8_burn_76 lX8_281 eX2_play rfl rfl (c_X2_play (d := d - 1) hl (by omega) jm21 ci68.m lg h15) (show d - 1 + 1 ≤ d from by omega) (Nat.le_of_ble_eq_true rfl) ?_
      rintro s76 ⟨r76, w76⟩
      refine J.iload dX8_burn_79 rfl ?_
      exact I.iretQ dX8_burn_81 rfl ⟨⟨ok2, h15, by omega⟩, rfl, ci68.set fl r76 ly (fun q i x _ => w76 q i x) (ci68.so.keep fun q j x => w76 q j (by omega)), fun q i x => (w76 q i (by omega)).trans (hi68 q i x)⟩
    · skip
      exact I.throw75 (text := "nothing can be burnt there") rfl (by decide) (Or.inr ⟨dX8_burn_30, dX8_burn_33, dX8_burn_34, dX8_burn_37, dX8_burn_40⟩) (show 1 ≤ 1 ∧ 6 ≤ 6 from by decide) ⟨rfl, Or.inr ⟨rfl, ok2, fun h => by first | exact h.1 (by assumption) | (have := h.2; omega)⟩⟩
set_option maxHeartbeats 1000000 in
theorem c_X8_pass {Γ : jE} (hl : Γ.1.stackTraces = false) {s : Nat → Int → Int} {ε : jEps} {d : Nat} {a : AS} (hd : 3 ≤ d) (p0 : CI s a) (p1 : AI a) : Con Γ (d, 1, 6) mX8_pass [.ref 0] (jmem s ε) (RQ (fun w s' => ¬ gOver (aF a) ∧ bI (gOver (gPlay (aF a) 6)) = w ∧ CI s' (aSet (aRec a) (gPlay (aF a) 6)) ∧ HiE s s') ε) (XT "java/lang/IllegalStateException" (¬ ¬ gOver (aF a)) s ε) := by
  refine Con.ofJ (by decide +kernel) (by simp [Value.category]) (Nat.le_of_ble_eq_true rfl) ?_ hl
  have hw := RM.w p0.m
  have fl := p1.1.1
  have fv := p1.1.2
  have n8 := p1.2.1
  have s3 := p0.2.2.1
  have f5 := p1.1.2.moves
  refine J.aload_n 0 dX8_pass_0 rfl rfl ?_
  refine I.getR dX8_pass_1 jcls fX8_30 rfl (by decide) rfl rfl ?_
  refine I.getR dX8_pass_4 jcls fX8_129 rfl (by decide) rfl rfl ?_
  refine I.gI 4 rfl dX8_pass_7 jcls fX8_135 rfl (by decide) rfl ?_
  refine I.sx (RM.over p0.m) ?_
  refine I.if_eqB 24 dX8_pass_10 (by decide) (fun h10 => ?_) (fun h10 => ?_)
  · skip
    have lg : gLegal (aF a) 6 := Or.inl rfl
    have ly := gPlay_lay fl fv lg
    refine J.aload_n 0 dX8_pass_24 rfl rfl ?_
    refine I.getR dX8_pass_25 jcls fX8_47 rfl (by decide) rfl rfl ?_
    refine J.aload_n 0 dX8_pass_28 rfl rfl ?_
    refine I.getR dX8_pass_29 jcls fX8_30 rfl (by decide) rfl rfl ?_
    refine I.getR dX8_pass_32 jcls fX8_129 rfl (by decide) rfl rfl ?_
    refine I.callV1w (d' := d - 1) (mi' := mX0_remember) dX8_pass_35 lX8_302 eX0_remember rfl rfl (c_X0_remember (d := d - 1) hl (by omega) jt28 (by omega) ⟨s3.2.1, s3.2.2.1⟩ (by omega) (by rw [show s 28 4 = _ from RM.over p0.m]; exact bI_01 _)) (show d - 1 + 1 ≤ d from by omega) (Nat.le_of_ble_eq_true rfl) ?_
    rintro s35 ⟨a035, a135, a235, e035, e135, e235, e335, e435, e535, e635, e735⟩
    have hr35 : HRem (f := (aF a)) s s35 := ⟨a035, a135, a235, RT.copy (o := 28) p0.m.t f5.2.2 e035 e135 e235 e335 e435 e535 e635 e735⟩
    obtain ⟨ci35, hi35⟩ := p0.rec p1 hr35
    refine J.aload_n 0 dX8_pass_38 rfl rfl ?_
    refine I.getR dX8_pass_39 jcls fX8_30 rfl (by decide) rfl rfl ?_
    refine I.bipush dX8_pass_42 (by decide) ?_
    refine I.callV1w (d' := d - 1) (mi' := mX2_play) dX8_pass_44 lX8_281 eX2_play rfl rfl (c_X2_play (d := d - 1) hl (by omega) jm21 ci35.m lg h10) (show d - 1 + 1 ≤ d from by omega) (Nat.le_of_ble_eq_true rfl) ?_
    rintro s44 ⟨r44, w44⟩
    refine J.aload_n 0 dX8_pass_47 rfl rfl ?_
    refine I.getR dX8_pass_48 jcls fX8_30 rfl (by decide) rfl rfl ?_
    refine I.getR dX8_pass_51 jcls fX8_129 rfl (by decide) rfl rfl ?_
    refine I.gI 4 rfl dX8_pass_54 jcls fX8_135 rfl (by decide) rfl ?_
    refine I.sx (RM.over r44) ?_
    exact I.zretQ dX8_pass_57 rfl (by first | exact Or.inl rfl | exact Or.inr rfl | exact bI_01 _ | omega) ⟨h10, rfl, ci35.set fl r44 ly (fun q i x _ => w44 q i x) (ci35.so.keep fun q j x => w44 q j (by omega)), fun q i x => (w44 q i (by omega)).trans (hi35 q i x)⟩
  · skip
    exact I.throw75 (text := "the round is over") rfl (by decide) (Or.inr ⟨dX8_pass_13, dX8_pass_16, dX8_pass_17, dX8_pass_20, dX8_pass_23⟩) (show 1 ≤ 1 ∧ 6 ≤ 6 from by decide) ⟨rfl, fun h => h h10, rfl⟩
set_option maxHeartbeats 1000000 in
theorem c_X8_playOptimally {Γ : jE} (hl : Γ.1.stackTraces = false) {s : Nat → Int → Int} {ε : jEps} {d : Nat} {n : Int} {a : AS} (hd : 6 ≤ d) (p0 : CI s a) (p1 : AI a) (p2 : -2147483648 ≤ n ∧ n < 2147483648) : Con Γ (d, 1, 6) mX8_playOptimally [.ref 0, .int (iI n)] (jmem s ε) (RQ (fun w s' => (1 ≤ n ∧ n ≤ 30) ∧ gCnt n.toNat (aF a) = w ∧ CI s' (aSet (aRec a) (gRun n.toNat (aF a))) ∧ HiE s s') ε) (XT "java/lang/IllegalArgumentException" (¬ (1 ≤ n ∧ n ≤ 30)) s ε) := by
  refine Con.ofJ (by decide +kernel) (by simp [Value.category]) (Nat.le_of_ble_eq_true rfl) ?_ hl
  have hw := RM.w p0.m
  have fl := p1.1.1
  have fv := p1.1.2
  have n8 := p1.2.1
  have s3 := p0.2.2.1
  have f5 := p1.1.2.moves
  refine J.iload_n 1 dX8_playOptimally_0 rfl rfl ?_
  refine I.iconst dX8_playOptimally_1 ?_
  refine I.icmp_lt 11 dX8_playOptimally_2 (by decide) (by omega) (by omega) (fun h2 => ?_) (fun h2 => ?_)
  · skip
    exact I.throw90 (text := "no such number of moves") rfl (by decide) (Or.inr ⟨dX8_playOptimally_11, dX8_playOptimally_14, dX8_playOptimally_15, dX8_playOptimally_18, dX8_playOptimally_21⟩) (show 1 ≤ 1 ∧ 6 ≤ 6 from by decide) ⟨rfl, by omega, rfl⟩
  · skip
    refine J.iload_n 1 dX8_playOptimally_5 rfl rfl ?_
    refine I.bipush dX8_playOptimally_6 (by decide) ?_
    refine I.icmp_le 22 dX8_playOptimally_8 (by decide) (by omega) (by omega) (fun h8 => ?_) (fun h8 => ?_)
    · skip
      refine J.aload_n 0 dX8_playOptimally_22 rfl rfl ?_
      refine I.getR dX8_playOptimally_23 jcls fX8_47 rfl (by decide) rfl rfl ?_
      refine J.aload_n 0 dX8_playOptimally_26 rfl rfl ?_
      refine I.getR dX8_playOptimally_27 jcls fX8_30 rfl (by decide) rfl rfl ?_
      refine I.getR dX8_playOptimally_30 jcls fX8_129 rfl (by decide) rfl rfl ?_
      refine I.callV1w (d' := d - 1) (mi' := mX0_remember) dX8_playOptimally_33 lX8_302 eX0_remember rfl rfl (c_X0_remember (d := d - 1) hl (by omega) jt28 (by omega) ⟨s3.2.1, s3.2.2.1⟩ (by omega) (by rw [show s 28 4 = _ from RM.over p0.m]; exact bI_01 _)) (show d - 1 + 1 ≤ d from by omega) (Nat.le_of_ble_eq_true rfl) ?_
      rintro s33 ⟨a033, a133, a233, e033, e133, e233, e333, e433, e533, e633, e733⟩
      have hr33 : HRem (f := (aF a)) s s33 := ⟨a033, a133, a233, RT.copy (o := 28) p0.m.t f5.2.2 e033 e133 e233 e333 e433 e533 e633 e733⟩
      obtain ⟨ci33, hi33⟩ := p0.rec p1 hr33
      refine J.aload_n 0 dX8_playOptimally_36 rfl rfl ?_
      refine I.getR dX8_playOptimally_37 jcls fX8_40 rfl (by decide) rfl rfl ?_
      refine J.aload_n 0 dX8_playOptimally_40 rfl rfl ?_
      refine I.getR dX8_playOptimally_41 jcls fX8_30 rfl (by decide) rfl rfl ?_
      refine I.callV1w (d' := d - 1) (mi' := mX5_solveOptimal) dX8_playOptimally_44 lX8_248 eX5_solveOptimal rfl rfl (c_X5_solveOptimal (d := d - 1) hl (by omega) ci33.m ci33.so) (show d - 1 + 1 ≤ d from by omega) (Nat.le_of_ble_eq_true rfl) ?_
      rintro s44 ⟨o44, w44⟩
      have r44 : RM s44 21 (aF a) := ci33.m.congr fun q j a b => w44 q j (by omega)
      refine J.aload_n 0 dX8_playOptimally_47 rfl rfl ?_
      refine J.aload_n 0 dX8_playOptimally_48 rfl rfl ?_
      refine I.getR dX8_playOptimally_49 jcls fX8_30 rfl (by decide) rfl rfl ?_
      refine J.iload_n 1 dX8_playOptimally_52 rfl rfl ?_
      refine I.callV2q (d' := d - 1) (mi' := mX8_playBest) dX8_playOptimally_53 lX8_284 eX8_playBest rfl rfl (c_X8_playBest (d := d - 1) hl (by omega) jm21 r44 o44.1 o44.2.1 o44.2.2 (by omega)) (show d - 1 + 1 ≤ d from by omega) (Nat.le_of_ble_eq_true rfl) ?_
      rintro _ s53 ⟨rfl, r53, o53, w53⟩
      exact I.iretQ dX8_playOptimally_56 rfl ⟨by omega, rfl, ci33.set fl r53 (gRun_lv _ fl fv).2.2.1 (fun q i x y => (w53 q i ⟨by omega, by omega⟩).trans (w44 q i (by omega))) o53.1, fun q i x => (w53 q i ⟨by omega, by omega⟩).trans ((w44 q i (by omega)).trans (hi33 q i x))⟩
    · skip
      exact I.throw90 (text := "no such number of moves") rfl (by decide) (Or.inr ⟨dX8_playOptimally_11, dX8_playOptimally_14, dX8_playOptimally_15, dX8_playOptimally_18, dX8_playOptimally_21⟩) (show 1 ≤ 1 ∧ 6 ≤ 6 from by decide) ⟨rfl, by omega, rfl⟩
set_option maxHeartbeats 1000000 in
theorem c_X8_startNextRound {Γ : jE} (hl : Γ.1.stackTraces = false) {s : Nat → Int → Int} {ε : jEps} {d : Nat} {a : AS} (hd : 4 ≤ d) (p0 : CI s a) (p1 : AI a) : Con Γ (d, 1, 6) mX8_startNextRound [.ref 0] (jmem s ε) (RQ (fun w s' => (gOver (aF a) ∧ ¬ (aF a) 1 = (aF a) 0 - 1) ∧ (aF a) 1 + 1 = w ∧ CI s' (aSet (aRec a) (gNext (aF a))) ∧ HiE s s') ε) (XT "java/lang/IllegalStateException" (¬ (gOver (aF a) ∧ ¬ (aF a) 1 = (aF a) 0 - 1)) s ε) := by
  refine Con.ofJ (by decide +kernel) (by simp [Value.category]) (Nat.le_of_ble_eq_true rfl) ?_ hl
  have hw := RM.w p0.m
  have fl := p1.1.1
  have fv := p1.1.2
  have n8 := p1.2.1
  have s3 := p0.2.2.1
  have f5 := p1.1.2.moves
  refine J.aload_n 0 dX8_startNextRound_0 rfl rfl ?_
  refine I.getR dX8_startNextRound_1 jcls fX8_30 rfl (by decide) rfl rfl ?_
  refine I.getR dX8_startNextRound_4 jcls fX8_129 rfl (by decide) rfl rfl ?_
  refine I.gI 4 rfl dX8_startNextRound_7 jcls fX8_135 rfl (by decide) rfl ?_
  refine I.sx (RM.over p0.m) ?_
  refine I.if_eqB 23 dX8_startNextRound_10 (by decide) (fun h10 => ?_) (fun h10 => ?_)
  · skip
    exact I.throw75 (text := "no round can be started") rfl (by decide) (Or.inr ⟨dX8_startNextRound_23, dX8_startNextRound_26, dX8_startNextRound_27, dX8_startNextRound_30, dX8_startNextRound_33⟩) (show 1 ≤ 1 ∧ 6 ≤ 6 from by decide) ⟨rfl, fun h => by first | exact absurd h.1 (by assumption) | exact h.2 (by assumption), rfl⟩
  · skip
    refine J.aload_n 0 dX8_startNextRound_13 rfl rfl ?_
    refine I.getR dX8_startNextRound_14 jcls fX8_30 rfl (by decide) rfl rfl ?_
    refine I.callV0i (d' := d - 1) (mi' := mX2_isLastRound) dX8_startNextRound_17 lX8_138 eX2_isLastRound rfl rfl (c_X2_isLastRound (d := d - 1) hl (by omega) jm21 p0.m) (show d - 1 + 1 ≤ d from by omega) (Nat.le_of_ble_eq_true rfl) ?_
    refine I.if_eqB 34 dX8_startNextRound_20 (by decide) (fun h20 => ?_) (fun h20 => ?_)
    · skip
      refine J.aload_n 0 dX8_startNextRound_34 rfl rfl ?_
      refine I.getR dX8_startNextRound_35 jcls fX8_47 rfl (by decide) rfl rfl ?_
      refine J.aload_n 0 dX8_startNextRound_38 rfl rfl ?_
      refine I.getR dX8_startNextRound_39 jcls fX8_30 rfl (by decide) rfl rfl ?_
      refine I.getR dX8_startNextRound_42 jcls fX8_129 rfl (by decide) rfl rfl ?_
      refine I.callV1w (d' := d - 1) (mi' := mX0_remember) dX8_startNextRound_45 lX8_302 eX0_remember rfl rfl (c_X0_remember (d := d - 1) hl (by omega) jt28 (by omega) ⟨s3.2.1, s3.2.2.1⟩ (by omega) (by rw [show s 28 4 = _ from RM.over p0.m]; exact bI_01 _)) (show d - 1 + 1 ≤ d from by omega) (Nat.le_of_ble_eq_true rfl) ?_
      rintro s45 ⟨a045, a145, a245, e045, e145, e245, e345, e445, e545, e645, e745⟩
      have hr45 : HRem (f := (aF a)) s s45 := ⟨a045, a145, a245, RT.copy (o := 28) p0.m.t f5.2.2 e045 e145 e245 e345 e445 e545 e645 e745⟩
      obtain ⟨ci45, hi45⟩ := p0.rec p1 hr45
      refine J.aload_n 0 dX8_startNextRound_48 rfl rfl ?_
      refine I.getR dX8_startNextRound_49 jcls fX8_30 rfl (by decide) rfl rfl ?_
      refine I.callV0w (d' := d - 1) (mi' := mX2_beginNext) dX8_startNextRound_52 lX8_310 eX2_beginNext rfl rfl (c_X2_beginNext (d := d - 1) hl (by omega) jm21 ci45.m (by show aF a 1 + 1 < aF a 0; omega)) (show d - 1 + 1 ≤ d from by omega) (Nat.le_of_ble_eq_true rfl) ?_
      rintro s52 ⟨r52, w52⟩
      refine J.aload_n 0 dX8_startNextRound_55 rfl rfl ?_
      refine I.getR dX8_startNextRound_56 jcls fX8_30 rfl (by decide) rfl rfl ?_
      refine I.getR dX8_startNextRound_59 jcls fX8_129 rfl (by decide) rfl rfl ?_
      refine I.gI 0 rfl dX8_startNextRound_62 jcls fX8_132 rfl (by decide) rfl ?_
      refine I.sx ((RM.round r52).trans (gDeal_1 : gNext (aF a) 1 = _)) ?_
      exact I.iretQ dX8_startNextRound_65 rfl ⟨⟨by assumption, by assumption⟩, rfl, ci45.set fl r52 gDeal_lay (fun q i x _ => w52 q i x) (ci45.so.keep fun q j x => w52 q j (by omega)), fun q i x => (w52 q i (by omega)).trans (hi45 q i x)⟩
    · skip
      exact I.throw75 (text := "no round can be started") rfl (by decide) (Or.inr ⟨dX8_startNextRound_23, dX8_startNextRound_26, dX8_startNextRound_27, dX8_startNextRound_30, dX8_startNextRound_33⟩) (show 1 ≤ 1 ∧ 6 ≤ 6 from by decide) ⟨rfl, fun h => by first | exact absurd h.1 (by assumption) | exact h.2 (by assumption), rfl⟩
set_option maxHeartbeats 1000000 in
theorem c_X8_undo {Γ : jE} (hl : Γ.1.stackTraces = false) {s : Nat → Int → Int} {ε : jEps} {d : Nat} {a : AS} (hd : 3 ≤ d) (p0 : CI s a) (p1 : AI a) : Con Γ (d, 1, 6) mX8_undo [.ref 0] (jmem s ε) (RQ (fun w s' => 0 < aN a ∧ aN a - 1 = w ∧ CI s' (aUndo a) ∧ HiE s s') ε) (XT "java/lang/IllegalStateException" (¬ 0 < aN a) s ε) := by
  refine Con.ofJ (by decide +kernel) (by simp [Value.category]) (Nat.le_of_ble_eq_true rfl) ?_ hl
  have hw := RM.w p0.m
  have fl := p1.1.1
  have fv := p1.1.2
  have n8 := p1.2.1
  have s3 := p0.2.2.1
  have f5 := p1.1.2.moves
  refine J.aload_n 0 dX8_undo_0 rfl rfl ?_
  refine I.getR dX8_undo_1 jcls fX8_47 rfl (by decide) rfl rfl ?_
  refine I.gI 1 rfl dX8_undo_4 jcls fX8_313 rfl (by decide) rfl ?_
  refine I.sx s3.1 ?_
  refine I.if_ne 21 dX8_undo_7 (by decide) (by omega) (fun h7 => ?_) (fun h7 => ?_)
  · skip
    have h0 := s3.2.2.2 0 (by omega) (by omega)
    rw [show (s 61 2 - 1 - 0) % 8 = (if 0 < s 61 2 then s 61 2 - 1 else 7) by split <;> omega] at h0
    have z5 := (p1.2.2.1 0 (by omega) (by omega)).2.moves
    refine J.aload_n 0 dX8_undo_21 rfl rfl ?_
    refine I.getR dX8_undo_22 jcls fX8_47 rfl (by decide) rfl rfl ?_
    refine J.aload_n 0 dX8_undo_25 rfl rfl ?_
    refine I.getR dX8_undo_26 jcls fX8_30 rfl (by decide) rfl rfl ?_
    refine I.getR dX8_undo_29 jcls fX8_129 rfl (by decide) rfl rfl ?_
    refine I.callV1w (d' := d - 1) (mi' := mX0_takeBack) dX8_undo_32 lX8_318 eX0_takeBack rfl rfl (c_X0_takeBack (d := d - 1) hl (p := (if 0 < s 61 2 then s 61 2 - 1 else 7)) (by omega) jt28 (by omega) ⟨s3.2.1, s3.2.2.1⟩ rfl (by rw [h0.over]; exact bI_01 _)) (show d - 1 + 1 ≤ d from by omega) (Nat.le_of_ble_eq_true rfl) ?_
    rintro s32 ⟨a032, a132, a232, e032, e132, e232, e332, e432, e532, e632, e732⟩
    obtain ⟨ci32, hi32⟩ := p0.undo p1 (by omega) a032 a132 a232 (RT.copy h0 z5.2.2 e032 e132 e232 e332 e432 e532 e632 e732)
    refine J.aload_n 0 dX8_undo_35 rfl rfl ?_
    refine I.getR dX8_undo_36 jcls fX8_47 rfl (by decide) rfl rfl ?_
    refine I.gI 1 rfl dX8_undo_39 jcls fX8_313 rfl (by decide) rfl ?_
    refine I.sx (a232.trans (by rw [s3.1])) ?_
    exact I.iretQ dX8_undo_42 rfl ⟨by omega, rfl, ci32, hi32⟩
  · skip
    exact I.throw75 (text := "there is no edit to undo") rfl (by decide) (Or.inr ⟨dX8_undo_10, dX8_undo_13, dX8_undo_14, dX8_undo_17, dX8_undo_20⟩) (show 1 ≤ 1 ∧ 6 ≤ 6 from by decide) ⟨rfl, by omega, rfl⟩
set_option maxHeartbeats 1000000 in
theorem c_X8_save {Γ : jE} (hl : Γ.1.stackTraces = false) {s : Nat → Int → Int} {ε : jEps} {d : Nat} {a : AS} (hd : 2 ≤ d) (p0 : CI s a) (p1 : AI a) : Con Γ (d, 0, 0) mX8_save [.ref 0] (jmem s ε) (RQ (fun w s' => (aF a) 5 = w ∧ CI s' (aSave a) ∧ HiE s s') ε) X0 := by
  refine Con.ofJ (by decide +kernel) (by simp [Value.category]) (Nat.le_of_ble_eq_true rfl) ?_ hl
  have hw := RM.w p0.m
  have fl := p1.1.1
  have fv := p1.1.2
  have n8 := p1.2.1
  have s3 := p0.2.2.1
  have f5 := p1.1.2.moves
  refine J.aload_n 0 dX8_save_0 rfl rfl ?_
  refine I.getR dX8_save_1 jcls fX8_54 rfl (by decide) rfl rfl ?_
  refine J.aload_n 0 dX8_save_4 rfl rfl ?_
  refine I.getR dX8_save_5 jcls fX8_30 rfl (by decide) rfl rfl ?_
  refine I.getR dX8_save_8 jcls fX8_129 rfl (by decide) rfl rfl ?_
  refine I.callV1w (d' := d - 1) (mi' := mX6_copyFrom) dX8_save_11 lX8_321 eX6_copyFrom rfl rfl (c_X6_copyFrom (d := d - 1) hl (by omega) jt127 jt28 (by omega) (by rw [show s 28 4 = _ from RM.over p0.m]; exact bI_01 _)) (show d - 1 + 1 ≤ d from by omega) (Nat.le_of_ble_eq_true rfl) ?_
  rintro s11 ⟨a011, e011, e111, e211, e311, e411, e511, e611, e711⟩
  have rt := RT.copy (t := 127) (o := 28) (s' := s11) p0.m.t f5.2.2 e011 e111 e211 e311 e411 e511 e611 e711
  refine J.aload_n 0 dX8_save_14 rfl rfl ?_
  refine I.iconst dX8_save_15 ?_
  refine I.pZ 10 rfl dX8_save_16 jcls fX8_113 rfl (by decide) rfl (by first | exact Or.inl rfl | exact Or.inr rfl | exact bI_01 _ | omega) ?_
  refine J.aload_n 0 dX8_save_19 rfl rfl ?_
  refine I.getR dX8_save_20 jcls fX8_54 rfl (by decide) rfl rfl ?_
  have rt2 : RT (up s11 0 10 1) 127 (aF a) := rt.congr fun q i x y => up_ne (by omega)
  refine I.gI 5 rfl dX8_save_23 jcls fX8_221 rfl (by decide) rfl ?_
  refine I.sx rt2.moves ?_
  exact I.iretQ dX8_save_26 rfl ⟨rfl, p0.save (fun q j x y => (up_ne (by omega)).trans (a011 q j (by omega))) (up_eq _ _ _ _) rt2⟩
set_option maxHeartbeats 1000000 in
theorem c_X8_restore {Γ : jE} (hl : Γ.1.stackTraces = false) {s : Nat → Int → Int} {ε : jEps} {d : Nat} {a : AS} (hd : 3 ≤ d) (p0 : CI s a) (p1 : AI a) : Con Γ (d, 1, 6) mX8_restore [.ref 0] (jmem s ε) (RQ (fun w s' => aB a = 1 ∧ aG a 5 = w ∧ CI s' (aSet (aRec a) (aG a)) ∧ HiE s s') ε) (XT "java/lang/IllegalStateException" (¬ aB a = 1) s ε) := by
  refine Con.ofJ (by decide +kernel) (by simp [Value.category]) (Nat.le_of_ble_eq_true rfl) ?_ hl
  have hw := RM.w p0.m
  have fl := p1.1.1
  have fv := p1.1.2
  have n8 := p1.2.1
  have s3 := p0.2.2.1
  have f5 := p1.1.2.moves
  have b01 := p1.2.2.2.1
  refine J.aload_n 0 dX8_restore_0 rfl rfl ?_
  refine I.gI 10 rfl dX8_restore_1 jcls fX8_113 rfl (by decide) rfl ?_
  refine I.sx p0.2.2.2.1.1 ?_
  refine I.if_ne 18 dX8_restore_4 (by decide) (by omega) (fun h4 => ?_) (fun h4 => ?_)
  · skip
    have bb : aB a = 1 := by omega
    obtain ⟨gl, gv⟩ := p1.2.2.2.2.1 bb
    have g5 := gv.moves
    refine J.aload_n 0 dX8_restore_18 rfl rfl ?_
    refine I.getR dX8_restore_19 jcls fX8_47 rfl (by decide) rfl rfl ?_
    refine J.aload_n 0 dX8_restore_22 rfl rfl ?_
    refine I.getR dX8_restore_23 jcls fX8_30 rfl (by decide) rfl rfl ?_
    refine I.getR dX8_restore_26 jcls fX8_129 rfl (by decide) rfl rfl ?_
    refine I.callV1w (d' := d - 1) (mi' := mX0_remember) dX8_restore_29 lX8_302 eX0_remember rfl rfl (c_X0_remember (d := d - 1) hl (by omega) jt28 (by omega) ⟨s3.2.1, s3.2.2.1⟩ (by omega) (by rw [show s 28 4 = _ from RM.over p0.m]; exact bI_01 _)) (show d - 1 + 1 ≤ d from by omega) (Nat.le_of_ble_eq_true rfl) ?_
    rintro s29 ⟨a029, a129, a229, e029, e129, e229, e329, e429, e529, e629, e729⟩
    have hr29 : HRem (f := (aF a)) s s29 := ⟨a029, a129, a229, RT.copy (o := 28) p0.m.t f5.2.2 e029 e129 e229 e329 e429 e529 e629 e729⟩
    obtain ⟨ci29, hi29⟩ := p0.rec p1 hr29
    refine J.aload_n 0 dX8_restore_32 rfl rfl ?_
    refine I.getR dX8_restore_33 jcls fX8_30 rfl (by decide) rfl rfl ?_
    refine I.getR dX8_restore_36 jcls fX8_129 rfl (by decide) rfl rfl ?_
    refine J.aload_n 0 dX8_restore_39 rfl rfl ?_
    refine I.getR dX8_restore_40 jcls fX8_54 rfl (by decide) rfl rfl ?_
    refine I.callV1w (d' := d - 1) (mi' := mX6_copyFrom) dX8_restore_43 lX8_321 eX6_copyFrom rfl rfl (c_X6_copyFrom (d := d - 1) hl (by omega) jt28 jt127 (by omega) (by rw [(ci29.2.2.2.1.2 bb).over]; exact bI_01 _)) (show d - 1 + 1 ≤ d from by omega) (Nat.le_of_ble_eq_true rfl) ?_
    rintro s43 ⟨a043, e043, e143, e243, e343, e443, e543, e643, e743⟩
    have r43 : RM s43 21 (aG a) := ⟨(RY.congr ci29.m.y fun q j x y => a043 q j (by omega)).lay fl gl, RT.copy (t := 28) (o := 127) (ci29.2.2.2.1.2 bb) g5.2.2 e043 e143 e243 e343 e443 e543 e643 e743, fl.lay gl, gv⟩
    refine J.aload_n 0 dX8_restore_46 rfl rfl ?_
    refine I.getR dX8_restore_47 jcls fX8_30 rfl (by decide) rfl rfl ?_
    refine I.getR dX8_restore_50 jcls fX8_129 rfl (by decide) rfl rfl ?_
    refine I.gI 5 rfl dX8_restore_53 jcls fX8_221 rfl (by decide) rfl ?_
    refine I.sx (RM.logged r43) ?_
    exact I.iretQ dX8_restore_56 rfl ⟨bb, rfl, ci29.set fl r43 gl (fun q i x _ => a043 q i x) (ci29.so.keep fun q j x => a043 q j (by omega)), fun q i x => (a043 q i (by omega)).trans (hi29 q i x)⟩
  · skip
    exact I.throw75 (text := "there is no saved state") rfl (by decide) (Or.inr ⟨dX8_restore_7, dX8_restore_10, dX8_restore_11, dX8_restore_14, dX8_restore_17⟩) (show 1 ≤ 1 ∧ 6 ≤ 6 from by decide) ⟨rfl, by omega, rfl⟩
