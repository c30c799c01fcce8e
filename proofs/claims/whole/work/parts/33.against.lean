set_option maxHeartbeats 1000000 in
theorem c_X9_behindGreedy1 {Γ : jE} (hl : Γ.1.stackTraces = false) {s : Nat → Int → Int} {ε : jEps} {d : Nat} {f : Int → Int} {N L : Nat} (hA : AgC Γ N L) (hL0 : 10 ≤ L) (hL : L + 1 ≤ d) (hd : 5 ≤ d) (p0 : MW s f) (p1 : VI aV s f) (p2 : gBurns f < N + 1) : Con Γ (d, 0, 0) mX9_behindGreedy [.ref 137] (jmem s ε) (RQ (fun w s' => gBhf f = w ∧ VI aV s' f ∧ VFr s s') ε) X0 := by
  refine Con.ofJ (by decide +kernel) (by simp [Value.category]) (Nat.le_of_ble_eq_true rfl) ?_ hl
  have hw := MW.w p0
  have gb := gBurns_rng p0.l p0.v
  refine J.aload_n 0 dX9_behindGreedy_0 rfl rfl ?_
  refine I.callV0i (d' := d - 1) (mi' := mX9_areShort) dX9_behindGreedy_1 lX9_84 eX9_areShort rfl rfl (c_X9_areShort (d := d - 1) hl (by omega) (by first | assumption | exact MW.th (by assumption))) (show d - 1 + 1 ≤ d from by omega) (Nat.le_of_ble_eq_true rfl) ?_
  refine I.if_eqB 9 dX9_behindGreedy_4 (by decide) (fun h4 => ?_) (fun h4 => ?_)
  · skip
    have b := gGr_bn h4
    have z6 := (gE_rng hw.2.2.1 b).2.2
    have z0 := b.1
    have gl := gRem_FL p0.l p0.v b
    have gv := gRem_FS p0.l p0.v b
    have gc := gRem_cnt p0.l p0.v b
    have gs := gSame_rem p0.l p0.v b
    refine J.aload_n 0 dX9_behindGreedy_9 rfl rfl ?_
    refine I.callV0i (d' := d - 1) (mi' := mX9_greedy) dX9_behindGreedy_10 lX9_150 eX9_greedy rfl rfl (c_X9_greedy (d := d - 1) hl (by omega) (by first | assumption | exact MW.th (by assumption))) (show d - 1 + 1 ≤ d from by omega) (Nat.le_of_ble_eq_true rfl) ?_
    refine J.istore_n 1 dX9_behindGreedy_13 rfl (by decide) rfl ?_
    refine J.aload_n 0 dX9_behindGreedy_14 rfl rfl ?_
    refine J.iload_n 1 dX9_behindGreedy_15 rfl rfl ?_
    refine I.callV1i (d' := d - 1) (mi' := mX9_scoreOfMove) dX9_behindGreedy_16 lX9_94 eX9_scoreOfMove rfl rfl (c_X9_scoreOfMove (d := d - 1) hl (by omega) (by first | assumption | exact MW.th (by assumption)) b.ok) (show d - 1 + 1 ≤ d from by omega) (Nat.le_of_ble_eq_true rfl) ?_
    refine J.istore_n 2 dX9_behindGreedy_19 rfl (by decide) rfl ?_
    refine J.aload_n 0 dX9_behindGreedy_20 rfl rfl ?_
    refine J.iload_n 1 dX9_behindGreedy_21 rfl rfl ?_
    refine I.callV1w (d' := d - 1) (mi' := mX9_removes) dX9_behindGreedy_22 lX9_100 eX9_removes rfl rfl (c_X9_removes (d := d - 1) hl (by omega) (by first | assumption | exact MW.m (by assumption) | exact MV.th (by assumption) | exact MW.m (MW.th (by assumption))) (by first | omega | assumption)) (show d - 1 + 1 ≤ d from by omega) (Nat.le_of_ble_eq_true rfl) ?_
    rintro s22 ⟨v22, w22⟩
    refine J.aload_n 0 dX9_behindGreedy_25 rfl rfl ?_
    refine I.iconst dX9_behindGreedy_26 ?_
    refine I.callV1q (d' := d - 1) (mi' := mX9_againstGreedy) dX9_behindGreedy_27 lX9_153 eX9_againstGreedy rfl rfl (AgC.use hA (d := d - 1) hl (by omega) ⟨v22, gl, gv⟩ ((p1.same p0.l p0.v gs).keep fun i => w22.1 _ _ (by decide)) (by omega) (Or.inl rfl)) (show d - 1 + 1 ≤ d from by omega) (Nat.le_of_ble_eq_true rfl) ?_
    rintro _ s27 ⟨rfl, i27, v27⟩
    refine J.iload_n 2 dX9_behindGreedy_30 rfl rfl ?_
    refine I.sub dX9_behindGreedy_31 ?_
    refine J.istore_n 3 dX9_behindGreedy_32 rfl (by decide) rfl ?_
    refine J.aload_n 0 dX9_behindGreedy_33 rfl rfl ?_
    refine J.iload_n 1 dX9_behindGreedy_34 rfl rfl ?_
    refine I.callV1w (d' := d - 1) (mi' := mX9_putsBack) dX9_behindGreedy_35 lX9_126 eX9_putsBack rfl rfl (c_X9_putsBack (d := d - 1) hl (by omega) (v27.mv v22) (by first | omega | assumption)) (show d - 1 + 1 ≤ d from by omega) (Nat.le_of_ble_eq_true rfl) ?_
    rintro s35 ⟨v35, w35⟩
    refine J.iload_n 3 dX9_behindGreedy_38 rfl rfl ?_
    exact I.iretQ dX9_behindGreedy_39 rfl (by have ar := VFr.around p0.m w22 v27 v35 w35; exact ⟨gBhf_n p0.l p0.v h4, (i27.same gl gv (gs.symm p0.l p0.v)).keep ar.2, ar.1⟩)
  · skip
    refine I.iconst dX9_behindGreedy_7 ?_
    exact I.iretQ dX9_behindGreedy_8 rfl ⟨gBhf_o h4, p1, VFr.refl s⟩
set_option maxHeartbeats 1000000 in
theorem k_X9_againstGreedy1_49 {Γ : jE} (hl : Γ.1.stackTraces = false) {s : Nat → Int → Int} {ε : jEps} {d : Nat} {b : Int} {f : Int → Int} {N L : Nat} (hB : BhC Γ N L) (hL0 : 10 ≤ L) (hL : L + 1 ≤ d) (hd : 4 ≤ d) (p0 : MW s f) (p1 : VI aV s f) (p2 : gBurns f < N) (p3 : b = 0 ∨ b = 1) {mc ms : Nat} {P : Option Value → jM → Prop} {X : String → jM → Prop} : ∀ (k : Nat) {z : Nat → Int → Int} {i a : Int} (q0 : ((k : Nat) : Int) = 2 * f (18 + f 1) - i) (q1 : 0 ≤ i) (q2 : VI aV z f) (q3 : VFr s z) (q4 : -528 ≤ a ∧ a ≤ 528) (kx : ∀ s', (VI aV s' f ∧ VFr s s') → J Γ (d, mc, ms) mX9_againstGreedy 112 [some (.ref 137), none, some (.int (iI (gPos f + 262144 * b))), some (.int (iI (gM gBhf f k i a))), none, none] [] (jmem s' ε) P X), J Γ (d, mc, ms) mX9_againstGreedy 49 [some (.ref 137), some (.int (iI b)), some (.int (iI (gPos f + 262144 * b))), some (.int (iI (a))), some (.int (iI (i))), none] [] (jmem z ε) P X := by
  have hw := MW.w p0
  have gb := gBurns_rng p0.l p0.v
  have gr := gPos_rng p0.l p0.v
  have gg := gAg_rng p0.l p0.v (b := b)
  have hv : s 141 (gPos f + 262144 * b) = -100000 ∨ s 141 (gPos f + 262144 * b) = gAg b f := p1 f (gSame.refl f) p0.l p0.v b p3
  have rf := gBhf_rng p0.l p0.v
  intro k
  induction k with
  | zero =>
    intro z i a q0 q1 q2 q3 q4 kx
    refine J.iload dX9_againstGreedy_49 rfl ?_
    refine I.iconst dX9_againstGreedy_51 ?_
    refine J.aload_n 0 dX9_againstGreedy_52 rfl rfl ?_
    refine I.callV0i (d' := d - 1) (mi' := mX9_chains) dX9_againstGreedy_53 lX9_59 eX9_chains rfl rfl (c_X9_chains (d := d - 1) hl (by omega) (q3.m p0)) (show d - 1 + 1 ≤ d from by omega) (Nat.le_of_ble_eq_true rfl) ?_
    refine I.mul dX9_againstGreedy_56 ?_
    refine I.icmp_ge 112 dX9_againstGreedy_57 (by decide) (by omega) (by omega) (fun h57 => ?_) (fun h57 => ?_)
    · skip
      exact J.fgt (by exact ⟨Or.inr rfl, Or.inl rfl, Or.inr rfl, Or.inr rfl, Or.inl rfl, Or.inl rfl, trivial⟩) (kx _ ⟨q2, q3⟩)
    · exact absurd h57 (by omega)
  | succ k ih =>
    intro z i a q0 q1 q2 q3 q4 kx
    refine J.iload dX9_againstGreedy_49 rfl ?_
    refine I.iconst dX9_againstGreedy_51 ?_
    refine J.aload_n 0 dX9_againstGreedy_52 rfl rfl ?_
    refine I.callV0i (d' := d - 1) (mi' := mX9_chains) dX9_againstGreedy_53 lX9_59 eX9_chains rfl rfl (c_X9_chains (d := d - 1) hl (by omega) (q3.m p0)) (show d - 1 + 1 ≤ d from by omega) (Nat.le_of_ble_eq_true rfl) ?_
    refine I.mul dX9_againstGreedy_56 ?_
    refine I.icmp_ge 112 dX9_againstGreedy_57 (by decide) (by omega) (by omega) (fun h57 => ?_) (fun h57 => ?_)
    · exact absurd h57 (by omega)
    · skip
      refine J.aload_n 0 dX9_againstGreedy_60 rfl rfl ?_
      refine J.iload dX9_againstGreedy_61 rfl ?_
      refine I.iconst dX9_againstGreedy_63 ?_
      refine I.div dX9_againstGreedy_64 (by omega) (by omega) ?_
      refine I.callV1i (d' := d - 1) (mi' := mX9_isBurnable) dX9_againstGreedy_65 lX9_81 eX9_isBurnable rfl rfl (c_X9_isBurnable (d := d - 1) hl (by omega) (q3.m p0) (by first | omega | assumption)) (show d - 1 + 1 ≤ d from by omega) (Nat.le_of_ble_eq_true rfl) ?_
      refine I.if_neB 74 dX9_againstGreedy_68 (by decide) (fun h68 => ?_) (fun h68 => ?_)
      · skip
        have bz := gBn_z (f := f) q1 (by omega) h68
        have z6 := (gE_rng hw.2.2.1 bz).2.2
        have gl := gRem_FL p0.l p0.v bz
        have gv := gRem_FS p0.l p0.v bz
        have gc := gRem_cnt p0.l p0.v bz
        have gs := gSame_rem p0.l p0.v bz
        have m0 := q3.m p0
        have pz := gPt_rng p0.l p0.v bz.ok
        have rb := gBhf_rng gl gv
        have e : gMS gBhf f i a = max a (gPt f i + gBhf (gRem f i)) := if_pos h68
        refine J.aload_n 0 dX9_againstGreedy_74 rfl rfl ?_
        refine J.iload dX9_againstGreedy_75 rfl ?_
        refine I.callV1i (d' := d - 1) (mi' := mX9_scoreOfMove) dX9_againstGreedy_77 lX9_94 eX9_scoreOfMove rfl rfl (c_X9_scoreOfMove (d := d - 1) hl (by omega) m0 bz.ok) (show d - 1 + 1 ≤ d from by omega) (Nat.le_of_ble_eq_true rfl) ?_
        refine J.istore dX9_againstGreedy_80 (by decide) rfl ?_
        refine J.aload_n 0 dX9_againstGreedy_82 rfl rfl ?_
        refine J.iload dX9_againstGreedy_83 rfl ?_
        refine I.callV1w (d' := d - 1) (mi' := mX9_removes) dX9_againstGreedy_85 lX9_100 eX9_removes rfl rfl (c_X9_removes (d := d - 1) hl (by omega) m0.m (by first | omega | assumption)) (show d - 1 + 1 ≤ d from by omega) (Nat.le_of_ble_eq_true rfl) ?_
        rintro s85 ⟨v85, w85⟩
        refine J.iload_n 3 dX9_againstGreedy_88 rfl rfl ?_
        refine J.iload dX9_againstGreedy_89 rfl ?_
        refine J.aload_n 0 dX9_againstGreedy_91 rfl rfl ?_
        refine I.callV0q (d' := d - 1) (mi' := mX9_behindGreedy) dX9_againstGreedy_92 lX9_147 eX9_behindGreedy rfl rfl (BhC.use hB (d := d - 1) hl (by omega) ⟨v85, gl, gv⟩ ((q2.same p0.l p0.v gs).keep fun j => w85.1 _ _ (by decide)) (by omega)) (show d - 1 + 1 ≤ d from by omega) (Nat.le_of_ble_eq_true rfl) ?_
        rintro _ s92 ⟨rfl, i92, v92⟩
        refine I.add dX9_againstGreedy_95 ?_
        refine I.mmax dX9_againstGreedy_96 lX9_121 (by omega) (by omega) (Nat.le_of_ble_eq_true rfl) ?_
        refine J.istore_n 3 dX9_againstGreedy_99 rfl (by decide) rfl ?_
        refine J.aload_n 0 dX9_againstGreedy_100 rfl rfl ?_
        refine J.iload dX9_againstGreedy_101 rfl ?_
        refine I.callV1w (d' := d - 1) (mi' := mX9_putsBack) dX9_againstGreedy_103 lX9_126 eX9_putsBack rfl rfl (c_X9_putsBack (d := d - 1) hl (by omega) (v92.mv v85) (by first | omega | assumption)) (show d - 1 + 1 ≤ d from by omega) (Nat.le_of_ble_eq_true rfl) ?_
        rintro s103 ⟨v103, w103⟩
        skip
        refine I.iinc dX9_againstGreedy_106 rfl rfl ?_
        refine J.goto 49 dX9_againstGreedy_109 (by decide) ?_
        exact J.fgt (by exact ⟨Or.inr rfl, Or.inr rfl, Or.inr rfl, Or.inr rfl, Or.inr rfl, Or.inl rfl, trivial⟩) (ih (by omega) (by omega) (by first | exact (i92.same gl gv (gs.symm p0.l p0.v)).keep (VFr.around m0.m w85 v92 v103 w103).2 | exact q2) (by first | exact q3.trans (VFr.around m0.m w85 v92 v103 w103).1 | exact q3) (by omega) (fun s' hs => by have := kx s' hs; unfold gM at this; rw [foldF_s, e] at this; exact this))
      · skip
        have e : gMS gBhf f i a = a := if_neg h68
        refine J.goto 106 dX9_againstGreedy_71 (by decide) ?_
        skip
        refine I.iinc dX9_againstGreedy_106 rfl rfl ?_
        refine J.goto 49 dX9_againstGreedy_109 (by decide) ?_
        exact J.fgt (by exact ⟨Or.inr rfl, Or.inr rfl, Or.inr rfl, Or.inr rfl, Or.inr rfl, Or.inl rfl, trivial⟩) (ih (by omega) (by omega) (by first | exact (i92.same gl gv (gs.symm p0.l p0.v)).keep (VFr.around m0.m w85 v92 v103 w103).2 | exact q2) (by first | exact q3.trans (VFr.around m0.m w85 v92 v103 w103).1 | exact q3) (by omega) (fun s' hs => by have := kx s' hs; unfold gM at this; rw [foldF_s, e] at this; exact this))
set_option maxHeartbeats 1000000 in
theorem c_X9_againstGreedy1 {Γ : jE} (hl : Γ.1.stackTraces = false) {s : Nat → Int → Int} {ε : jEps} {d : Nat} {b : Int} {f : Int → Int} {N L : Nat} (hB : BhC Γ N L) (hL0 : 10 ≤ L) (hL : L + 1 ≤ d) (hd : 4 ≤ d) (p0 : MW s f) (p1 : VI aV s f) (p2 : gBurns f < N) (p3 : b = 0 ∨ b = 1) : Con Γ (d, 0, 0) mX9_againstGreedy [.ref 137, .int (iI b)] (jmem s ε) (RQ (fun w s' => gAg b f = w ∧ VI aV s' f ∧ VFr s s') ε) X0 := by
  refine Con.ofJ (by decide +kernel) (by simp [Value.category]) (Nat.le_of_ble_eq_true rfl) ?_ hl
  have hw := MW.w p0
  have gb := gBurns_rng p0.l p0.v
  have gr := gPos_rng p0.l p0.v
  have gg := gAg_rng p0.l p0.v (b := b)
  have hv : s 141 (gPos f + 262144 * b) = -100000 ∨ s 141 (gPos f + 262144 * b) = gAg b f := p1 f (gSame.refl f) p0.l p0.v b p3
  have rf := gBhf_rng p0.l p0.v
  refine J.aload_n 0 dX9_againstGreedy_0 rfl rfl ?_
  refine I.callV0i (d' := d - 1) (mi' := mX9_areShort) dX9_againstGreedy_1 lX9_84 eX9_areShort rfl rfl (c_X9_areShort (d := d - 1) hl (by omega) (by first | assumption | exact MW.th (by assumption))) (show d - 1 + 1 ≤ d from by omega) (Nat.le_of_ble_eq_true rfl) ?_
  refine I.if_eqB 9 dX9_againstGreedy_4 (by decide) (fun h4 => ?_) (fun h4 => ?_)
  · skip
    refine J.aload_n 0 dX9_againstGreedy_9 rfl rfl ?_
    refine J.iload_n 1 dX9_againstGreedy_10 rfl rfl ?_
    refine I.callV1i (d' := d - 1) (mi' := mX9_valuePlace) dX9_againstGreedy_11 lX9_108 eX9_valuePlace rfl rfl (c_X9_valuePlace (d := d - 1) hl (by omega) (by first | assumption | exact MW.th (by assumption)) (by first | omega | assumption)) (show d - 1 + 1 ≤ d from by omega) (Nat.le_of_ble_eq_true rfl) ?_
    refine J.istore_n 2 dX9_againstGreedy_14 rfl (by decide) rfl ?_
    refine J.aload_n 0 dX9_againstGreedy_15 rfl rfl ?_
    refine I.getR dX9_againstGreedy_16 jcls fX9_22 rfl (by decide) rfl rfl ?_
    refine J.iload_n 2 dX9_againstGreedy_19 rfl rfl ?_
    refine I.iald dX9_againstGreedy_20 rfl (by omega) (by omega) ?_
    refine J.ldc (iI (-100000)) dX9_againstGreedy_21 (by rw [show iI (-100000) = -100000 from by decide]; exact qX9_103) ?_
    refine I.icmp_eq 33 dX9_againstGreedy_23 (by decide) (by omega) (by omega) (fun h23 => ?_) (fun h23 => ?_)
    · skip
      refine J.iload_n 1 dX9_againstGreedy_33 rfl rfl ?_
      refine I.if_eq 41 dX9_againstGreedy_34 (by decide) (by omega) (fun h34 => ?_) (fun h34 => ?_)
      · skip
        have eb : b = 0 := by omega
        subst eb
        refine J.aload_n 0 dX9_againstGreedy_41 rfl rfl ?_
        refine I.callV0q (d' := d - 1) (mi' := mX9_behindGreedy) dX9_againstGreedy_42 lX9_147 eX9_behindGreedy rfl rfl (BhC.use hB (d := d - 1) hl (by omega) (by first | assumption | exact MW.th (by assumption)) (by assumption) (by first | omega | assumption)) (show d - 1 + 1 ≤ d from by omega) (Nat.le_of_ble_eq_true rfl) ?_
        rintro _ s42 ⟨rfl, i42, v42⟩
        refine J.istore_n 3 dX9_againstGreedy_45 rfl (by decide) rfl ?_
        refine I.iconst dX9_againstGreedy_46 ?_
        refine J.istore dX9_againstGreedy_47 (by decide) rfl ?_
        refine J.fgt (by exact ⟨Or.inr rfl, Or.inr rfl, Or.inr rfl, Or.inr rfl, Or.inr rfl, Or.inl rfl, trivial⟩) (k_X9_againstGreedy1_49 hl hB hL0 hL (by omega) p0 p1 p2 p3 ((2 * f (18 + f 1)).toNat) (by omega) (by omega) (by first | exact i42 | exact p1) (by first | exact v42 | exact VFr.refl s) (by omega) ?_)
        rintro s49 ⟨i49, v49⟩
        refine J.aload_n 0 dX9_againstGreedy_112 rfl rfl ?_
        refine I.getR dX9_againstGreedy_113 jcls fX9_22 rfl (by decide) rfl rfl ?_
        refine J.iload_n 2 dX9_againstGreedy_116 rfl rfl ?_
        refine J.iload_n 3 dX9_againstGreedy_117 rfl rfl ?_
        refine I.iast dX9_againstGreedy_118 rfl (by omega) (by omega) ?_
        refine J.iload_n 3 dX9_againstGreedy_119 rfl rfl ?_
        exact I.iretQ dX9_againstGreedy_120 rfl (by rw [← gAg_0 h4] at *; exact ⟨rfl, VI.set (V := aV) p0.l p0.v i49 (by omega), fun q i hq => (up_ne (Or.inl hq)).trans (v49 q i hq)⟩)
      · skip
        have eb : b = 1 := by omega
        subst eb
        refine I.iconst dX9_againstGreedy_37 ?_
        refine J.goto 45 dX9_againstGreedy_38 (by decide) ?_
        refine J.istore_n 3 dX9_againstGreedy_45 rfl (by decide) rfl ?_
        refine I.iconst dX9_againstGreedy_46 ?_
        refine J.istore dX9_againstGreedy_47 (by decide) rfl ?_
        refine J.fgt (by exact ⟨Or.inr rfl, Or.inr rfl, Or.inr rfl, Or.inr rfl, Or.inr rfl, Or.inl rfl, trivial⟩) (k_X9_againstGreedy1_49 hl hB hL0 hL (by omega) p0 p1 p2 p3 ((2 * f (18 + f 1)).toNat) (by omega) (by omega) (by first | exact i42 | exact p1) (by first | exact v42 | exact VFr.refl s) (by omega) ?_)
        rintro s49 ⟨i49, v49⟩
        refine J.aload_n 0 dX9_againstGreedy_112 rfl rfl ?_
        refine I.getR dX9_againstGreedy_113 jcls fX9_22 rfl (by decide) rfl rfl ?_
        refine J.iload_n 2 dX9_againstGreedy_116 rfl rfl ?_
        refine J.iload_n 3 dX9_againstGreedy_117 rfl rfl ?_
        refine I.iast dX9_againstGreedy_118 rfl (by omega) (by omega) ?_
        refine J.iload_n 3 dX9_againstGreedy_119 rfl rfl ?_
        exact I.iretQ dX9_againstGreedy_120 rfl (by rw [← gAg_1 h4] at *; exact ⟨rfl, VI.set (V := aV) p0.l p0.v i49 (by omega), fun q i hq => (up_ne (Or.inl hq)).trans (v49 q i hq)⟩)
    · skip
      refine J.aload_n 0 dX9_againstGreedy_26 rfl rfl ?_
      refine I.getR dX9_againstGreedy_27 jcls fX9_22 rfl (by decide) rfl rfl ?_
      refine J.iload_n 2 dX9_againstGreedy_30 rfl rfl ?_
      refine I.iald dX9_againstGreedy_31 rfl (by omega) (by omega) ?_
      exact I.iretQ dX9_againstGreedy_32 rfl ⟨by omega, p1, VFr.refl s⟩
  · skip
    refine I.iconst dX9_againstGreedy_7 ?_
    exact I.iretQ dX9_againstGreedy_8 rfl ⟨gAg_o h4, p1, VFr.refl s⟩
theorem ag_both {Γ : jE} (hl : Γ.1.stackTraces = false) : ∀ (N : Nat), AgC Γ N (10 + 2 * N) ∧ BhC Γ (N + 1) (11 + 2 * N)
  | 0 => ⟨fun _ h _ hn _ => absurd hn (by have := gBurns_rng h.l h.v; omega), fun hd h hv hn => c_X9_behindGreedy1 (N := 0) hl (fun _ h _ hn _ => absurd hn (by have := gBurns_rng h.l h.v; omega)) (Nat.le_refl 10) (by omega) (by omega) h hv (by omega)⟩
  | N + 1 => by
    have hB : BhC Γ (N + 1) (11 + 2 * N) := (ag_both hl N).2
    have hA : AgC Γ (N + 1) (10 + 2 * (N + 1)) := fun hd h hv hn hb => c_X9_againstGreedy1 hl hB (by omega) (by omega) (by omega) h hv (by omega) hb
    exact ⟨hA, fun hd h hv hn => c_X9_behindGreedy1 hl hA (by omega) (by omega) (by omega) h hv (by omega)⟩
theorem c_X9_againstGreedy {Γ : jE} (hl : Γ.1.stackTraces = false) {s : Nat → Int → Int} {ε : jEps} {d : Nat} {b : Int} {f : Int → Int} (hd : 60 ≤ d) (p0 : MW s f) (p1 : VI aV s f) (p2 : b = 0 ∨ b = 1) : Con Γ (d, 0, 0) mX9_againstGreedy [.ref 137, .int (iI b)] (jmem s ε) (RQ (fun w s' => gAg b f = w ∧ VI aV s' f ∧ VFr s s') ε) X0 := by
  have gb := gBurns_rng p0.l p0.v
  exact (ag_both hl 22).1 (by omega) p0 p1 (by omega) p2
noncomputable def gDag (f : Int → Int) : Int := if bI (gOver f) = 1 then 0 else gAg (if f 4 = 1 then 1 else 0) f
noncomputable def gGab (f : Int → Int) : Int := if bI (gOver f) = 1 then 0 else -gBhf f
theorem gDag_o {f : Int → Int} (h : gOver f) : gDag f = 0 := if_pos (bI_t h)
theorem gGab_o {f : Int → Int} (h : gOver f) : gGab f = 0 := if_pos (bI_t h)
theorem gDag_n1 {f : Int → Int} (h : ¬ gOver f) (g : f 4 = 1) : gDag f = gAg 1 f := (if_neg (by rw [bI_f h]; decide)).trans (by rw [if_pos g])
theorem gDag_n0 {f : Int → Int} (h : ¬ gOver f) (g : f 4 ≠ 1) : gDag f = gAg 0 f := (if_neg (by rw [bI_f h]; decide)).trans (by rw [if_neg g])
theorem gGab_n {f : Int → Int} (h : ¬ gOver f) : gGab f = -gBhf f := if_neg (by rw [bI_f h]; decide)
set_option maxHeartbeats 1000000 in
theorem c_X9_differenceAgainstGreedy {Γ : jE} (hl : Γ.1.stackTraces = false) {s : Nat → Int → Int} {ε : jEps} {d : Nat} {f : Int → Int} (hd : 61 ≤ d) (p0 : MW s f) (p1 : s 137 2 = 0) : Con Γ (d, 0, 0) mX9_differenceAgainstGreedy [.ref 137] (jmem s ε) (RQ (fun w s' => gDag f = w ∧ MFr s s') ε) X0 := by
  refine Con.ofJ (by decide +kernel) (by simp [Value.category]) (Nat.le_of_ble_eq_true rfl) ?_ hl
  have hw := MW.w p0
  refine J.aload_n 0 dX9_differenceAgainstGreedy_0 rfl rfl ?_
  refine I.iconst dX9_differenceAgainstGreedy_1 ?_
  refine I.pI 0 rfl dX9_differenceAgainstGreedy_2 jcls fX9_40 rfl (by decide) rfl ?_
  refine J.aload_n 0 dX9_differenceAgainstGreedy_5 rfl rfl ?_
  refine I.callV0i (d' := d - 1) (mi' := mX9_isOver) dX9_differenceAgainstGreedy_6 lX9_88 eX9_isOver rfl rfl (c_X9_isOver (d := d - 1) hl (by omega) (by first | assumption | exact MW.th (by assumption))) (show d - 1 + 1 ≤ d from by omega) (Nat.le_of_ble_eq_true rfl) ?_
  refine I.if_eqB 14 dX9_differenceAgainstGreedy_9 (by decide) (fun h9 => ?_) (fun h9 => ?_)
  · skip
    refine J.aload_n 0 dX9_differenceAgainstGreedy_14 rfl rfl ?_
    refine I.callV0w (d' := d - 1) (mi' := mX9_forgets) dX9_differenceAgainstGreedy_15 lX9_138 eX9_forgets rfl rfl (c_X9_forgets (d := d - 1) hl (by omega) (by first | assumption | exact MW.th (by assumption))) (show d - 1 + 1 ≤ d from by omega) (Nat.le_of_ble_eq_true rfl) ?_
    rintro s15 ⟨i15, v15⟩
    refine J.aload_n 0 dX9_differenceAgainstGreedy_18 rfl rfl ?_
    refine J.aload_n 0 dX9_differenceAgainstGreedy_19 rfl rfl ?_
    refine I.iconst dX9_differenceAgainstGreedy_20 ?_
    refine I.callV1i (d' := d - 1) (mi' := mX9_get) dX9_differenceAgainstGreedy_21 lX9_46 eX9_get rfl rfl (c_X9_get (d := d - 1) hl (by omega) ((v15.m (MW.th p0)).m) (by first | omega | assumption)) (show d - 1 + 1 ≤ d from by omega) (Nat.le_of_ble_eq_true rfl) ?_
    refine I.iconst dX9_differenceAgainstGreedy_24 ?_
    refine I.icmp_ne 32 dX9_differenceAgainstGreedy_25 (by decide) (by omega) (by omega) (fun h25 => ?_) (fun h25 => ?_)
    · skip
      refine I.iconst dX9_differenceAgainstGreedy_32 ?_
      refine I.callV1q (d' := d - 1) (mi' := mX9_againstGreedy) dX9_differenceAgainstGreedy_33 lX9_153 eX9_againstGreedy rfl rfl (c_X9_againstGreedy (d := d - 1) hl (by omega) (v15.m (MW.th p0)) (VI.none p0.l p0.v i15) (by omega)) (show d - 1 + 1 ≤ d from by omega) (Nat.le_of_ble_eq_true rfl) ?_
      rintro _ s33 ⟨rfl, i33, v33⟩
      exact I.iretQ dX9_differenceAgainstGreedy_36 rfl ⟨gDag_n0 h9 h25, MFr.of p1 (v15.trans v33)⟩
    · skip
      refine I.iconst dX9_differenceAgainstGreedy_28 ?_
      refine J.goto 33 dX9_differenceAgainstGreedy_29 (by decide) ?_
      refine I.callV1q (d' := d - 1) (mi' := mX9_againstGreedy) dX9_differenceAgainstGreedy_33 lX9_153 eX9_againstGreedy rfl rfl (c_X9_againstGreedy (d := d - 1) hl (by omega) (v15.m (MW.th p0)) (VI.none p0.l p0.v i15) (by omega)) (show d - 1 + 1 ≤ d from by omega) (Nat.le_of_ble_eq_true rfl) ?_
      rintro _ s33 ⟨rfl, i33, v33⟩
      exact I.iretQ dX9_differenceAgainstGreedy_36 rfl ⟨gDag_n1 h9 h25, MFr.of p1 (v15.trans v33)⟩
  · skip
    refine I.iconst dX9_differenceAgainstGreedy_12 ?_
    exact I.iretQ dX9_differenceAgainstGreedy_13 rfl ⟨by first | exact gDag_o h9 | exact gGab_o h9, MFr.of p1 (VFr.refl _)⟩
set_option maxHeartbeats 1000000 in
theorem c_X9_greedyAgainstBest {Γ : jE} (hl : Γ.1.stackTraces = false) {s : Nat → Int → Int} {ε : jEps} {d : Nat} {f : Int → Int} (hd : 61 ≤ d) (p0 : MW s f) (p1 : s 137 2 = 0) : Con Γ (d, 0, 0) mX9_greedyAgainstBest [.ref 137] (jmem s ε) (RQ (fun w s' => gGab f = w ∧ MFr s s') ε) X0 := by
  refine Con.ofJ (by decide +kernel) (by simp [Value.category]) (Nat.le_of_ble_eq_true rfl) ?_ hl
  have hw := MW.w p0
  refine J.aload_n 0 dX9_greedyAgainstBest_0 rfl rfl ?_
  refine I.iconst dX9_greedyAgainstBest_1 ?_
  refine I.pI 0 rfl dX9_greedyAgainstBest_2 jcls fX9_40 rfl (by decide) rfl ?_
  refine J.aload_n 0 dX9_greedyAgainstBest_5 rfl rfl ?_
  refine I.callV0i (d' := d - 1) (mi' := mX9_isOver) dX9_greedyAgainstBest_6 lX9_88 eX9_isOver rfl rfl (c_X9_isOver (d := d - 1) hl (by omega) (by first | assumption | exact MW.th (by assumption))) (show d - 1 + 1 ≤ d from by omega) (Nat.le_of_ble_eq_true rfl) ?_
  refine I.if_eqB 14 dX9_greedyAgainstBest_9 (by decide) (fun h9 => ?_) (fun h9 => ?_)
  · skip
    refine J.aload_n 0 dX9_greedyAgainstBest_14 rfl rfl ?_
    refine I.callV0w (d' := d - 1) (mi' := mX9_forgets) dX9_greedyAgainstBest_15 lX9_138 eX9_forgets rfl rfl (c_X9_forgets (d := d - 1) hl (by omega) (by first | assumption | exact MW.th (by assumption))) (show d - 1 + 1 ≤ d from by omega) (Nat.le_of_ble_eq_true rfl) ?_
    rintro s15 ⟨i15, v15⟩
    have m0 := v15.m (MW.th (z := 0) p0)
    have hs : ¬ gShort f := fun g => h9 (Or.inr g)
    have b := gGr_bn hs
    have z6 := (gE_rng hw.2.2.1 b).2.2
    have z0 := b.1
    have gl := gRem_FL p0.l p0.v b
    have gv := gRem_FS p0.l p0.v b
    have gs := gSame_rem p0.l p0.v b
    have an := VI.none (V := aV) p0.l p0.v i15
    refine J.aload_n 0 dX9_greedyAgainstBest_18 rfl rfl ?_
    refine I.callV0i (d' := d - 1) (mi' := mX9_greedy) dX9_greedyAgainstBest_19 lX9_150 eX9_greedy rfl rfl (c_X9_greedy (d := d - 1) hl (by omega) m0) (show d - 1 + 1 ≤ d from by omega) (Nat.le_of_ble_eq_true rfl) ?_
    refine J.istore_n 1 dX9_greedyAgainstBest_22 rfl (by decide) rfl ?_
    refine J.aload_n 0 dX9_greedyAgainstBest_23 rfl rfl ?_
    refine J.iload_n 1 dX9_greedyAgainstBest_24 rfl rfl ?_
    refine I.callV1i (d' := d - 1) (mi' := mX9_scoreOfMove) dX9_greedyAgainstBest_25 lX9_94 eX9_scoreOfMove rfl rfl (c_X9_scoreOfMove (d := d - 1) hl (by omega) m0 b.ok) (show d - 1 + 1 ≤ d from by omega) (Nat.le_of_ble_eq_true rfl) ?_
    refine J.istore_n 2 dX9_greedyAgainstBest_28 rfl (by decide) rfl ?_
    refine J.aload_n 0 dX9_greedyAgainstBest_29 rfl rfl ?_
    refine J.iload_n 1 dX9_greedyAgainstBest_30 rfl rfl ?_
    refine I.callV1w (d' := d - 1) (mi' := mX9_removes) dX9_greedyAgainstBest_31 lX9_100 eX9_removes rfl rfl (c_X9_removes (d := d - 1) hl (by omega) m0.m (by first | omega | assumption)) (show d - 1 + 1 ≤ d from by omega) (Nat.le_of_ble_eq_true rfl) ?_
    rintro s31 ⟨v31, w31⟩
    refine J.iload_n 2 dX9_greedyAgainstBest_34 rfl rfl ?_
    refine J.aload_n 0 dX9_greedyAgainstBest_35 rfl rfl ?_
    refine I.iconst dX9_greedyAgainstBest_36 ?_
    refine I.callV1q (d' := d - 1) (mi' := mX9_againstGreedy) dX9_greedyAgainstBest_37 lX9_153 eX9_againstGreedy rfl rfl (c_X9_againstGreedy (d := d - 1) hl (by omega) ⟨v31, gl, gv⟩ ((an.same p0.l p0.v gs).keep fun i => w31.1 _ _ (by decide)) (Or.inl rfl)) (show d - 1 + 1 ≤ d from by omega) (Nat.le_of_ble_eq_true rfl) ?_
    rintro _ s37 ⟨rfl, i37, v37⟩
    refine I.sub dX9_greedyAgainstBest_40 ?_
    refine J.istore_n 3 dX9_greedyAgainstBest_41 rfl (by decide) rfl ?_
    refine J.aload_n 0 dX9_greedyAgainstBest_42 rfl rfl ?_
    refine J.iload_n 1 dX9_greedyAgainstBest_43 rfl rfl ?_
    refine I.callV1w (d' := d - 1) (mi' := mX9_putsBack) dX9_greedyAgainstBest_44 lX9_126 eX9_putsBack rfl rfl (c_X9_putsBack (d := d - 1) hl (by omega) (v37.mv v31) (by first | omega | assumption)) (show d - 1 + 1 ≤ d from by omega) (Nat.le_of_ble_eq_true rfl) ?_
    rintro s44 ⟨v44, w44⟩
    refine J.iload_n 3 dX9_greedyAgainstBest_47 rfl rfl ?_
    exact I.iretQ dX9_greedyAgainstBest_48 rfl (by have ar := VFr.around m0.m w31 v37 v44 w44; exact ⟨by rw [gGab_n h9, gBhf_n p0.l p0.v hs]; omega, MFr.of p1 (v15.trans ar.1)⟩)
  · skip
    refine I.iconst dX9_greedyAgainstBest_12 ?_
    exact I.iretQ dX9_greedyAgainstBest_13 rfl ⟨by first | exact gDag_o h9 | exact gGab_o h9, MFr.of p1 (VFr.refl _)⟩
