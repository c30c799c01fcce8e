set_option maxHeartbeats 1000000 in
theorem k_X9_greedyDifference_23 {Γ : jE} (hl : Γ.1.stackTraces = false) {s : Nat → Int → Int} {ε : jEps} {d : Nat} {f : Int → Int} (hd : 5 ≤ d) (p0 : MW s f) (p1 : s 137 2 = 0) {mc ms : Nat} {P : Option Value → jM → Prop} {X : String → jM → Prop} : ∀ (k : Nat) {z : Nat → Int → Int} {g : Int → Int} {x y : Int} (q0 : k = (21 - gBt g).toNat) (q2 : MW z g) (q3 : TFr s z) (qz : gBt g ≤ 21) (kx : ∀ s', (TFr s s') → J Γ (d, mc, ms) mX9_greedyDifference 57 [some (.ref 137), some (.int (iI (gGDif k g y x))), none] [] (jmem s' ε) P X), J Γ (d, mc, ms) mX9_greedyDifference 23 [some (.ref 137), some (.int (iI (x))), some (.int (iI (y)))] [] (jmem z ε) P X := by
  have hw := MW.w p0
  intro k
  induction k with
  | zero =>
    intro z g x y q0 q2 q3 qz kx
    refine J.aload_n 0 dX9_greedyDifference_23 rfl rfl ?_
    refine I.callV0i (d' := d - 1) (mi' := mX9_isOver) dX9_greedyDifference_24 lX9_88 eX9_isOver rfl rfl (c_X9_isOver (d := d - 1) hl (by omega) (by first | assumption | exact MW.th (by assumption))) (show d - 1 + 1 ≤ d from by omega) (Nat.le_of_ble_eq_true rfl) ?_
    refine I.if_neB 57 dX9_greedyDifference_27 (by decide) (fun h27 => ?_) (fun h27 => ?_)
    · skip
      exact J.fgt (by exact ⟨Or.inr rfl, Or.inr rfl, Or.inl rfl, trivial⟩) (kx _ q3)
    · exact absurd (gBt_over q2.l q2.v (by omega)) h27
  | succ k ih =>
    intro z g x y q0 q2 q3 qz kx
    refine J.aload_n 0 dX9_greedyDifference_23 rfl rfl ?_
    refine I.callV0i (d' := d - 1) (mi' := mX9_isOver) dX9_greedyDifference_24 lX9_88 eX9_isOver rfl rfl (c_X9_isOver (d := d - 1) hl (by omega) (by first | assumption | exact MW.th (by assumption))) (show d - 1 + 1 ≤ d from by omega) (Nat.le_of_ble_eq_true rfl) ?_
    refine I.if_neB 57 dX9_greedyDifference_27 (by decide) (fun h27 => ?_) (fun h27 => ?_)
    · skip
      rw [gGDif_o h27] at kx
      exact J.fgt (by exact ⟨Or.inr rfl, Or.inr rfl, Or.inl rfl, trivial⟩) (kx _ q3)
    · skip
      have ge := greedy_eq q2.l q2.v h27
      have gb := gBt_greedy q2.l q2.v h27
      have gl := gBt_lt q2.l q2.v h27
      refine J.iload_n 1 dX9_greedyDifference_30 rfl rfl ?_
      refine J.iload_n 2 dX9_greedyDifference_31 rfl rfl ?_
      refine J.aload_n 0 dX9_greedyDifference_32 rfl rfl ?_
      refine J.aload_n 0 dX9_greedyDifference_33 rfl rfl ?_
      refine I.callV0i (d' := d - 1) (mi' := mX9_greedy) dX9_greedyDifference_34 lX9_150 eX9_greedy rfl rfl (c_X9_greedy (d := d - 1) hl (by omega) (by first | assumption | exact MW.th (by assumption))) (show d - 1 + 1 ≤ d from by omega) (Nat.le_of_ble_eq_true rfl) ?_
      refine I.callV1i (d' := d - 1) (mi' := mX9_scoreOfMove) dX9_greedyDifference_37 lX9_94 eX9_scoreOfMove rfl rfl (c_X9_scoreOfMove (d := d - 1) hl (by omega) (by first | assumption | exact MW.th (by assumption)) ge.2.2.2.ok) (show d - 1 + 1 ≤ d from by omega) (Nat.le_of_ble_eq_true rfl) ?_
      refine I.mul dX9_greedyDifference_40 ?_
      refine I.add dX9_greedyDifference_41 ?_
      refine J.istore_n 1 dX9_greedyDifference_42 rfl (by decide) rfl ?_
      refine J.aload_n 0 dX9_greedyDifference_43 rfl rfl ?_
      refine J.aload_n 0 dX9_greedyDifference_44 rfl rfl ?_
      refine I.callV0i (d' := d - 1) (mi' := mX9_greedy) dX9_greedyDifference_45 lX9_150 eX9_greedy rfl rfl (c_X9_greedy (d := d - 1) hl (by omega) (by first | assumption | exact MW.th (by assumption))) (show d - 1 + 1 ≤ d from by omega) (Nat.le_of_ble_eq_true rfl) ?_
      refine I.callV1w (d' := d - 1) (mi' := mX9_makes) dX9_greedyDifference_48 lX9_144 eX9_makes rfl rfl (c_X9_makes (d := d - 1) hl (by omega) (by first | assumption | exact MW.th (by assumption)) ge.2.2.2 (by first | omega | assumption)) (show d - 1 + 1 ≤ d from by omega) (Nat.le_of_ble_eq_true rfl) ?_
      rintro s48 ⟨v48, w48⟩
      refine J.iload_n 2 dX9_greedyDifference_51 rfl rfl ?_
      refine I.neg dX9_greedyDifference_52 ?_
      refine J.istore_n 2 dX9_greedyDifference_53 rfl (by decide) rfl ?_
      refine J.goto 23 dX9_greedyDifference_54 (by decide) ?_
      exact J.fgt (by exact ⟨Or.inr rfl, Or.inr rfl, Or.inr rfl, trivial⟩) (ih (by omega) ⟨v48, q2.l.lay (gPlay_lay q2.l q2.v ge.2.2.2), gPlay_FS q2.l q2.v ge.2.2.2 h27⟩ (q3.row w48) (by omega) (fun s' hs => by have := kx s' hs; rw [gGDif_n h27] at this; exact this))
set_option maxHeartbeats 1000000 in
theorem c_X9_greedyDifference {Γ : jE} (hl : Γ.1.stackTraces = false) {s : Nat → Int → Int} {ε : jEps} {d : Nat} {f : Int → Int} (hd : 5 ≤ d) (p0 : MW s f) (p1 : s 137 2 = 0) : Con Γ (d, 0, 0) mX9_greedyDifference [.ref 137] (jmem s ε) (RQ (fun w s' => gGreedyDif f = w ∧ MFr s s') ε) X0 := by
  refine Con.ofJ (by decide +kernel) (by simp [Value.category]) (Nat.le_of_ble_eq_true rfl) ?_ hl
  have hw := MW.w p0
  refine J.aload_n 0 dX9_greedyDifference_0 rfl rfl ?_
  refine I.iconst dX9_greedyDifference_1 ?_
  refine I.pI 0 rfl dX9_greedyDifference_2 jcls fX9_40 rfl (by decide) rfl ?_
  refine J.aload_n 0 dX9_greedyDifference_5 rfl rfl ?_
  refine I.iconst dX9_greedyDifference_6 ?_
  refine I.bipush dX9_greedyDifference_7 (by decide) ?_
  refine I.callV2w (d' := d - 1) (mi' := mX9_copies) dX9_greedyDifference_9 lX9_56 eX9_copies rfl rfl (c_X9_copies (d := d - 1) hl (by omega) (by first | omega | assumption) (by first | omega | assumption) (by first | omega | assumption)) (show d - 1 + 1 ≤ d from by omega) (Nat.le_of_ble_eq_true rfl) ?_
  rintro s9 ⟨u9, v9, w9⟩
  refine J.aload_n 0 dX9_greedyDifference_12 rfl rfl ?_
  refine I.sipush dX9_greedyDifference_13 (by decide) ?_
  refine I.pI 2 rfl dX9_greedyDifference_16 jcls fX9_43 rfl (by decide) rfl ?_
  have t9 : TFr s (up s9 137 2 2552) := ⟨fun q i a b c => by rw [up_ne (Or.inl a), u9 q i b, up_ne (Or.inl a)], fun i a b => by rw [up_ne (Or.inr b), u9 _ _ (by decide), up_ne (Or.inr a)], up_eq _ _ _ _, by rw [up_ne (Or.inr (by decide)), u9 _ _ (by decide), up_eq], fun j hj => by rw [up_ne (Or.inl (by decide)), v9 j (by omega), up_ne (Or.inl (by decide))]⟩
  have r9 : MW (up s9 137 2 2552) f := ⟨⟨by rw [up_eq]; omega, fun j a b => by rw [up_eq, up_ne (Or.inl (by decide)), show (2552 : Int) + j = 232 * 11 + j by omega, w9 j a b, up_ne (Or.inl (by decide))]; have := p0.m.2 j a b; rw [p1] at this; rw [← this, show (232 : Int) * 0 + j = 0 + j by omega]⟩, p0.l, p0.v⟩
  refine I.iconst dX9_greedyDifference_19 ?_
  refine J.istore_n 1 dX9_greedyDifference_20 rfl (by decide) rfl ?_
  refine I.iconst dX9_greedyDifference_21 ?_
  refine J.istore_n 2 dX9_greedyDifference_22 rfl (by decide) rfl ?_
  refine J.fgt (by exact ⟨Or.inr rfl, Or.inr rfl, Or.inr rfl, trivial⟩) (k_X9_greedyDifference_23 hl (by omega) p0 p1 ((21 - gBt f).toNat) rfl r9 t9 ((gBt_rng p0.l p0.v).2) ?_)
  rintro s23 h23
  refine J.aload_n 0 dX9_greedyDifference_57 rfl rfl ?_
  refine I.iconst dX9_greedyDifference_58 ?_
  refine I.pI 2 rfl dX9_greedyDifference_59 jcls fX9_43 rfl (by decide) rfl ?_
  refine J.iload_n 1 dX9_greedyDifference_62 rfl rfl ?_
  exact I.iretQ dX9_greedyDifference_63 rfl ⟨by unfold gGreedyDif; exact gGDif_eq p0.l p0.v (by have := gBt_rng p0.l p0.v; omega) (by have := gBt_rng p0.l p0.v; omega), h23.back⟩
