set_option maxHeartbeats 1000000 in
theorem c_X9_valueOf {Γ : jE} (hl : Γ.1.stackTraces = false) {s : Nat → Int → Int} {ε : jEps} {d : Nat} {z : Int} {f : Int → Int} (hd : 126 ≤ d) (p0 : MW s f) (p1 : VI oV s f) (p2 : gLegal f z) : Con Γ (d, 0, 0) mX9_valueOf [.ref 137, .int (iI z)] (jmem s ε) (RQ (fun w s' => gVal f z = w ∧ VI oV s' f ∧ VFr s s') ε) X0 := by
  refine Con.ofJ (by decide +kernel) (by simp [Value.category]) (Nat.le_of_ble_eq_true rfl) ?_ hl
  have hw := MW.w p0
  have z6 := gLegal_rng hw.2.2.1 p2.ok
  refine J.iload_n 1 dX9_valueOf_0 rfl rfl ?_
  refine I.bipush dX9_valueOf_1 (by decide) ?_
  refine I.icmp_eq 12 dX9_valueOf_3 (by decide) (by omega) (by omega) (fun h3 => ?_) (fun h3 => ?_)
  · skip
    have e6 : z = 6 := by omega
    subst e6
    refine J.aload_n 0 dX9_valueOf_12 rfl rfl ?_
    refine I.iconst dX9_valueOf_13 ?_
    refine I.callV1i (d' := d - 1) (mi' := mX9_get) dX9_valueOf_14 lX9_46 eX9_get rfl rfl (c_X9_get (d := d - 1) hl (by omega) (by first | assumption | exact MW.m (by assumption) | exact MV.th (by assumption) | exact MW.m (MW.th (by assumption))) (by first | omega | assumption)) (show d - 1 + 1 ≤ d from by omega) (Nat.le_of_ble_eq_true rfl) ?_
    refine I.iconst dX9_valueOf_17 ?_
    refine I.icmp_ne 25 dX9_valueOf_18 (by decide) (by omega) (by omega) (fun h18 => ?_) (fun h18 => ?_)
    · skip
      refine J.aload_n 0 dX9_valueOf_25 rfl rfl ?_
      refine I.iconst dX9_valueOf_26 ?_
      refine I.callV1q (d' := d - 1) (mi' := mX9_optimal) dX9_valueOf_27 lX9_115 eX9_optimal rfl rfl (c_X9_optimal (d := d - 1) hl (by omega) (by first | assumption | exact MW.th (by assumption)) (by assumption) (by first | omega | assumption)) (show d - 1 + 1 ≤ d from by omega) (Nat.le_of_ble_eq_true rfl) ?_
      rintro _ s27 ⟨rfl, i27, v27⟩
      refine I.neg dX9_valueOf_30 ?_
      exact I.iretQ dX9_valueOf_31 rfl ⟨gVal_p0 h18, i27, v27⟩
    · skip
      refine I.iconst dX9_valueOf_21 ?_
      refine J.goto 31 dX9_valueOf_22 (by decide) ?_
      exact I.iretQ dX9_valueOf_31 rfl ⟨gVal_p1 h18, p1, VFr.refl s⟩
  · skip
    have hb := p2.bn h3
    refine J.aload_n 0 dX9_valueOf_6 rfl rfl ?_
    refine J.iload_n 1 dX9_valueOf_7 rfl rfl ?_
    refine I.callV1q (d' := d - 1) (mi' := mX9_burnValue) dX9_valueOf_8 lX9_118 eX9_burnValue rfl rfl (c_X9_burnValue2 (d := d - 1) hl (by omega) (by first | assumption | exact MW.th (by assumption)) (by assumption) hb) (show d - 1 + 1 ≤ d from by omega) (Nat.le_of_ble_eq_true rfl) ?_
    rintro _ s8 ⟨rfl, i8, v8⟩
    exact I.iretQ dX9_valueOf_11 rfl ⟨gVal_b h3, i8, v8⟩
set_option maxHeartbeats 1000000 in
theorem c_X9_optimalNow {Γ : jE} (hl : Γ.1.stackTraces = false) {s : Nat → Int → Int} {ε : jEps} {d : Nat} {f : Int → Int} (hd : 121 ≤ d) (p0 : MW s f) (p1 : VI oV s f) : Con Γ (d, 0, 0) mX9_optimalNow [.ref 137] (jmem s ε) (RQ (fun w s' => gNow f = w ∧ VI oV s' f ∧ VFr s s') ε) X0 := by
  refine Con.ofJ (by decide +kernel) (by simp [Value.category]) (Nat.le_of_ble_eq_true rfl) ?_ hl
  have hw := MW.w p0
  refine J.aload_n 0 dX9_optimalNow_0 rfl rfl ?_
  refine I.callV0i (d' := d - 1) (mi' := mX9_isOver) dX9_optimalNow_1 lX9_88 eX9_isOver rfl rfl (c_X9_isOver (d := d - 1) hl (by omega) (by first | assumption | exact MW.th (by assumption))) (show d - 1 + 1 ≤ d from by omega) (Nat.le_of_ble_eq_true rfl) ?_
  refine I.if_eqB 11 dX9_optimalNow_4 (by decide) (fun h4 => ?_) (fun h4 => ?_)
  · skip
    refine J.aload_n 0 dX9_optimalNow_11 rfl rfl ?_
    refine J.aload_n 0 dX9_optimalNow_12 rfl rfl ?_
    refine I.iconst dX9_optimalNow_13 ?_
    refine I.callV1i (d' := d - 1) (mi' := mX9_get) dX9_optimalNow_14 lX9_46 eX9_get rfl rfl (c_X9_get (d := d - 1) hl (by omega) (by first | assumption | exact MW.m (by assumption) | exact MV.th (by assumption) | exact MW.m (MW.th (by assumption))) (by first | omega | assumption)) (show d - 1 + 1 ≤ d from by omega) (Nat.le_of_ble_eq_true rfl) ?_
    refine I.iconst dX9_optimalNow_17 ?_
    refine I.icmp_ne 25 dX9_optimalNow_18 (by decide) (by omega) (by omega) (fun h18 => ?_) (fun h18 => ?_)
    · skip
      refine I.iconst dX9_optimalNow_25 ?_
      refine I.callV1q (d' := d - 1) (mi' := mX9_optimal) dX9_optimalNow_26 lX9_115 eX9_optimal rfl rfl (c_X9_optimal (d := d - 1) hl (by omega) (by first | assumption | exact MW.th (by assumption)) (by assumption) (by omega)) (show d - 1 + 1 ≤ d from by omega) (Nat.le_of_ble_eq_true rfl) ?_
      rintro _ s26 ⟨rfl, i26, v26⟩
      exact I.iretQ dX9_optimalNow_29 rfl ⟨gNow_n h4, i26, v26⟩
    · skip
      refine I.iconst dX9_optimalNow_21 ?_
      refine J.goto 26 dX9_optimalNow_22 (by decide) ?_
      refine I.callV1q (d' := d - 1) (mi' := mX9_optimal) dX9_optimalNow_26 lX9_115 eX9_optimal rfl rfl (c_X9_optimal (d := d - 1) hl (by omega) (by first | assumption | exact MW.th (by assumption)) (by assumption) (by omega)) (show d - 1 + 1 ≤ d from by omega) (Nat.le_of_ble_eq_true rfl) ?_
      rintro _ s26 ⟨rfl, i26, v26⟩
      exact I.iretQ dX9_optimalNow_29 rfl ⟨gNow_n h4, i26, v26⟩
  · skip
    refine I.iconst dX9_optimalNow_7 ?_
    refine J.goto 29 dX9_optimalNow_8 (by decide) ?_
    exact I.iretQ dX9_optimalNow_29 rfl ⟨gNow_o h4, p1, VFr.refl s⟩
set_option maxHeartbeats 1000000 in
theorem k_X9_firstOptimal_9 {Γ : jE} (hl : Γ.1.stackTraces = false) {s : Nat → Int → Int} {ε : jEps} {d : Nat} {f : Int → Int} (hd : 127 ≤ d) (p0 : MW s f) (p1 : VI oV s f) (p2 : ¬ gOver f) {mc ms : Nat} {P : Option Value → jM → Prop} {X : String → jM → Prop} : ∀ (k : Nat) {z : Nat → Int → Int} {i b : Int} (q0 : ((k : Nat) : Int) = gMoves f - i) (q1 : 1 ≤ i) (q2 : VI oV z f) (q3 : VFr s z) (q4 : 0 ≤ b ∧ b < gMoves f) (kx : ∀ s', (VI oV s' f ∧ VFr s s') → J Γ (d, mc, ms) mX9_firstOptimal 43 [some (.ref 137), some (.int (iI (foldF (gFoS f) k i b))), none, none] [] (jmem s' ε) P X), J Γ (d, mc, ms) mX9_firstOptimal 9 [some (.ref 137), some (.int (iI (b))), some (.int (iI (gMoves f))), some (.int (iI (i)))] [] (jmem z ε) P X := by
  have hw := MW.w p0
  have m7 := gMoves_rng hw.2.2.1
  have mp := gMoves_pos hw.2.2.1 p2
  intro k
  induction k with
  | zero =>
    intro z i b q0 q1 q2 q3 q4 kx
    refine J.iload_n 3 dX9_firstOptimal_9 rfl rfl ?_
    refine J.iload_n 2 dX9_firstOptimal_10 rfl rfl ?_
    refine I.icmp_ge 43 dX9_firstOptimal_11 (by decide) (by omega) (by omega) (fun h11 => ?_) (fun h11 => ?_)
    · skip
      exact J.fgt (by exact ⟨Or.inr rfl, Or.inr rfl, Or.inl rfl, Or.inl rfl, trivial⟩) (kx _ ⟨q2, q3⟩)
    · exact absurd h11 (by omega)
  | succ k ih =>
    intro z i b q0 q1 q2 q3 q4 kx
    refine J.iload_n 3 dX9_firstOptimal_9 rfl rfl ?_
    refine J.iload_n 2 dX9_firstOptimal_10 rfl rfl ?_
    refine I.icmp_ge 43 dX9_firstOptimal_11 (by decide) (by omega) (by omega) (fun h11 => ?_) (fun h11 => ?_)
    · exact absurd h11 (by omega)
    · skip
      have lgi := gMvAt_legal (f := f) hw.2.2.1 (i := i) (by omega)
      have lgb := gMvAt_legal (f := f) hw.2.2.1 (i := b) (by omega)
      have ri := gVal_rng p0.l p0.v lgi
      have rb := gVal_rng p0.l p0.v lgb
      refine J.aload_n 0 dX9_firstOptimal_14 rfl rfl ?_
      refine J.aload_n 0 dX9_firstOptimal_15 rfl rfl ?_
      refine J.iload_n 3 dX9_firstOptimal_16 rfl rfl ?_
      refine I.callV1i (d' := d - 1) (mi' := mX9_moveAt) dX9_firstOptimal_17 lX9_132 eX9_moveAt rfl rfl (c_X9_moveAt (d := d - 1) hl (by omega) (q3.m p0) (by first | omega | assumption)) (show d - 1 + 1 ≤ d from by omega) (Nat.le_of_ble_eq_true rfl) ?_
      refine I.callV1q (d' := d - 1) (mi' := mX9_valueOf) dX9_firstOptimal_20 lX9_135 eX9_valueOf rfl rfl (c_X9_valueOf (d := d - 1) hl (by omega) (q3.m p0) q2 lgi) (show d - 1 + 1 ≤ d from by omega) (Nat.le_of_ble_eq_true rfl) ?_
      rintro _ s20 ⟨rfl, i20, v20⟩
      refine J.aload_n 0 dX9_firstOptimal_23 rfl rfl ?_
      refine J.aload_n 0 dX9_firstOptimal_24 rfl rfl ?_
      refine J.iload_n 1 dX9_firstOptimal_25 rfl rfl ?_
      refine I.callV1i (d' := d - 1) (mi' := mX9_moveAt) dX9_firstOptimal_26 lX9_132 eX9_moveAt rfl rfl (c_X9_moveAt (d := d - 1) hl (by omega) ((q3.trans v20).m p0) (by first | omega | assumption)) (show d - 1 + 1 ≤ d from by omega) (Nat.le_of_ble_eq_true rfl) ?_
      refine I.callV1q (d' := d - 1) (mi' := mX9_valueOf) dX9_firstOptimal_29 lX9_135 eX9_valueOf rfl rfl (c_X9_valueOf (d := d - 1) hl (by omega) ((q3.trans v20).m p0) i20 lgb) (show d - 1 + 1 ≤ d from by omega) (Nat.le_of_ble_eq_true rfl) ?_
      rintro _ s29 ⟨rfl, i29, v29⟩
      refine I.icmp_le 37 dX9_firstOptimal_32 (by decide) (by omega) (by omega) (fun h32 => ?_) (fun h32 => ?_)
      · skip
        have e : gFoS f i b = b := if_neg (by omega)
        refine I.iinc dX9_firstOptimal_37 rfl rfl ?_
        refine J.goto 9 dX9_firstOptimal_40 (by decide) ?_
        exact J.fgt (by exact ⟨Or.inr rfl, Or.inr rfl, Or.inr rfl, Or.inr rfl, trivial⟩) (ih (by omega) (by omega) i29 ((q3.trans v20).trans v29) (by omega) (fun s' hs => by have := kx s' hs; rw [foldF_s, e] at this; exact this))
      · skip
        have e : gFoS f i b = i := if_pos (by omega)
        refine J.iload_n 3 dX9_firstOptimal_35 rfl rfl ?_
        refine J.istore_n 1 dX9_firstOptimal_36 rfl (by decide) rfl ?_
        refine I.iinc dX9_firstOptimal_37 rfl rfl ?_
        refine J.goto 9 dX9_firstOptimal_40 (by decide) ?_
        exact J.fgt (by exact ⟨Or.inr rfl, Or.inr rfl, Or.inr rfl, Or.inr rfl, trivial⟩) (ih (by omega) (by omega) i29 ((q3.trans v20).trans v29) (by omega) (fun s' hs => by have := kx s' hs; rw [foldF_s, e] at this; exact this))
set_option maxHeartbeats 1000000 in
theorem c_X9_firstOptimal {Γ : jE} (hl : Γ.1.stackTraces = false) {s : Nat → Int → Int} {ε : jEps} {d : Nat} {f : Int → Int} (hd : 127 ≤ d) (p0 : MW s f) (p1 : VI oV s f) (p2 : ¬ gOver f) : Con Γ (d, 0, 0) mX9_firstOptimal [.ref 137] (jmem s ε) (RQ (fun w s' => gFo f = w ∧ VI oV s' f ∧ VFr s s') ε) X0 := by
  refine Con.ofJ (by decide +kernel) (by simp [Value.category]) (Nat.le_of_ble_eq_true rfl) ?_ hl
  have hw := MW.w p0
  have m7 := gMoves_rng hw.2.2.1
  have mp := gMoves_pos hw.2.2.1 p2
  refine I.iconst dX9_firstOptimal_0 ?_
  refine J.istore_n 1 dX9_firstOptimal_1 rfl (by decide) rfl ?_
  refine J.aload_n 0 dX9_firstOptimal_2 rfl rfl ?_
  refine I.callV0i (d' := d - 1) (mi' := mX9_moves) dX9_firstOptimal_3 lX9_129 eX9_moves rfl rfl (c_X9_moves (d := d - 1) hl (by omega) (by first | assumption | exact MW.th (by assumption))) (show d - 1 + 1 ≤ d from by omega) (Nat.le_of_ble_eq_true rfl) ?_
  refine J.istore_n 2 dX9_firstOptimal_6 rfl (by decide) rfl ?_
  refine I.iconst dX9_firstOptimal_7 ?_
  refine J.istore_n 3 dX9_firstOptimal_8 rfl (by decide) rfl ?_
  refine J.fgt (by exact ⟨Or.inr rfl, Or.inr rfl, Or.inr rfl, Or.inr rfl, trivial⟩) (k_X9_firstOptimal_9 hl (by omega) p0 p1 p2 ((gMoves f - 1).toNat) (by omega) (by omega) p1 (VFr.refl s) (by omega) ?_)
  rintro s9 ⟨i9, v9⟩
  refine J.iload_n 1 dX9_firstOptimal_43 rfl rfl ?_
  exact I.iretQ dX9_firstOptimal_44 rfl ⟨rfl, i9, v9⟩
set_option maxHeartbeats 1000000 in
theorem k_X9_manyOptimal_9 {Γ : jE} (hl : Γ.1.stackTraces = false) {s : Nat → Int → Int} {ε : jEps} {d : Nat} {f : Int → Int} (hd : 127 ≤ d) (p0 : MW s f) (p1 : VI oV s f) {mc ms : Nat} {P : Option Value → jM → Prop} {X : String → jM → Prop} : ∀ (k : Nat) {z : Nat → Int → Int} {i a : Int} (q0 : ((k : Nat) : Int) = gMoves f - i) (q1 : 0 ≤ i) (q2 : VI oV z f) (q3 : VFr s z) (kx : ∀ s', (VI oV s' f ∧ VFr s s') → J Γ (d, mc, ms) mX9_manyOptimal 39 [some (.ref 137), some (.int (iI (foldF (gManyS f) k i a))), none, none] [] (jmem s' ε) P X), J Γ (d, mc, ms) mX9_manyOptimal 9 [some (.ref 137), some (.int (iI (a))), some (.int (iI (gMoves f))), some (.int (iI (i)))] [] (jmem z ε) P X := by
  have hw := MW.w p0
  have m7 := gMoves_rng hw.2.2.1
  intro k
  induction k with
  | zero =>
    intro z i a q0 q1 q2 q3 kx
    refine J.iload_n 3 dX9_manyOptimal_9 rfl rfl ?_
    refine J.iload_n 2 dX9_manyOptimal_10 rfl rfl ?_
    refine I.icmp_ge 39 dX9_manyOptimal_11 (by decide) (by omega) (by omega) (fun h11 => ?_) (fun h11 => ?_)
    · skip
      exact J.fgt (by exact ⟨Or.inr rfl, Or.inr rfl, Or.inl rfl, Or.inl rfl, trivial⟩) (kx _ ⟨q2, q3⟩)
    · exact absurd h11 (by omega)
  | succ k ih =>
    intro z i a q0 q1 q2 q3 kx
    refine J.iload_n 3 dX9_manyOptimal_9 rfl rfl ?_
    refine J.iload_n 2 dX9_manyOptimal_10 rfl rfl ?_
    refine I.icmp_ge 39 dX9_manyOptimal_11 (by decide) (by omega) (by omega) (fun h11 => ?_) (fun h11 => ?_)
    · exact absurd h11 (by omega)
    · skip
      have lgi := gMvAt_legal (f := f) hw.2.2.1 (i := i) (by omega)
      have ri := gVal_rng p0.l p0.v lgi
      have rn := gNow_rng p0.l p0.v
      refine J.aload_n 0 dX9_manyOptimal_14 rfl rfl ?_
      refine J.aload_n 0 dX9_manyOptimal_15 rfl rfl ?_
      refine J.iload_n 3 dX9_manyOptimal_16 rfl rfl ?_
      refine I.callV1i (d' := d - 1) (mi' := mX9_moveAt) dX9_manyOptimal_17 lX9_132 eX9_moveAt rfl rfl (c_X9_moveAt (d := d - 1) hl (by omega) (q3.m p0) (by first | omega | assumption)) (show d - 1 + 1 ≤ d from by omega) (Nat.le_of_ble_eq_true rfl) ?_
      refine I.callV1q (d' := d - 1) (mi' := mX9_valueOf) dX9_manyOptimal_20 lX9_135 eX9_valueOf rfl rfl (c_X9_valueOf (d := d - 1) hl (by omega) (q3.m p0) q2 lgi) (show d - 1 + 1 ≤ d from by omega) (Nat.le_of_ble_eq_true rfl) ?_
      rintro _ s20 ⟨rfl, i20, v20⟩
      refine J.aload_n 0 dX9_manyOptimal_23 rfl rfl ?_
      refine I.callV0q (d' := d - 1) (mi' := mX9_optimalNow) dX9_manyOptimal_24 lX9_280 eX9_optimalNow rfl rfl (c_X9_optimalNow (d := d - 1) hl (by omega) ((q3.trans v20).m p0) i20) (show d - 1 + 1 ≤ d from by omega) (Nat.le_of_ble_eq_true rfl) ?_
      rintro _ s24 ⟨rfl, i24, v24⟩
      refine I.icmp_ne 33 dX9_manyOptimal_27 (by decide) (by omega) (by omega) (fun h27 => ?_) (fun h27 => ?_)
      · skip
        have e : gManyS f i a = a := if_neg h27
        refine I.iinc dX9_manyOptimal_33 rfl rfl ?_
        refine J.goto 9 dX9_manyOptimal_36 (by decide) ?_
        exact J.fgt (by exact ⟨Or.inr rfl, Or.inr rfl, Or.inr rfl, Or.inr rfl, trivial⟩) (ih (by omega) (by omega) i24 ((q3.trans v20).trans v24) (fun s' hs => by have := kx s' hs; rw [foldF_s, e] at this; exact this))
      · skip
        have e : gManyS f i a = a + 1 := if_pos h27
        refine I.iinc dX9_manyOptimal_30 rfl rfl ?_
        refine I.iinc dX9_manyOptimal_33 rfl rfl ?_
        refine J.goto 9 dX9_manyOptimal_36 (by decide) ?_
        exact J.fgt (by exact ⟨Or.inr rfl, Or.inr rfl, Or.inr rfl, Or.inr rfl, trivial⟩) (ih (by omega) (by omega) i24 ((q3.trans v20).trans v24) (fun s' hs => by have := kx s' hs; rw [foldF_s, e] at this; exact this))
set_option maxHeartbeats 1000000 in
theorem c_X9_manyOptimal {Γ : jE} (hl : Γ.1.stackTraces = false) {s : Nat → Int → Int} {ε : jEps} {d : Nat} {f : Int → Int} (hd : 127 ≤ d) (p0 : MW s f) (p1 : VI oV s f) : Con Γ (d, 0, 0) mX9_manyOptimal [.ref 137] (jmem s ε) (RQ (fun w s' => gMany f = w ∧ VI oV s' f ∧ VFr s s') ε) X0 := by
  refine Con.ofJ (by decide +kernel) (by simp [Value.category]) (Nat.le_of_ble_eq_true rfl) ?_ hl
  have hw := MW.w p0
  have m7 := gMoves_rng hw.2.2.1
  refine I.iconst dX9_manyOptimal_0 ?_
  refine J.istore_n 1 dX9_manyOptimal_1 rfl (by decide) rfl ?_
  refine J.aload_n 0 dX9_manyOptimal_2 rfl rfl ?_
  refine I.callV0i (d' := d - 1) (mi' := mX9_moves) dX9_manyOptimal_3 lX9_129 eX9_moves rfl rfl (c_X9_moves (d := d - 1) hl (by omega) (by first | assumption | exact MW.th (by assumption))) (show d - 1 + 1 ≤ d from by omega) (Nat.le_of_ble_eq_true rfl) ?_
  refine J.istore_n 2 dX9_manyOptimal_6 rfl (by decide) rfl ?_
  refine I.iconst dX9_manyOptimal_7 ?_
  refine J.istore_n 3 dX9_manyOptimal_8 rfl (by decide) rfl ?_
  refine J.fgt (by exact ⟨Or.inr rfl, Or.inr rfl, Or.inr rfl, Or.inr rfl, trivial⟩) (k_X9_manyOptimal_9 hl (by omega) p0 p1 ((gMoves f).toNat) (by omega) (by omega) p1 (VFr.refl s) ?_)
  rintro s9 ⟨i9, v9⟩
  refine J.iload_n 1 dX9_manyOptimal_39 rfl rfl ?_
  exact I.iretQ dX9_manyOptimal_40 rfl ⟨rfl, i9, v9⟩
set_option maxHeartbeats 1000000 in
theorem c_X9_tries {Γ : jE} (hl : Γ.1.stackTraces = false) {s : Nat → Int → Int} {ε : jEps} {d : Nat} {f : Int → Int} (hd : 3 ≤ d) (p0 : MW s f) (p1 : s 137 2 = 0) (p2 : s 137 0 = 0) : Con Γ (d, 0, 0) mX9_tries [.ref 137] (jmem s ε) (RW (fun s' => TFr s s' ∧ MW s' f ∧ VI oV s' f) ε) X0 := by
  refine Con.ofJ (by decide +kernel) (by simp [Value.category]) (Nat.le_of_ble_eq_true rfl) ?_ hl
  have hw := MW.w p0
  refine J.aload_n 0 dX9_tries_0 rfl rfl ?_
  refine I.iconst dX9_tries_1 ?_
  refine I.bipush dX9_tries_2 (by decide) ?_
  refine I.callV2w (d' := d - 1) (mi' := mX9_copies) dX9_tries_4 lX9_56 eX9_copies rfl rfl (c_X9_copies (d := d - 1) hl (by omega) (by first | omega | assumption) (by first | omega | assumption) (by first | omega | assumption)) (show d - 1 + 1 ≤ d from by omega) (Nat.le_of_ble_eq_true rfl) ?_
  rintro s4 ⟨u4, v4, w4⟩
  refine J.aload_n 0 dX9_tries_7 rfl rfl ?_
  refine I.sipush dX9_tries_8 (by decide) ?_
  refine I.pI 2 rfl dX9_tries_11 jcls fX9_43 rfl (by decide) rfl ?_
  have t4 : TFr s (up s4 137 2 2552) := ⟨fun q i a b c => by rw [up_ne (Or.inl a), u4 q i b], fun i a b => by rw [up_ne (Or.inr b), u4 _ _ (by decide)], up_eq _ _ _ _, by rw [up_ne (Or.inr (by decide)), u4 _ _ (by decide)]; exact p2, fun j hj => by rw [up_ne (Or.inl (by decide)), v4 j (by omega)]⟩
  have r4 : MW (up s4 137 2 2552) f := ⟨⟨by rw [up_eq]; omega, fun j a b => by rw [up_eq, up_ne (Or.inl (by decide)), show (2552 : Int) + j = 232 * 11 + j by omega, w4 j a b]; have := p0.m.2 j a b; rw [p1] at this; rw [← this, show (232 : Int) * 0 + j = 0 + j by omega]⟩, p0.l, p0.v⟩
  refine J.aload_n 0 dX9_tries_14 rfl rfl ?_
  refine I.callV0w (d' := d - 1) (mi' := mX9_forgets) dX9_tries_15 lX9_138 eX9_forgets rfl rfl (c_X9_forgets (d := d - 1) hl (by omega) r4) (show d - 1 + 1 ≤ d from by omega) (Nat.le_of_ble_eq_true rfl) ?_
  rintro s15 ⟨i15, v15⟩
  exact I.vretQ dX9_tries_18 rfl ⟨t4.vals v15, v15.m r4, VI.none p0.l p0.v i15⟩
set_option maxHeartbeats 1000000 in
theorem k_X9_goesAlong_2 {Γ : jE} (hl : Γ.1.stackTraces = false) {s : Nat → Int → Int} {ε : jEps} {d : Nat} {n : Int} {f : Int → Int} (hd : 128 ≤ d) (p0 : MW s f) (p1 : VI oV s f) (p2 : 0 ≤ n ∧ n < 2147483648) {mc ms : Nat} {P : Option Value → jM → Prop} {X : String → jM → Prop} : ∀ (k : Nat) {z : Nat → Int → Int} {g : Int → Int} {i : Int} (q0 : ((k : Nat) : Int) = n - i) (q1 : 0 ≤ i) (q2 : MW z g) (q3 : VI oV z g) (q4 : RFr s z) (kx : ∀ s', (MW s' (gRun k g) ∧ VI oV s' (gRun k g) ∧ RFr s s') → J Γ (d, mc, ms) mX9_goesAlong 32 [some (.ref 137), none, some (.int (iI (i + gCnt k g)))] [] (jmem s' ε) P X), J Γ (d, mc, ms) mX9_goesAlong 2 [some (.ref 137), some (.int (iI n)), some (.int (iI (i)))] [] (jmem z ε) P X := by
  have hw := MW.w p0
  intro k
  induction k with
  | zero =>
    intro z g i q0 q1 q2 q3 q4 kx
    refine J.iload_n 2 dX9_goesAlong_2 rfl rfl ?_
    refine J.iload_n 1 dX9_goesAlong_3 rfl rfl ?_
    refine I.icmp_ge 32 dX9_goesAlong_4 (by decide) (by omega) (by omega) (fun h4 => ?_) (fun h4 => ?_)
    · skip
      rw [show i + gCnt 0 g = i + 0 from rfl, Int.add_zero] at kx
      exact J.fgt (by exact ⟨Or.inr rfl, Or.inl rfl, Or.inr rfl, trivial⟩) (kx _ ⟨q2, q3, q4⟩)
    · exact absurd h4 (by omega)
  | succ k ih =>
    intro z g i q0 q1 q2 q3 q4 kx
    refine J.iload_n 2 dX9_goesAlong_2 rfl rfl ?_
    refine J.iload_n 1 dX9_goesAlong_3 rfl rfl ?_
    refine I.icmp_ge 32 dX9_goesAlong_4 (by decide) (by omega) (by omega) (fun h4 => ?_) (fun h4 => ?_)
    · exact absurd h4 (by omega)
    · skip
      refine J.aload_n 0 dX9_goesAlong_7 rfl rfl ?_
      refine I.callV0i (d' := d - 1) (mi' := mX9_isOver) dX9_goesAlong_8 lX9_88 eX9_isOver rfl rfl (c_X9_isOver (d := d - 1) hl (by omega) q2) (show d - 1 + 1 ≤ d from by omega) (Nat.le_of_ble_eq_true rfl) ?_
      refine I.if_neB 32 dX9_goesAlong_11 (by decide) (fun h11 => ?_) (fun h11 => ?_)
      · skip
        have kx : ∀ s', (MW s' g ∧ VI oV s' g ∧ RFr s s') → J Γ (d, mc, ms) mX9_goesAlong 32 [some (.ref 137), none, some (.int (iI i))] [] (jmem s' ε) P X := fun s' hs => by have := kx s' (by rw [gRun_o h11]; exact hs); rw [gCnt_o h11, Int.add_zero] at this; exact this
        exact J.fgt (by exact ⟨Or.inr rfl, Or.inl rfl, Or.inr rfl, trivial⟩) (kx _ ⟨q2, q3, q4⟩)
      · skip
        have gw := q2.w
        have fr := gFo_rng gw.2.2.1 h11
        have m7 := gMoves_rng gw.2.2.1
        have lg := gFo_legal q2.l q2.v h11
        refine J.aload_n 0 dX9_goesAlong_14 rfl rfl ?_
        refine J.aload_n 0 dX9_goesAlong_15 rfl rfl ?_
        refine J.aload_n 0 dX9_goesAlong_16 rfl rfl ?_
        refine I.callV0q (d' := d - 1) (mi' := mX9_firstOptimal) dX9_goesAlong_17 lX9_141 eX9_firstOptimal rfl rfl (c_X9_firstOptimal (d := d - 1) hl (by omega) q2 q3 h11) (show d - 1 + 1 ≤ d from by omega) (Nat.le_of_ble_eq_true rfl) ?_
        rintro _ s17 ⟨rfl, i17, v17⟩
        refine I.callV1i (d' := d - 1) (mi' := mX9_moveAt) dX9_goesAlong_20 lX9_132 eX9_moveAt rfl rfl (c_X9_moveAt (d := d - 1) hl (by omega) (v17.m q2) (by omega)) (show d - 1 + 1 ≤ d from by omega) (Nat.le_of_ble_eq_true rfl) ?_
        refine I.callV1w (d' := d - 1) (mi' := mX9_makes) dX9_goesAlong_23 lX9_144 eX9_makes rfl rfl (c_X9_makes (d := d - 1) hl (by omega) (v17.m q2) lg h11) (show d - 1 + 1 ≤ d from by omega) (Nat.le_of_ble_eq_true rfl) ?_
        rintro s23 ⟨v23, w23⟩
        refine I.iinc dX9_goesAlong_26 rfl rfl ?_
        refine J.goto 2 dX9_goesAlong_29 (by decide) ?_
        exact J.fgt (by exact ⟨Or.inr rfl, Or.inr rfl, Or.inr rfl, trivial⟩) (ih (by omega) (by omega) ⟨v23, q2.l.lay (gPlay_lay q2.l q2.v lg), gPlay_FS q2.l q2.v lg h11⟩ ((i17.play q2.l q2.v lg h11).keep fun j => w23.1 _ _ (by decide)) (q4.step v17 w23) (fun s' hs => by have := kx s' (by rw [gRun_n h11]; exact hs); have e : i + (gCnt k (gPlay g (gMvAt g (gFo g))) + 1) = i + 1 + gCnt k (gPlay g (gMvAt g (gFo g))) := (by omega); rw [gCnt_n h11, e] at this; exact this))
set_option maxHeartbeats 1000000 in
theorem c_X9_goesAlong {Γ : jE} (hl : Γ.1.stackTraces = false) {s : Nat → Int → Int} {ε : jEps} {d : Nat} {n : Int} {f : Int → Int} (hd : 128 ≤ d) (p0 : MW s f) (p1 : VI oV s f) (p2 : 0 ≤ n ∧ n < 2147483648) : Con Γ (d, 0, 0) mX9_goesAlong [.ref 137, .int (iI n)] (jmem s ε) (RQ (fun w s' => gCnt n.toNat f = w ∧ MW s' (gRun n.toNat f) ∧ VI oV s' (gRun n.toNat f) ∧ RFr s s') ε) X0 := by
  refine Con.ofJ (by decide +kernel) (by simp [Value.category]) (Nat.le_of_ble_eq_true rfl) ?_ hl
  have hw := MW.w p0
  refine I.iconst dX9_goesAlong_0 ?_
  refine J.istore_n 2 dX9_goesAlong_1 rfl (by decide) rfl ?_
  refine J.fgt (by exact ⟨Or.inr rfl, Or.inr rfl, Or.inr rfl, trivial⟩) (k_X9_goesAlong_2 hl (by omega) p0 p1 p2 (n.toNat) (by omega) (by omega) p0 p1 (RFr.refl s) ?_)
  rintro s2 ⟨r2, i2, w2⟩
  refine J.iload_n 2 dX9_goesAlong_32 rfl rfl ?_
  exact I.iretQ dX9_goesAlong_33 rfl ⟨by omega, r2, i2, w2⟩
set_option maxHeartbeats 1000000 in
theorem c_X9_optimalDifference {Γ : jE} (hl : Γ.1.stackTraces = false) {s : Nat → Int → Int} {ε : jEps} {d : Nat} {f : Int → Int} (hd : 122 ≤ d) (p0 : MW s f) (p1 : s 137 2 = 0) : Con Γ (d, 0, 0) mX9_optimalDifference [.ref 137] (jmem s ε) (RQ (fun w s' => gNow f = w ∧ MFr s s') ε) X0 := by
  refine Con.ofJ (by decide +kernel) (by simp [Value.category]) (Nat.le_of_ble_eq_true rfl) ?_ hl
  have hw := MW.w p0
  refine J.aload_n 0 dX9_optimalDifference_0 rfl rfl ?_
  refine I.iconst dX9_optimalDifference_1 ?_
  refine I.pI 0 rfl dX9_optimalDifference_2 jcls fX9_40 rfl (by decide) rfl ?_
  refine J.aload_n 0 dX9_optimalDifference_5 rfl rfl ?_
  refine I.callV0w (d' := d - 1) (mi' := mX9_forgets) dX9_optimalDifference_6 lX9_138 eX9_forgets rfl rfl (c_X9_forgets (d := d - 1) hl (by omega) (by first | assumption | exact MW.th (by assumption))) (show d - 1 + 1 ≤ d from by omega) (Nat.le_of_ble_eq_true rfl) ?_
  rintro s6 ⟨i6, v6⟩
  refine J.aload_n 0 dX9_optimalDifference_9 rfl rfl ?_
  refine I.callV0q (d' := d - 1) (mi' := mX9_optimalNow) dX9_optimalDifference_10 lX9_280 eX9_optimalNow rfl rfl (c_X9_optimalNow (d := d - 1) hl (by omega) (v6.m (MW.th p0)) (VI.none p0.l p0.v i6)) (show d - 1 + 1 ≤ d from by omega) (Nat.le_of_ble_eq_true rfl) ?_
  rintro _ s10 ⟨rfl, i10, v10⟩
  exact I.iretQ dX9_optimalDifference_13 rfl ⟨rfl, MFr.of p1 (v6.trans v10)⟩
set_option maxHeartbeats 1000000 in
theorem c_X9_moveValue {Γ : jE} (hl : Γ.1.stackTraces = false) {s : Nat → Int → Int} {ε : jEps} {d : Nat} {i : Int} {f : Int → Int} (hd : 127 ≤ d) (p0 : MW s f) (p1 : s 137 2 = 0) (p2 : -2147483648 ≤ i ∧ i < 2147483648) : Con Γ (d, 0, 0) mX9_moveValue [.ref 137, .int (iI i)] (jmem s ε) (RQ (fun w s' => ((0 ≤ i ∧ i < gMoves f) ∧ gVal f (gMvAt f i) = w ∧ MFr s s') ∨ (¬ (0 ≤ i ∧ i < gMoves f) ∧ s' = up s 137 0 1)) ε) X0 := by
  refine Con.ofJ (by decide +kernel) (by simp [Value.category]) (Nat.le_of_ble_eq_true rfl) ?_ hl
  have hw := MW.w p0
  have m7 := gMoves_rng hw.2.2.1
  refine J.aload_n 0 dX9_moveValue_0 rfl rfl ?_
  refine I.iconst dX9_moveValue_1 ?_
  refine I.pI 0 rfl dX9_moveValue_2 jcls fX9_40 rfl (by decide) rfl ?_
  refine J.aload_n 0 dX9_moveValue_5 rfl rfl ?_
  refine J.iload_n 1 dX9_moveValue_6 rfl rfl ?_
  refine I.callV1i (d' := d - 1) (mi' := mX9_isMove) dX9_moveValue_7 lX9_265 eX9_isMove rfl rfl (c_X9_isMove (d := d - 1) hl (by omega) (by first | assumption | exact MW.th (by assumption)) (by first | omega | assumption)) (show d - 1 + 1 ≤ d from by omega) (Nat.le_of_ble_eq_true rfl) ?_
  refine I.if_neB 19 dX9_moveValue_10 (by decide) (fun h10 => ?_) (fun h10 => ?_)
  · skip
    have lg := gMvAt_legal (f := f) hw.2.2.1 (i := i) h10.1
    refine J.aload_n 0 dX9_moveValue_19 rfl rfl ?_
    refine I.callV0w (d' := d - 1) (mi' := mX9_forgets) dX9_moveValue_20 lX9_138 eX9_forgets rfl rfl (c_X9_forgets (d := d - 1) hl (by omega) (by first | assumption | exact MW.th (by assumption))) (show d - 1 + 1 ≤ d from by omega) (Nat.le_of_ble_eq_true rfl) ?_
    rintro s20 ⟨i20, v20⟩
    refine J.aload_n 0 dX9_moveValue_23 rfl rfl ?_
    refine J.aload_n 0 dX9_moveValue_24 rfl rfl ?_
    refine J.iload_n 1 dX9_moveValue_25 rfl rfl ?_
    refine I.callV1i (d' := d - 1) (mi' := mX9_moveAt) dX9_moveValue_26 lX9_132 eX9_moveAt rfl rfl (c_X9_moveAt (d := d - 1) hl (by omega) (v20.m (MW.th p0)) (by first | omega | assumption)) (show d - 1 + 1 ≤ d from by omega) (Nat.le_of_ble_eq_true rfl) ?_
    refine I.callV1q (d' := d - 1) (mi' := mX9_valueOf) dX9_moveValue_29 lX9_135 eX9_valueOf rfl rfl (c_X9_valueOf (d := d - 1) hl (by omega) (v20.m (MW.th p0)) (VI.none p0.l p0.v i20) lg) (show d - 1 + 1 ≤ d from by omega) (Nat.le_of_ble_eq_true rfl) ?_
    rintro _ s29 ⟨rfl, i29, v29⟩
    exact I.iretQ dX9_moveValue_32 rfl (Or.inl ⟨h10, rfl, MFr.of p1 (v20.trans v29)⟩)
  · skip
    refine J.aload_n 0 dX9_moveValue_13 rfl rfl ?_
    refine I.iconst dX9_moveValue_14 ?_
    refine I.callV1i (d' := d - 1) (mi' := mX9_fails) dX9_moveValue_15 lX9_219 eX9_fails rfl rfl (c_X9_fails (d := d - 1) hl (by omega) ) (show d - 1 + 1 ≤ d from by omega) (Nat.le_of_ble_eq_true rfl) ?_
    exact I.iretQ dX9_moveValue_18 rfl (Or.inr ⟨by assumption, up_up⟩)
set_option maxHeartbeats 1000000 in
theorem c_X9_optimalMove {Γ : jE} (hl : Γ.1.stackTraces = false) {s : Nat → Int → Int} {ε : jEps} {d : Nat} {f : Int → Int} (hd : 128 ≤ d) (p0 : MW s f) (p1 : s 137 2 = 0) : Con Γ (d, 0, 0) mX9_optimalMove [.ref 137] (jmem s ε) (RQ (fun w s' => ((¬ gOver f) ∧ gFo f = w ∧ MFr s s') ∨ (¬ (¬ gOver f) ∧ s' = up s 137 0 1)) ε) X0 := by
  refine Con.ofJ (by decide +kernel) (by simp [Value.category]) (Nat.le_of_ble_eq_true rfl) ?_ hl
  have hw := MW.w p0
  refine J.aload_n 0 dX9_optimalMove_0 rfl rfl ?_
  refine I.iconst dX9_optimalMove_1 ?_
  refine I.pI 0 rfl dX9_optimalMove_2 jcls fX9_40 rfl (by decide) rfl ?_
  refine J.aload_n 0 dX9_optimalMove_5 rfl rfl ?_
  refine I.callV0i (d' := d - 1) (mi' := mX9_isOver) dX9_optimalMove_6 lX9_88 eX9_isOver rfl rfl (c_X9_isOver (d := d - 1) hl (by omega) (by first | assumption | exact MW.th (by assumption))) (show d - 1 + 1 ≤ d from by omega) (Nat.le_of_ble_eq_true rfl) ?_
  refine I.if_eqB 18 dX9_optimalMove_9 (by decide) (fun h9 => ?_) (fun h9 => ?_)
  · skip
    refine J.aload_n 0 dX9_optimalMove_18 rfl rfl ?_
    refine I.callV0w (d' := d - 1) (mi' := mX9_forgets) dX9_optimalMove_19 lX9_138 eX9_forgets rfl rfl (c_X9_forgets (d := d - 1) hl (by omega) (by first | assumption | exact MW.th (by assumption))) (show d - 1 + 1 ≤ d from by omega) (Nat.le_of_ble_eq_true rfl) ?_
    rintro s19 ⟨i19, v19⟩
    refine J.aload_n 0 dX9_optimalMove_22 rfl rfl ?_
    refine I.callV0q (d' := d - 1) (mi' := mX9_firstOptimal) dX9_optimalMove_23 lX9_141 eX9_firstOptimal rfl rfl (c_X9_firstOptimal (d := d - 1) hl (by omega) (v19.m (MW.th p0)) (VI.none p0.l p0.v i19) h9) (show d - 1 + 1 ≤ d from by omega) (Nat.le_of_ble_eq_true rfl) ?_
    rintro _ s23 ⟨rfl, i23, v23⟩
    exact I.iretQ dX9_optimalMove_26 rfl (Or.inl ⟨h9, rfl, MFr.of p1 (v19.trans v23)⟩)
  · skip
    refine J.aload_n 0 dX9_optimalMove_12 rfl rfl ?_
    refine I.iconst dX9_optimalMove_13 ?_
    refine I.callV1i (d' := d - 1) (mi' := mX9_fails) dX9_optimalMove_14 lX9_219 eX9_fails rfl rfl (c_X9_fails (d := d - 1) hl (by omega) ) (show d - 1 + 1 ≤ d from by omega) (Nat.le_of_ble_eq_true rfl) ?_
    exact I.iretQ dX9_optimalMove_17 rfl (Or.inr ⟨fun h => h (by assumption), up_up⟩)
set_option maxHeartbeats 1000000 in
theorem k_X9_worstMove_26 {Γ : jE} (hl : Γ.1.stackTraces = false) {s : Nat → Int → Int} {ε : jEps} {d : Nat} {f : Int → Int} (hd : 127 ≤ d) (p0 : MW s f) (p1 : s 137 2 = 0) {mc ms : Nat} {P : Option Value → jM → Prop} {X : String → jM → Prop} : ∀ (k : Nat) {z : Nat → Int → Int} {i b : Int} (q0 : ((k : Nat) : Int) = gMoves f - i) (q1 : 1 ≤ i) (q2 : VI oV z f) (q3 : VFr (up s 137 0 0) z) (q4 : 0 ≤ b ∧ b < gMoves f) (kx : ∀ s', (VI oV s' f ∧ VFr (up s 137 0 0) s') → J Γ (d, mc, ms) mX9_worstMove 63 [some (.ref 137), some (.int (iI (foldF (gWoS f) k i b))), none] [] (jmem s' ε) P X), J Γ (d, mc, ms) mX9_worstMove 26 [some (.ref 137), some (.int (iI (b))), some (.int (iI (i)))] [] (jmem z ε) P X := by
  have hw := MW.w p0
  have m7 := gMoves_rng hw.2.2.1
  intro k
  induction k with
  | zero =>
    intro z i b q0 q1 q2 q3 q4 kx
    refine J.iload_n 2 dX9_worstMove_26 rfl rfl ?_
    refine J.aload_n 0 dX9_worstMove_27 rfl rfl ?_
    refine I.callV0i (d' := d - 1) (mi' := mX9_moves) dX9_worstMove_28 lX9_129 eX9_moves rfl rfl (c_X9_moves (d := d - 1) hl (by omega) (q3.m (MW.th p0))) (show d - 1 + 1 ≤ d from by omega) (Nat.le_of_ble_eq_true rfl) ?_
    refine I.icmp_ge 63 dX9_worstMove_31 (by decide) (by omega) (by omega) (fun h31 => ?_) (fun h31 => ?_)
    · skip
      exact J.fgt (by exact ⟨Or.inr rfl, Or.inr rfl, Or.inl rfl, trivial⟩) (kx _ ⟨q2, q3⟩)
    · exact absurd h31 (by omega)
  | succ k ih =>
    intro z i b q0 q1 q2 q3 q4 kx
    refine J.iload_n 2 dX9_worstMove_26 rfl rfl ?_
    refine J.aload_n 0 dX9_worstMove_27 rfl rfl ?_
    refine I.callV0i (d' := d - 1) (mi' := mX9_moves) dX9_worstMove_28 lX9_129 eX9_moves rfl rfl (c_X9_moves (d := d - 1) hl (by omega) (q3.m (MW.th p0))) (show d - 1 + 1 ≤ d from by omega) (Nat.le_of_ble_eq_true rfl) ?_
    refine I.icmp_ge 63 dX9_worstMove_31 (by decide) (by omega) (by omega) (fun h31 => ?_) (fun h31 => ?_)
    · exact absurd h31 (by omega)
    · skip
      have lgi := gMvAt_legal (f := f) hw.2.2.1 (i := i) (by omega)
      have lgb := gMvAt_legal (f := f) hw.2.2.1 (i := b) (by omega)
      have ri := gVal_rng p0.l p0.v lgi
      have rb := gVal_rng p0.l p0.v lgb
      refine J.aload_n 0 dX9_worstMove_34 rfl rfl ?_
      refine J.aload_n 0 dX9_worstMove_35 rfl rfl ?_
      refine J.iload_n 2 dX9_worstMove_36 rfl rfl ?_
      refine I.callV1i (d' := d - 1) (mi' := mX9_moveAt) dX9_worstMove_37 lX9_132 eX9_moveAt rfl rfl (c_X9_moveAt (d := d - 1) hl (by omega) (q3.m (MW.th p0)) (by first | omega | assumption)) (show d - 1 + 1 ≤ d from by omega) (Nat.le_of_ble_eq_true rfl) ?_
      refine I.callV1q (d' := d - 1) (mi' := mX9_valueOf) dX9_worstMove_40 lX9_135 eX9_valueOf rfl rfl (c_X9_valueOf (d := d - 1) hl (by omega) (q3.m (MW.th p0)) q2 lgi) (show d - 1 + 1 ≤ d from by omega) (Nat.le_of_ble_eq_true rfl) ?_
      rintro _ s40 ⟨rfl, i40, v40⟩
      refine J.aload_n 0 dX9_worstMove_43 rfl rfl ?_
      refine J.aload_n 0 dX9_worstMove_44 rfl rfl ?_
      refine J.iload_n 1 dX9_worstMove_45 rfl rfl ?_
      refine I.callV1i (d' := d - 1) (mi' := mX9_moveAt) dX9_worstMove_46 lX9_132 eX9_moveAt rfl rfl (c_X9_moveAt (d := d - 1) hl (by omega) ((q3.trans v40).m (MW.th p0)) (by first | omega | assumption)) (show d - 1 + 1 ≤ d from by omega) (Nat.le_of_ble_eq_true rfl) ?_
      refine I.callV1q (d' := d - 1) (mi' := mX9_valueOf) dX9_worstMove_49 lX9_135 eX9_valueOf rfl rfl (c_X9_valueOf (d := d - 1) hl (by omega) ((q3.trans v40).m (MW.th p0)) i40 lgb) (show d - 1 + 1 ≤ d from by omega) (Nat.le_of_ble_eq_true rfl) ?_
      rintro _ s49 ⟨rfl, i49, v49⟩
      refine I.icmp_ge 57 dX9_worstMove_52 (by decide) (by omega) (by omega) (fun h52 => ?_) (fun h52 => ?_)
      · skip
        have e : gWoS f i b = b := if_neg (by omega)
        refine I.iinc dX9_worstMove_57 rfl rfl ?_
        refine J.goto 26 dX9_worstMove_60 (by decide) ?_
        exact J.fgt (by exact ⟨Or.inr rfl, Or.inr rfl, Or.inr rfl, trivial⟩) (ih (by omega) (by omega) i49 ((q3.trans v40).trans v49) (by omega) (fun s' hs => by have := kx s' hs; rw [foldF_s, e] at this; exact this))
      · skip
        have e : gWoS f i b = i := if_pos (by omega)
        refine J.iload_n 2 dX9_worstMove_55 rfl rfl ?_
        refine J.istore_n 1 dX9_worstMove_56 rfl (by decide) rfl ?_
        refine I.iinc dX9_worstMove_57 rfl rfl ?_
        refine J.goto 26 dX9_worstMove_60 (by decide) ?_
        exact J.fgt (by exact ⟨Or.inr rfl, Or.inr rfl, Or.inr rfl, trivial⟩) (ih (by omega) (by omega) i49 ((q3.trans v40).trans v49) (by omega) (fun s' hs => by have := kx s' hs; rw [foldF_s, e] at this; exact this))
set_option maxHeartbeats 1000000 in
theorem c_X9_worstMove {Γ : jE} (hl : Γ.1.stackTraces = false) {s : Nat → Int → Int} {ε : jEps} {d : Nat} {f : Int → Int} (hd : 127 ≤ d) (p0 : MW s f) (p1 : s 137 2 = 0) : Con Γ (d, 0, 0) mX9_worstMove [.ref 137] (jmem s ε) (RQ (fun w s' => ((¬ gOver f) ∧ gWo f = w ∧ MFr s s') ∨ (¬ (¬ gOver f) ∧ s' = up s 137 0 1)) ε) X0 := by
  refine Con.ofJ (by decide +kernel) (by simp [Value.category]) (Nat.le_of_ble_eq_true rfl) ?_ hl
  have hw := MW.w p0
  have m7 := gMoves_rng hw.2.2.1
  refine J.aload_n 0 dX9_worstMove_0 rfl rfl ?_
  refine I.iconst dX9_worstMove_1 ?_
  refine I.pI 0 rfl dX9_worstMove_2 jcls fX9_40 rfl (by decide) rfl ?_
  refine J.aload_n 0 dX9_worstMove_5 rfl rfl ?_
  refine I.callV0i (d' := d - 1) (mi' := mX9_isOver) dX9_worstMove_6 lX9_88 eX9_isOver rfl rfl (c_X9_isOver (d := d - 1) hl (by omega) (by first | assumption | exact MW.th (by assumption))) (show d - 1 + 1 ≤ d from by omega) (Nat.le_of_ble_eq_true rfl) ?_
  refine I.if_eqB 18 dX9_worstMove_9 (by decide) (fun h9 => ?_) (fun h9 => ?_)
  · skip
    have mp := gMoves_pos hw.2.2.1 h9
    refine J.aload_n 0 dX9_worstMove_18 rfl rfl ?_
    refine I.callV0w (d' := d - 1) (mi' := mX9_forgets) dX9_worstMove_19 lX9_138 eX9_forgets rfl rfl (c_X9_forgets (d := d - 1) hl (by omega) (by first | assumption | exact MW.th (by assumption))) (show d - 1 + 1 ≤ d from by omega) (Nat.le_of_ble_eq_true rfl) ?_
    rintro s19 ⟨i19, v19⟩
    refine I.iconst dX9_worstMove_22 ?_
    refine J.istore_n 1 dX9_worstMove_23 rfl (by decide) rfl ?_
    refine I.iconst dX9_worstMove_24 ?_
    refine J.istore_n 2 dX9_worstMove_25 rfl (by decide) rfl ?_
    refine J.fgt (by exact ⟨Or.inr rfl, Or.inr rfl, Or.inr rfl, trivial⟩) (k_X9_worstMove_26 hl (by omega) p0 p1 ((gMoves f - 1).toNat) (by omega) (by omega) (VI.none p0.l p0.v i19) v19 (by omega) ?_)
    rintro s26 ⟨i26, v26⟩
    refine J.iload_n 1 dX9_worstMove_63 rfl rfl ?_
    exact I.iretQ dX9_worstMove_64 rfl (Or.inl ⟨h9, rfl, MFr.of p1 v26⟩)
  · skip
    refine J.aload_n 0 dX9_worstMove_12 rfl rfl ?_
    refine I.iconst dX9_worstMove_13 ?_
    refine I.callV1i (d' := d - 1) (mi' := mX9_fails) dX9_worstMove_14 lX9_219 eX9_fails rfl rfl (c_X9_fails (d := d - 1) hl (by omega) ) (show d - 1 + 1 ≤ d from by omega) (Nat.le_of_ble_eq_true rfl) ?_
    exact I.iretQ dX9_worstMove_17 rfl (Or.inr ⟨fun h => h (by assumption), up_up⟩)
set_option maxHeartbeats 1000000 in
theorem c_X9_optimalMoveCount {Γ : jE} (hl : Γ.1.stackTraces = false) {s : Nat → Int → Int} {ε : jEps} {d : Nat} {f : Int → Int} (hd : 128 ≤ d) (p0 : MW s f) (p1 : s 137 2 = 0) : Con Γ (d, 0, 0) mX9_optimalMoveCount [.ref 137] (jmem s ε) (RQ (fun w s' => gMany f = w ∧ MFr s s') ε) X0 := by
  refine Con.ofJ (by decide +kernel) (by simp [Value.category]) (Nat.le_of_ble_eq_true rfl) ?_ hl
  have hw := MW.w p0
  refine J.aload_n 0 dX9_optimalMoveCount_0 rfl rfl ?_
  refine I.iconst dX9_optimalMoveCount_1 ?_
  refine I.pI 0 rfl dX9_optimalMoveCount_2 jcls fX9_40 rfl (by decide) rfl ?_
  refine J.aload_n 0 dX9_optimalMoveCount_5 rfl rfl ?_
  refine I.callV0w (d' := d - 1) (mi' := mX9_forgets) dX9_optimalMoveCount_6 lX9_138 eX9_forgets rfl rfl (c_X9_forgets (d := d - 1) hl (by omega) (by first | assumption | exact MW.th (by assumption))) (show d - 1 + 1 ≤ d from by omega) (Nat.le_of_ble_eq_true rfl) ?_
  rintro s6 ⟨i6, v6⟩
  refine J.aload_n 0 dX9_optimalMoveCount_9 rfl rfl ?_
  refine I.callV0q (d' := d - 1) (mi' := mX9_manyOptimal) dX9_optimalMoveCount_10 lX9_283 eX9_manyOptimal rfl rfl (c_X9_manyOptimal (d := d - 1) hl (by omega) (v6.m (MW.th p0)) (VI.none p0.l p0.v i6)) (show d - 1 + 1 ≤ d from by omega) (Nat.le_of_ble_eq_true rfl) ?_
  rintro _ s10 ⟨rfl, i10, v10⟩
  exact I.iretQ dX9_optimalMoveCount_13 rfl ⟨rfl, MFr.of p1 (v6.trans v10)⟩
set_option maxHeartbeats 1000000 in
theorem c_X9_isPassForced {Γ : jE} (hl : Γ.1.stackTraces = false) {s : Nat → Int → Int} {ε : jEps} {d : Nat} {f : Int → Int} (hd : 128 ≤ d) (p0 : MW s f) (p1 : s 137 2 = 0) : Con Γ (d, 0, 0) mX9_isPassForced [.ref 137] (jmem s ε) (RQ (fun w s' => bI (gMany f = 1 ∧ gVal f 6 = gNow f) = w ∧ MFr s s') ε) X0 := by
  refine Con.ofJ (by decide +kernel) (by simp [Value.category]) (Nat.le_of_ble_eq_true rfl) ?_ hl
  have hw := MW.w p0
  have mr := gMany_rng (f := f) hw.2.2.1
  have nr := gNow_rng p0.l p0.v
  have vr := gVal_rng p0.l p0.v (z := 6) (Or.inl rfl)
  refine J.aload_n 0 dX9_isPassForced_0 rfl rfl ?_
  refine I.iconst dX9_isPassForced_1 ?_
  refine I.pI 0 rfl dX9_isPassForced_2 jcls fX9_40 rfl (by decide) rfl ?_
  refine J.aload_n 0 dX9_isPassForced_5 rfl rfl ?_
  refine I.callV0w (d' := d - 1) (mi' := mX9_forgets) dX9_isPassForced_6 lX9_138 eX9_forgets rfl rfl (c_X9_forgets (d := d - 1) hl (by omega) (by first | assumption | exact MW.th (by assumption))) (show d - 1 + 1 ≤ d from by omega) (Nat.le_of_ble_eq_true rfl) ?_
  rintro s6 ⟨i6, v6⟩
  refine J.aload_n 0 dX9_isPassForced_9 rfl rfl ?_
  refine I.callV0q (d' := d - 1) (mi' := mX9_manyOptimal) dX9_isPassForced_10 lX9_283 eX9_manyOptimal rfl rfl (c_X9_manyOptimal (d := d - 1) hl (by omega) (v6.m (MW.th p0)) (VI.none p0.l p0.v i6)) (show d - 1 + 1 ≤ d from by omega) (Nat.le_of_ble_eq_true rfl) ?_
  rintro _ s10 ⟨rfl, i10, v10⟩
  refine I.iconst dX9_isPassForced_13 ?_
  refine I.icmp_ne 34 dX9_isPassForced_14 (by decide) (by omega) (by omega) (fun h14 => ?_) (fun h14 => ?_)
  · skip
    refine I.iconst dX9_isPassForced_34 ?_
    exact I.zretQ dX9_isPassForced_35 rfl (by first | exact Or.inl rfl | exact Or.inr rfl | exact bI_01 _ | omega) ⟨bI_f fun h => h14 h.1, MFr.of p1 (v6.trans v10)⟩
  · skip
    refine J.aload_n 0 dX9_isPassForced_17 rfl rfl ?_
    refine I.bipush dX9_isPassForced_18 (by decide) ?_
    refine I.callV1q (d' := d - 1) (mi' := mX9_valueOf) dX9_isPassForced_20 lX9_135 eX9_valueOf rfl rfl (c_X9_valueOf (d := d - 1) hl (by omega) ((v6.trans v10).m (MW.th p0)) i10 (Or.inl rfl)) (show d - 1 + 1 ≤ d from by omega) (Nat.le_of_ble_eq_true rfl) ?_
    rintro _ s20 ⟨rfl, i20, v20⟩
    refine J.aload_n 0 dX9_isPassForced_23 rfl rfl ?_
    refine I.callV0q (d' := d - 1) (mi' := mX9_optimalNow) dX9_isPassForced_24 lX9_280 eX9_optimalNow rfl rfl (c_X9_optimalNow (d := d - 1) hl (by omega) (((v6.trans v10).trans v20).m (MW.th p0)) i20) (show d - 1 + 1 ≤ d from by omega) (Nat.le_of_ble_eq_true rfl) ?_
    rintro _ s24 ⟨rfl, i24, v24⟩
    refine I.icmp_ne 34 dX9_isPassForced_27 (by decide) (by omega) (by omega) (fun h27 => ?_) (fun h27 => ?_)
    · skip
      refine I.iconst dX9_isPassForced_34 ?_
      exact I.zretQ dX9_isPassForced_35 rfl (by first | exact Or.inl rfl | exact Or.inr rfl | exact bI_01 _ | omega) ⟨bI_f fun h => h27 h.2, MFr.of p1 ((v6.trans v10).trans (v20.trans v24))⟩
    · skip
      refine I.iconst dX9_isPassForced_30 ?_
      refine J.goto 35 dX9_isPassForced_31 (by decide) ?_
      exact I.zretQ dX9_isPassForced_35 rfl (by first | exact Or.inl rfl | exact Or.inr rfl | exact bI_01 _ | omega) ⟨bI_t ⟨h14, h27⟩, MFr.of p1 ((v6.trans v10).trans (v20.trans v24))⟩
set_option maxHeartbeats 1000000 in
theorem c_X9_optimalLineLength {Γ : jE} (hl : Γ.1.stackTraces = false) {s : Nat → Int → Int} {ε : jEps} {d : Nat} {f : Int → Int} (hd : 129 ≤ d) (p0 : MW s f) (p1 : s 137 2 = 0) : Con Γ (d, 0, 0) mX9_optimalLineLength [.ref 137] (jmem s ε) (RQ (fun w s' => gCnt 48 f = w ∧ MFr s s') ε) X0 := by
  refine Con.ofJ (by decide +kernel) (by simp [Value.category]) (Nat.le_of_ble_eq_true rfl) ?_ hl
  have hw := MW.w p0
  refine J.aload_n 0 dX9_optimalLineLength_0 rfl rfl ?_
  refine I.iconst dX9_optimalLineLength_1 ?_
  refine I.pI 0 rfl dX9_optimalLineLength_2 jcls fX9_40 rfl (by decide) rfl ?_
  refine J.aload_n 0 dX9_optimalLineLength_5 rfl rfl ?_
  refine I.callV0w (d' := d - 1) (mi' := mX9_tries) dX9_optimalLineLength_6 lX9_286 eX9_tries rfl rfl (c_X9_tries (d := d - 1) hl (by omega) (MW.th p0) (by rw [up_ne (Or.inr (by decide))]; exact p1) (up_eq _ _ _ _)) (show d - 1 + 1 ≤ d from by omega) (Nat.le_of_ble_eq_true rfl) ?_
  rintro s6 ⟨t6, r6, i6⟩
  refine J.aload_n 0 dX9_optimalLineLength_9 rfl rfl ?_
  refine I.bipush dX9_optimalLineLength_10 (by decide) ?_
  refine I.callV1q (d' := d - 1) (mi' := mX9_goesAlong) dX9_optimalLineLength_12 lX9_289 eX9_goesAlong rfl rfl (c_X9_goesAlong (d := d - 1) hl (by omega) r6 i6 (by first | omega | assumption)) (show d - 1 + 1 ≤ d from by omega) (Nat.le_of_ble_eq_true rfl) ?_
  rintro _ s12 ⟨rfl, r12, i12, w12⟩
  refine J.istore_n 1 dX9_optimalLineLength_15 rfl (by decide) rfl ?_
  refine J.aload_n 0 dX9_optimalLineLength_16 rfl rfl ?_
  refine I.iconst dX9_optimalLineLength_17 ?_
  refine I.pI 2 rfl dX9_optimalLineLength_18 jcls fX9_43 rfl (by decide) rfl ?_
  refine J.iload_n 1 dX9_optimalLineLength_21 rfl rfl ?_
  exact I.iretQ dX9_optimalLineLength_22 rfl ⟨rfl, ((t6.run w12).back).th⟩
/-- the moves of the optimal line -/
def gLok (f : Int → Int) (i : Int) : Prop := 0 ≤ i ∧ gCnt i.toNat f = i ∧ ¬ gOver (gRun i.toNat f)
theorem gCnt_rng : ∀ (k : Nat) {f : Int → Int}, 0 ≤ gCnt k f ∧ gCnt k f ≤ k
  | 0, f => ⟨Int.le_refl 0, Int.le_refl 0⟩
  | k + 1, f => by
    by_cases ho : gOver f
    · rw [gCnt_o ho]; omega
    · rw [gCnt_n ho]; have := @gCnt_rng k (gPlay f (gMvAt f (gFo f))); omega
theorem VFr.t {s t : Nat → Int → Int} (h : VFr s t) : RFr s t := (RFr.refl s).v h
set_option maxHeartbeats 1000000 in
theorem c_X9_optimalLineScore {Γ : jE} (hl : Γ.1.stackTraces = false) {s : Nat → Int → Int} {ε : jEps} {d : Nat} {i : Int} {f : Int → Int} (hd : 129 ≤ d) (p0 : MW s f) (p1 : s 137 2 = 0) (p2 : -2147483648 ≤ i ∧ i < 2147483648) : Con Γ (d, 0, 0) mX9_optimalLineScore [.ref 137, .int (iI i)] (jmem s ε) (RQ (fun w s' => (gLok f i ∧ gPt (gRun i.toNat f) (gMvAt (gRun i.toNat f) (gFo (gRun i.toNat f))) = w ∧ MFr s s') ∨ (¬ gLok f i ∧ s' 137 0 = 1 ∧ MFr s (up s' 137 0 0))) ε) X0 := by
  refine Con.ofJ (by decide +kernel) (by simp [Value.category]) (Nat.le_of_ble_eq_true rfl) ?_ hl
  have hw := MW.w p0
  refine J.aload_n 0 dX9_optimalLineScore_0 rfl rfl ?_
  refine I.iconst dX9_optimalLineScore_1 ?_
  refine I.pI 0 rfl dX9_optimalLineScore_2 jcls fX9_40 rfl (by decide) rfl ?_
  refine J.iload_n 1 dX9_optimalLineScore_5 rfl rfl ?_
  refine I.if_ge 15 dX9_optimalLineScore_6 (by decide) (by omega) (fun h6 => ?_) (fun h6 => ?_)
  · skip
    refine J.aload_n 0 dX9_optimalLineScore_15 rfl rfl ?_
    refine I.callV0w (d' := d - 1) (mi' := mX9_tries) dX9_optimalLineScore_16 lX9_286 eX9_tries rfl rfl (c_X9_tries (d := d - 1) hl (by omega) (MW.th p0) (by rw [up_ne (Or.inr (by decide))]; exact p1) (up_eq _ _ _ _)) (show d - 1 + 1 ≤ d from by omega) (Nat.le_of_ble_eq_true rfl) ?_
    rintro s16 ⟨t16, r16, i16⟩
    refine J.aload_n 0 dX9_optimalLineScore_19 rfl rfl ?_
    refine J.iload_n 1 dX9_optimalLineScore_20 rfl rfl ?_
    refine I.callV1q (d' := d - 1) (mi' := mX9_goesAlong) dX9_optimalLineScore_21 lX9_289 eX9_goesAlong rfl rfl (c_X9_goesAlong (d := d - 1) hl (by omega) r16 i16 (by first | omega | assumption)) (show d - 1 + 1 ≤ d from by omega) (Nat.le_of_ble_eq_true rfl) ?_
    rintro _ s21 ⟨rfl, r21, i21, w21⟩
    refine J.istore_n 2 dX9_optimalLineScore_24 rfl (by decide) rfl ?_
    have cr := @gCnt_rng i.toNat f
    have gl := gRun_lv i.toNat p0.l p0.v
    have gw := r21.w
    have m7 := gMoves_rng gw.2.2.1
    refine J.iload_n 2 dX9_optimalLineScore_25 rfl rfl ?_
    refine J.iload_n 1 dX9_optimalLineScore_26 rfl rfl ?_
    refine I.icmp_ne 41 dX9_optimalLineScore_27 (by decide) (by omega) (by omega) (fun h27 => ?_) (fun h27 => ?_)
    · skip
      refine I.iconst dX9_optimalLineScore_41 ?_
      refine J.istore_n 3 dX9_optimalLineScore_42 rfl (by decide) rfl ?_
      refine J.iload_n 3 dX9_optimalLineScore_43 rfl rfl ?_
      refine I.if_eq 62 dX9_optimalLineScore_44 (by decide) (by omega) (fun h44 => ?_) (fun h44 => ?_)
      · skip
        refine I.iconst dX9_optimalLineScore_62 ?_
        refine J.istore dX9_optimalLineScore_63 (by decide) rfl ?_
        refine J.aload_n 0 dX9_optimalLineScore_65 rfl rfl ?_
        refine I.iconst dX9_optimalLineScore_66 ?_
        refine I.pI 2 rfl dX9_optimalLineScore_67 jcls fX9_43 rfl (by decide) rfl ?_
        refine J.iload_n 3 dX9_optimalLineScore_70 rfl rfl ?_
        refine I.if_eq 79 dX9_optimalLineScore_71 (by decide) (by omega) (fun h71 => ?_) (fun h71 => ?_)
        · skip
          refine J.aload_n 0 dX9_optimalLineScore_79 rfl rfl ?_
          refine I.iconst dX9_optimalLineScore_80 ?_
          refine I.callV1i (d' := d - 1) (mi' := mX9_fails) dX9_optimalLineScore_81 lX9_219 eX9_fails rfl rfl (c_X9_fails (d := d - 1) hl (by omega) ) (show d - 1 + 1 ≤ d from by omega) (Nat.le_of_ble_eq_true rfl) ?_
          exact I.iretQ dX9_optimalLineScore_84 rfl (Or.inr ⟨fun h => h27 h.2.1, up_eq _ _ _ _, by rw [up_up]; exact (((t16.run w21).back).th).z⟩)
        · exact absurd h71 (by omega)
      · exact absurd h44 (by omega)
    · skip
      skip
      refine J.aload_n 0 dX9_optimalLineScore_30 rfl rfl ?_
      refine I.callV0i (d' := d - 1) (mi' := mX9_isOver) dX9_optimalLineScore_31 lX9_88 eX9_isOver rfl rfl (c_X9_isOver (d := d - 1) hl (by omega) r21) (show d - 1 + 1 ≤ d from by omega) (Nat.le_of_ble_eq_true rfl) ?_
      refine I.if_neB 41 dX9_optimalLineScore_34 (by decide) (fun h34 => ?_) (fun h34 => ?_)
      · skip
        refine I.iconst dX9_optimalLineScore_41 ?_
        refine J.istore_n 3 dX9_optimalLineScore_42 rfl (by decide) rfl ?_
        refine J.iload_n 3 dX9_optimalLineScore_43 rfl rfl ?_
        refine I.if_eq 62 dX9_optimalLineScore_44 (by decide) (by omega) (fun h44 => ?_) (fun h44 => ?_)
        · skip
          refine I.iconst dX9_optimalLineScore_62 ?_
          refine J.istore dX9_optimalLineScore_63 (by decide) rfl ?_
          refine J.aload_n 0 dX9_optimalLineScore_65 rfl rfl ?_
          refine I.iconst dX9_optimalLineScore_66 ?_
          refine I.pI 2 rfl dX9_optimalLineScore_67 jcls fX9_43 rfl (by decide) rfl ?_
          refine J.iload_n 3 dX9_optimalLineScore_70 rfl rfl ?_
          refine I.if_eq 79 dX9_optimalLineScore_71 (by decide) (by omega) (fun h71 => ?_) (fun h71 => ?_)
          · skip
            refine J.aload_n 0 dX9_optimalLineScore_79 rfl rfl ?_
            refine I.iconst dX9_optimalLineScore_80 ?_
            refine I.callV1i (d' := d - 1) (mi' := mX9_fails) dX9_optimalLineScore_81 lX9_219 eX9_fails rfl rfl (c_X9_fails (d := d - 1) hl (by omega) ) (show d - 1 + 1 ≤ d from by omega) (Nat.le_of_ble_eq_true rfl) ?_
            exact I.iretQ dX9_optimalLineScore_84 rfl (Or.inr ⟨fun h => h.2.2 h34, up_eq _ _ _ _, by rw [up_up]; exact (((t16.run w21).back).th).z⟩)
          · exact absurd h71 (by omega)
        · exact absurd h44 (by omega)
      · skip
        have fr := gFo_rng gw.2.2.1 h34
        have lg := gFo_legal gl.1 gl.2.1 h34
        refine I.iconst dX9_optimalLineScore_37 ?_
        refine J.goto 42 dX9_optimalLineScore_38 (by decide) ?_
        refine J.istore_n 3 dX9_optimalLineScore_42 rfl (by decide) rfl ?_
        refine J.iload_n 3 dX9_optimalLineScore_43 rfl rfl ?_
        refine I.if_eq 62 dX9_optimalLineScore_44 (by decide) (by omega) (fun h44 => ?_) (fun h44 => ?_)
        · exact absurd h44 (by omega)
        · skip
          refine J.aload_n 0 dX9_optimalLineScore_47 rfl rfl ?_
          refine J.aload_n 0 dX9_optimalLineScore_48 rfl rfl ?_
          refine J.aload_n 0 dX9_optimalLineScore_49 rfl rfl ?_
          refine I.callV0q (d' := d - 1) (mi' := mX9_firstOptimal) dX9_optimalLineScore_50 lX9_141 eX9_firstOptimal rfl rfl (c_X9_firstOptimal (d := d - 1) hl (by omega) r21 i21 h34) (show d - 1 + 1 ≤ d from by omega) (Nat.le_of_ble_eq_true rfl) ?_
          rintro _ s50 ⟨rfl, i50, v50⟩
          refine I.callV1i (d' := d - 1) (mi' := mX9_moveAt) dX9_optimalLineScore_53 lX9_132 eX9_moveAt rfl rfl (c_X9_moveAt (d := d - 1) hl (by omega) (v50.m r21) (by omega)) (show d - 1 + 1 ≤ d from by omega) (Nat.le_of_ble_eq_true rfl) ?_
          refine I.callV1i (d' := d - 1) (mi' := mX9_scoreOfMove) dX9_optimalLineScore_56 lX9_94 eX9_scoreOfMove rfl rfl (c_X9_scoreOfMove (d := d - 1) hl (by omega) (v50.m r21) lg.ok) (show d - 1 + 1 ≤ d from by omega) (Nat.le_of_ble_eq_true rfl) ?_
          refine J.goto 63 dX9_optimalLineScore_59 (by decide) ?_
          refine J.istore dX9_optimalLineScore_63 (by decide) rfl ?_
          refine J.aload_n 0 dX9_optimalLineScore_65 rfl rfl ?_
          refine I.iconst dX9_optimalLineScore_66 ?_
          refine I.pI 2 rfl dX9_optimalLineScore_67 jcls fX9_43 rfl (by decide) rfl ?_
          refine J.iload_n 3 dX9_optimalLineScore_70 rfl rfl ?_
          refine I.if_eq 79 dX9_optimalLineScore_71 (by decide) (by omega) (fun h71 => ?_) (fun h71 => ?_)
          · exact absurd h71 (by omega)
          · skip
            refine J.iload dX9_optimalLineScore_74 rfl ?_
            refine J.goto 84 dX9_optimalLineScore_76 (by decide) ?_
            exact I.iretQ dX9_optimalLineScore_84 rfl (Or.inl ⟨⟨by omega, h27, h34⟩, rfl, (((t16.run w21).vals v50).back).th⟩)
  · skip
    refine J.aload_n 0 dX9_optimalLineScore_9 rfl rfl ?_
    refine I.iconst dX9_optimalLineScore_10 ?_
    refine I.callV1i (d' := d - 1) (mi' := mX9_fails) dX9_optimalLineScore_11 lX9_219 eX9_fails rfl rfl (c_X9_fails (d := d - 1) hl (by omega) ) (show d - 1 + 1 ≤ d from by omega) (Nat.le_of_ble_eq_true rfl) ?_
    exact I.iretQ dX9_optimalLineScore_14 rfl (Or.inr ⟨fun h => by have := h.1; omega, up_eq _ _ _ _, by rw [up_up, up_up]; exact MFr.of p1 (VFr.refl _)⟩)
set_option maxHeartbeats 1000000 in
theorem k_X9_chainDifference_25 {Γ : jE} (hl : Γ.1.stackTraces = false) {s : Nat → Int → Int} {ε : jEps} {d : Nat} {c : Int} {f : Int → Int} (hd : 121 ≤ d) (p0 : MW s f) (p1 : s 137 2 = 0) (p2 : -2147483648 ≤ c ∧ c < 2147483648) {mc ms : Nat} {P : Option Value → jM → Prop} {X : String → jM → Prop} : ∀ (k : Nat) {z y : Nat → Int → Int} {i : Int} (q0 : ((k : Nat) : Int) = f (18 + f 1) - i) (q1 : 0 ≤ i) (q2 : MW z (gOnly f c i)) (q3 : RFr y z) (q4 : ∀ j, z 141 j = y 141 j) (kx : ∀ s', (MW s' (gOnly f c (f (18 + f 1))) ∧ RFr y s' ∧ ∀ j, s' 141 j = y 141 j) → J Γ (d, mc, ms) mX9_chainDifference 60 [some (.ref 137), some (.int (iI c)), none] [] (jmem s' ε) P X), J Γ (d, mc, ms) mX9_chainDifference 25 [some (.ref 137), some (.int (iI c)), some (.int (iI (i)))] [] (jmem z ε) P X := by
  have hw := MW.w p0
  intro k
  induction k with
  | zero =>
    intro z y i q0 q1 q2 q3 q4 kx
    have oo : ∀ {j : Int}, (j < 37 ∨ 40 ≤ j) → gOnly f c i j = f j := fun h => gOnly_o (by omega) h
    have oC : gOnly f c i (18 + gOnly f c i 1) = f (18 + f 1) := by rw [oo (j := 1) (by omega), oo (by omega)]
    refine J.iload_n 2 dX9_chainDifference_25 rfl rfl ?_
    refine J.aload_n 0 dX9_chainDifference_26 rfl rfl ?_
    refine I.callV0i (d' := d - 1) (mi' := mX9_chains) dX9_chainDifference_27 lX9_59 eX9_chains rfl rfl (c_X9_chains (d := d - 1) hl (by omega) q2) (show d - 1 + 1 ≤ d from by omega) (Nat.le_of_ble_eq_true rfl) ?_
    refine I.sx oC ?_
    refine I.icmp_ge 60 dX9_chainDifference_30 (by decide) (by omega) (by omega) (fun h30 => ?_) (fun h30 => ?_)
    · skip
      exact J.fgt (by exact ⟨Or.inr rfl, Or.inr rfl, Or.inl rfl, trivial⟩) (kx _ ⟨by rw [show i = f (18 + f 1) by omega] at q2; exact q2, q3, q4⟩)
    · exact absurd h30 (by omega)
  | succ k ih =>
    intro z y i q0 q1 q2 q3 q4 kx
    have oo : ∀ {j : Int}, (j < 37 ∨ 40 ≤ j) → gOnly f c i j = f j := fun h => gOnly_o (by omega) h
    have oC : gOnly f c i (18 + gOnly f c i 1) = f (18 + f 1) := by rw [oo (j := 1) (by omega), oo (by omega)]
    refine J.iload_n 2 dX9_chainDifference_25 rfl rfl ?_
    refine J.aload_n 0 dX9_chainDifference_26 rfl rfl ?_
    refine I.callV0i (d' := d - 1) (mi' := mX9_chains) dX9_chainDifference_27 lX9_59 eX9_chains rfl rfl (c_X9_chains (d := d - 1) hl (by omega) q2) (show d - 1 + 1 ≤ d from by omega) (Nat.le_of_ble_eq_true rfl) ?_
    refine I.sx oC ?_
    refine I.icmp_ge 60 dX9_chainDifference_30 (by decide) (by omega) (by omega) (fun h30 => ?_) (fun h30 => ?_)
    · exact absurd h30 (by omega)
    · skip
      skip
      refine J.iload_n 2 dX9_chainDifference_33 rfl rfl ?_
      refine J.iload_n 1 dX9_chainDifference_34 rfl rfl ?_
      refine I.icmp_eq 54 dX9_chainDifference_35 (by decide) (by omega) (by omega) (fun h35 => ?_) (fun h35 => ?_)
      · skip
        refine I.iinc dX9_chainDifference_54 rfl rfl ?_
        refine J.goto 25 dX9_chainDifference_57 (by decide) ?_
        exact J.fgt (by exact ⟨Or.inr rfl, Or.inr rfl, Or.inr rfl, trivial⟩) (ih (by omega) (by omega) (by first | exact ⟨v51.congr fun k _ _ => sv k, p0.l.lay (gOnly_lay (by omega)), gOnly_FS p0.l p0.v (by omega)⟩ | (rw [show gOnly f c (i + 1) = gOnly f c i from funext fun k => gOnly_skip (by omega) k]; exact q2)) (by first | exact q3.step (VFr.refl _) w51 | exact q3) (by first | exact fun j => (w51.1 _ _ (by decide)).trans (q4 j) | exact q4) kx)
      · skip
        have sv := fun k => (gOnly_step (f := f) (c := c) (i := i) h35 (by omega) k).symm
        refine J.aload_n 0 dX9_chainDifference_38 rfl rfl ?_
        refine I.bipush dX9_chainDifference_39 (by decide) ?_
        refine J.iload_n 2 dX9_chainDifference_41 rfl rfl ?_
        refine I.add dX9_chainDifference_42 ?_
        refine J.aload_n 0 dX9_chainDifference_43 rfl rfl ?_
        refine I.bipush dX9_chainDifference_44 (by decide) ?_
        refine J.iload_n 2 dX9_chainDifference_46 rfl rfl ?_
        refine I.add dX9_chainDifference_47 ?_
        refine I.callV1i (d' := d - 1) (mi' := mX9_get) dX9_chainDifference_48 lX9_46 eX9_get rfl rfl (c_X9_get (d := d - 1) hl (by omega) q2.m (by first | omega | assumption)) (show d - 1 + 1 ≤ d from by omega) (Nat.le_of_ble_eq_true rfl) ?_
        refine I.callV2w (d' := d - 1) (mi' := mX9_set) dX9_chainDifference_51 lX9_32 eX9_set rfl rfl (c_X9_set (d := d - 1) hl (by omega) q2.m (by first | omega | assumption)) (show d - 1 + 1 ≤ d from by omega) (Nat.le_of_ble_eq_true rfl) ?_
        rintro s51 ⟨v51, w51⟩
        refine I.iinc dX9_chainDifference_54 rfl rfl ?_
        refine J.goto 25 dX9_chainDifference_57 (by decide) ?_
        exact J.fgt (by exact ⟨Or.inr rfl, Or.inr rfl, Or.inr rfl, trivial⟩) (ih (by omega) (by omega) (by first | exact ⟨v51.congr fun k _ _ => sv k, p0.l.lay (gOnly_lay (by omega)), gOnly_FS p0.l p0.v (by omega)⟩ | (rw [show gOnly f c (i + 1) = gOnly f c i from funext fun k => gOnly_skip (by omega) k]; exact q2)) (by first | exact q3.step (VFr.refl _) w51 | exact q3) (by first | exact fun j => (w51.1 _ _ (by decide)).trans (q4 j) | exact q4) kx)
set_option maxHeartbeats 1000000 in
theorem c_X9_chainDifference {Γ : jE} (hl : Γ.1.stackTraces = false) {s : Nat → Int → Int} {ε : jEps} {d : Nat} {c : Int} {f : Int → Int} (hd : 121 ≤ d) (p0 : MW s f) (p1 : s 137 2 = 0) (p2 : -2147483648 ≤ c ∧ c < 2147483648) : Con Γ (d, 0, 0) mX9_chainDifference [.ref 137, .int (iI c)] (jmem s ε) (RQ (fun w s' => ((0 ≤ c ∧ c < f (18 + f 1)) ∧ gWf (gOnly f c (f (18 + f 1))) = w ∧ MFr s s') ∨ (¬ (0 ≤ c ∧ c < f (18 + f 1)) ∧ s' = up s 137 0 1)) ε) X0 := by
  refine Con.ofJ (by decide +kernel) (by simp [Value.category]) (Nat.le_of_ble_eq_true rfl) ?_ hl
  have hw := MW.w p0
  refine J.aload_n 0 dX9_chainDifference_0 rfl rfl ?_
  refine I.iconst dX9_chainDifference_1 ?_
  refine I.pI 0 rfl dX9_chainDifference_2 jcls fX9_40 rfl (by decide) rfl ?_
  refine J.aload_n 0 dX9_chainDifference_5 rfl rfl ?_
  refine J.iload_n 1 dX9_chainDifference_6 rfl rfl ?_
  refine I.callV1i (d' := d - 1) (mi' := mX9_isChain) dX9_chainDifference_7 lX9_216 eX9_isChain rfl rfl (c_X9_isChain (d := d - 1) hl (by omega) (by first | assumption | exact MW.th (by assumption)) (by first | omega | assumption)) (show d - 1 + 1 ≤ d from by omega) (Nat.le_of_ble_eq_true rfl) ?_
  refine I.if_neB 19 dX9_chainDifference_10 (by decide) (fun h10 => ?_) (fun h10 => ?_)
  · skip
    refine J.aload_n 0 dX9_chainDifference_19 rfl rfl ?_
    refine I.callV0w (d' := d - 1) (mi' := mX9_tries) dX9_chainDifference_20 lX9_286 eX9_tries rfl rfl (c_X9_tries (d := d - 1) hl (by omega) (MW.th p0) (by rw [up_ne (Or.inr (by decide))]; exact p1) (up_eq _ _ _ _)) (show d - 1 + 1 ≤ d from by omega) (Nat.le_of_ble_eq_true rfl) ?_
    rintro s20 ⟨t20, r20, i20⟩
    refine I.iconst dX9_chainDifference_23 ?_
    refine J.istore_n 2 dX9_chainDifference_24 rfl (by decide) rfl ?_
    refine J.fgt (by exact ⟨Or.inr rfl, Or.inr rfl, Or.inr rfl, trivial⟩) (k_X9_chainDifference_25 hl (by omega) p0 p1 p2 ((f (18 + f 1)).toNat) (by omega) (by omega) (by rw [show gOnly f c 0 = f from funext fun j => if_neg (by omega)]; exact r20) (RFr.refl _) (fun _ => rfl) ?_)
    rintro s25 ⟨r25, w25, j25⟩
    refine J.aload_n 0 dX9_chainDifference_60 rfl rfl ?_
    refine I.iconst dX9_chainDifference_61 ?_
    refine I.callV1q (d' := d - 1) (mi' := mX9_optimal) dX9_chainDifference_62 lX9_115 eX9_optimal rfl rfl (c_X9_optimal (d := d - 1) hl (by omega) r25 ((i20.same p0.l p0.v (gOnly_same (Int.le_refl _))).keep j25) (Or.inl rfl)) (show d - 1 + 1 ≤ d from by omega) (Nat.le_of_ble_eq_true rfl) ?_
    rintro _ s62 ⟨rfl, i62, v62⟩
    refine J.istore_n 2 dX9_chainDifference_65 rfl (by decide) rfl ?_
    refine J.aload_n 0 dX9_chainDifference_66 rfl rfl ?_
    refine I.iconst dX9_chainDifference_67 ?_
    refine I.pI 2 rfl dX9_chainDifference_68 jcls fX9_43 rfl (by decide) rfl ?_
    refine J.iload_n 2 dX9_chainDifference_71 rfl rfl ?_
    exact I.iretQ dX9_chainDifference_72 rfl (Or.inl ⟨h10, rfl, (((t20.run w25).vals v62).back).th⟩)
  · skip
    refine J.aload_n 0 dX9_chainDifference_13 rfl rfl ?_
    refine I.iconst dX9_chainDifference_14 ?_
    refine I.callV1i (d' := d - 1) (mi' := mX9_fails) dX9_chainDifference_15 lX9_219 eX9_fails rfl rfl (c_X9_fails (d := d - 1) hl (by omega) ) (show d - 1 + 1 ≤ d from by omega) (Nat.le_of_ble_eq_true rfl) ?_
    exact I.iretQ dX9_chainDifference_18 rfl (Or.inr ⟨by assumption, up_up⟩)
set_option maxHeartbeats 1000000 in
theorem c_X9_expectedLead {Γ : jE} (hl : Γ.1.stackTraces = false) {s : Nat → Int → Int} {ε : jEps} {d : Nat} {f : Int → Int} (hd : 122 ≤ d) (p0 : MW s f) (p1 : s 137 2 = 0) : Con Γ (d, 0, 0) mX9_expectedLead [.ref 137] (jmem s ε) (RQ (fun w s' => f (6 + 2 * f 1 + f 2) - f (6 + 2 * f 1 + (1 - f 2)) + gNow f = w ∧ MFr s s') ε) X0 := by
  refine Con.ofJ (by decide +kernel) (by simp [Value.category]) (Nat.le_of_ble_eq_true rfl) ?_ hl
  have hw := MW.w p0
  refine J.aload_n 0 dX9_expectedLead_0 rfl rfl ?_
  refine I.iconst dX9_expectedLead_1 ?_
  refine I.pI 0 rfl dX9_expectedLead_2 jcls fX9_40 rfl (by decide) rfl ?_
  refine J.aload_n 0 dX9_expectedLead_5 rfl rfl ?_
  refine I.callV0w (d' := d - 1) (mi' := mX9_forgets) dX9_expectedLead_6 lX9_138 eX9_forgets rfl rfl (c_X9_forgets (d := d - 1) hl (by omega) (by first | assumption | exact MW.th (by assumption))) (show d - 1 + 1 ≤ d from by omega) (Nat.le_of_ble_eq_true rfl) ?_
  rintro s6 ⟨i6, v6⟩
  refine J.aload_n 0 dX9_expectedLead_9 rfl rfl ?_
  refine I.iconst dX9_expectedLead_10 ?_
  refine I.callV1i (d' := d - 1) (mi' := mX9_get) dX9_expectedLead_11 lX9_46 eX9_get rfl rfl (c_X9_get (d := d - 1) hl (by omega) ((v6.m (MW.th p0)).m) (by first | omega | assumption)) (show d - 1 + 1 ≤ d from by omega) (Nat.le_of_ble_eq_true rfl) ?_
  refine J.istore_n 1 dX9_expectedLead_14 rfl (by decide) rfl ?_
  refine J.aload_n 0 dX9_expectedLead_15 rfl rfl ?_
  refine J.iload_n 1 dX9_expectedLead_16 rfl rfl ?_
  refine I.callV1i (d' := d - 1) (mi' := mX9_scoreNow) dX9_expectedLead_17 lX9_271 eX9_scoreNow rfl rfl (c_X9_scoreNow (d := d - 1) hl (by omega) (v6.m (MW.th p0)) (by first | omega | assumption)) (show d - 1 + 1 ≤ d from by omega) (Nat.le_of_ble_eq_true rfl) ?_
  refine J.aload_n 0 dX9_expectedLead_20 rfl rfl ?_
  refine I.iconst dX9_expectedLead_21 ?_
  refine J.iload_n 1 dX9_expectedLead_22 rfl rfl ?_
  refine I.sub dX9_expectedLead_23 ?_
  refine I.callV1i (d' := d - 1) (mi' := mX9_scoreNow) dX9_expectedLead_24 lX9_271 eX9_scoreNow rfl rfl (c_X9_scoreNow (d := d - 1) hl (by omega) (v6.m (MW.th p0)) (by first | omega | assumption)) (show d - 1 + 1 ≤ d from by omega) (Nat.le_of_ble_eq_true rfl) ?_
  refine I.sub dX9_expectedLead_27 ?_
  refine J.aload_n 0 dX9_expectedLead_28 rfl rfl ?_
  refine I.callV0q (d' := d - 1) (mi' := mX9_optimalNow) dX9_expectedLead_29 lX9_280 eX9_optimalNow rfl rfl (c_X9_optimalNow (d := d - 1) hl (by omega) (v6.m (MW.th p0)) (VI.none p0.l p0.v i6)) (show d - 1 + 1 ≤ d from by omega) (Nat.le_of_ble_eq_true rfl) ?_
  rintro _ s29 ⟨rfl, i29, v29⟩
  refine I.add dX9_expectedLead_32 ?_
  exact I.iretQ dX9_expectedLead_33 rfl ⟨rfl, MFr.of p1 (v6.trans v29)⟩
