set_option maxHeartbeats 1000000 in
theorem k_X9_position_4 {Γ : jE} (hl : Γ.1.stackTraces = false) {s : Nat → Int → Int} {ε : jEps} {d : Nat} {f : Int → Int} (hd : 2 ≤ d) (p0 : MW s f) {mc ms : Nat} {P : Option Value → jM → Prop} {X : String → jM → Prop} : ∀ (k : Nat) {c p : Int} (q0 : ((k : Nat) : Int) = f (18 + f 1) - c) (q1 : 0 ≤ c) (kx : J Γ (d, mc, ms) mX9_position 44 [some (.ref 137), some (.int (iI (foldF (fun c p => 64 * p + 8 * f (34 + c) + f (37 + c)) k c p))), none] [] (jmem s ε) P X), J Γ (d, mc, ms) mX9_position 4 [some (.ref 137), some (.int (iI (p))), some (.int (iI (c)))] [] (jmem s ε) P X := by
  have hw := MW.w p0
  intro k
  induction k with
  | zero =>
    intro c p q0 q1 kx
    refine J.iload_n 2 dX9_position_4 rfl rfl ?_
    refine J.aload_n 0 dX9_position_5 rfl rfl ?_
    refine I.callV0i (d' := d - 1) (mi' := mX9_chains) dX9_position_6 lX9_59 eX9_chains rfl rfl (c_X9_chains (d := d - 1) hl (by omega) (by first | assumption | exact MW.th (by assumption))) (show d - 1 + 1 ≤ d from by omega) (Nat.le_of_ble_eq_true rfl) ?_
    refine I.icmp_ge 44 dX9_position_9 (by decide) (by omega) (by omega) (fun h9 => ?_) (fun h9 => ?_)
    · skip
      exact J.fgt (by exact ⟨Or.inr rfl, Or.inr rfl, Or.inl rfl, trivial⟩) kx
    · exact absurd h9 (by omega)
  | succ k ih =>
    intro c p q0 q1 kx
    refine J.iload_n 2 dX9_position_4 rfl rfl ?_
    refine J.aload_n 0 dX9_position_5 rfl rfl ?_
    refine I.callV0i (d' := d - 1) (mi' := mX9_chains) dX9_position_6 lX9_59 eX9_chains rfl rfl (c_X9_chains (d := d - 1) hl (by omega) (by first | assumption | exact MW.th (by assumption))) (show d - 1 + 1 ≤ d from by omega) (Nat.le_of_ble_eq_true rfl) ?_
    refine I.icmp_ge 44 dX9_position_9 (by decide) (by omega) (by omega) (fun h9 => ?_) (fun h9 => ?_)
    · exact absurd h9 (by omega)
    · skip
      refine I.bipush dX9_position_12 (by decide) ?_
      refine J.iload_n 1 dX9_position_14 rfl rfl ?_
      refine I.mul dX9_position_15 ?_
      refine I.bipush dX9_position_16 (by decide) ?_
      refine J.aload_n 0 dX9_position_18 rfl rfl ?_
      refine I.bipush dX9_position_19 (by decide) ?_
      refine J.iload_n 2 dX9_position_21 rfl rfl ?_
      refine I.add dX9_position_22 ?_
      refine I.callV1i (d' := d - 1) (mi' := mX9_get) dX9_position_23 lX9_46 eX9_get rfl rfl (c_X9_get (d := d - 1) hl (by omega) (by first | assumption | exact MW.m (by assumption) | exact MV.th (by assumption) | exact MW.m (MW.th (by assumption))) (by first | omega | assumption)) (show d - 1 + 1 ≤ d from by omega) (Nat.le_of_ble_eq_true rfl) ?_
      refine I.mul dX9_position_26 ?_
      refine I.add dX9_position_27 ?_
      refine J.aload_n 0 dX9_position_28 rfl rfl ?_
      refine I.bipush dX9_position_29 (by decide) ?_
      refine J.iload_n 2 dX9_position_31 rfl rfl ?_
      refine I.add dX9_position_32 ?_
      refine I.callV1i (d' := d - 1) (mi' := mX9_get) dX9_position_33 lX9_46 eX9_get rfl rfl (c_X9_get (d := d - 1) hl (by omega) (by first | assumption | exact MW.m (by assumption) | exact MV.th (by assumption) | exact MW.m (MW.th (by assumption))) (by first | omega | assumption)) (show d - 1 + 1 ≤ d from by omega) (Nat.le_of_ble_eq_true rfl) ?_
      refine I.add dX9_position_36 ?_
      refine J.istore_n 1 dX9_position_37 rfl (by decide) rfl ?_
      refine I.iinc dX9_position_38 rfl rfl ?_
      refine J.goto 4 dX9_position_41 (by decide) ?_
      exact J.fgt (by exact ⟨Or.inr rfl, Or.inr rfl, Or.inr rfl, trivial⟩) (ih (by first | omega | (dsimp only; omega)) (by first | omega | (dsimp only; omega)) kx)
set_option maxHeartbeats 1000000 in
theorem c_X9_position {Γ : jE} (hl : Γ.1.stackTraces = false) {s : Nat → Int → Int} {ε : jEps} {d : Nat} {f : Int → Int} (hd : 2 ≤ d) (p0 : MW s f) : Con Γ (d, 0, 0) mX9_position [.ref 137] (jmem s ε) (RI (gPos f) (s) ε) X0 := by
  refine Con.ofJ (by decide +kernel) (by simp [Value.category]) (Nat.le_of_ble_eq_true rfl) ?_ hl
  have hw := MW.w p0
  refine I.iconst dX9_position_0 ?_
  refine J.istore_n 1 dX9_position_1 rfl (by decide) rfl ?_
  refine I.iconst dX9_position_2 ?_
  refine J.istore_n 2 dX9_position_3 rfl (by decide) rfl ?_
  refine J.fgt (by exact ⟨Or.inr rfl, Or.inr rfl, Or.inr rfl, trivial⟩) (k_X9_position_4 hl (by omega) p0 ((f (18 + f 1)).toNat) (by first | omega | (dsimp only; omega)) (by first | omega | (dsimp only; omega)) ?_)
  refine J.iload_n 1 dX9_position_44 rfl rfl ?_
  exact I.iretI dX9_position_45 rfl (by first | rfl | omega) rfl
set_option maxHeartbeats 1000000 in
theorem c_X9_valuePlace {Γ : jE} (hl : Γ.1.stackTraces = false) {s : Nat → Int → Int} {ε : jEps} {d : Nat} {b : Int} {f : Int → Int} (hd : 3 ≤ d) (p0 : MW s f) (p1 : b = 0 ∨ b = 1) : Con Γ (d, 0, 0) mX9_valuePlace [.ref 137, .int (iI b)] (jmem s ε) (RI (gPos f + 262144 * b) (s) ε) X0 := by
  refine Con.ofJ (by decide +kernel) (by simp [Value.category]) (Nat.le_of_ble_eq_true rfl) ?_ hl
  have hw := MW.w p0
  refine J.aload_n 0 dX9_valuePlace_0 rfl rfl ?_
  refine I.callV0i (d' := d - 1) (mi' := mX9_position) dX9_valuePlace_1 lX9_105 eX9_position rfl rfl (c_X9_position (d := d - 1) hl (by omega) (by first | assumption | exact MW.th (by assumption))) (show d - 1 + 1 ≤ d from by omega) (Nat.le_of_ble_eq_true rfl) ?_
  refine J.iload_n 1 dX9_valuePlace_4 rfl rfl ?_
  refine I.if_eq 13 dX9_valuePlace_5 (by decide) (by omega) (fun h5 => ?_) (fun h5 => ?_)
  · skip
    refine I.iconst dX9_valuePlace_13 ?_
    refine I.add dX9_valuePlace_14 ?_
    exact I.iretI dX9_valuePlace_15 rfl (by first | rfl | omega) rfl
  · skip
    refine J.ldc (iI (262144)) dX9_valuePlace_8 qX9_104 ?_
    refine J.goto 14 dX9_valuePlace_10 (by decide) ?_
    refine I.add dX9_valuePlace_14 ?_
    exact I.iretI dX9_valuePlace_15 rfl (by first | rfl | omega) rfl
set_option maxHeartbeats 1000000 in
theorem k_X9_forgets_25 {Γ : jE} (hl : Γ.1.stackTraces = false) {s : Nat → Int → Int} {ε : jEps} {d : Nat} {f : Int → Int} (hd : 2 ≤ d) (p0 : MW s f) {mc ms : Nat} {P : Option Value → jM → Prop} {X : String → jM → Prop} : ∀ (k : Nat) {z : Nat → Int → Int} {i : Int} (q0 : ((k : Nat) : Int) = gAll f - i) (q1 : 0 ≤ i) (q2 : ∀ j, 0 ≤ j → j < i → z 141 j = -100000 ∧ z 141 (262144 + j) = -100000) (q3 : VFr s z) (kx : ∀ s', ((∀ k, 0 ≤ k → k < gAll f → s' 141 k = -100000 ∧ s' 141 (262144 + k) = -100000) ∧ VFr s s') → J Γ (d, mc, ms) mX9_forgets 55 [some (.ref 137), none, none] [] (jmem s' ε) P X), J Γ (d, mc, ms) mX9_forgets 25 [some (.ref 137), some (.int (iI (gAll f))), some (.int (iI (i)))] [] (jmem z ε) P X := by
  have hw := MW.w p0
  have ga := gPos_rng p0.l p0.v
  intro k
  induction k with
  | zero =>
    intro z i q0 q1 q2 q3 kx
    refine J.iload_n 2 dX9_forgets_25 rfl rfl ?_
    refine J.iload_n 1 dX9_forgets_26 rfl rfl ?_
    refine I.icmp_ge 55 dX9_forgets_27 (by decide) (by omega) (by omega) (fun h27 => ?_) (fun h27 => ?_)
    · skip
      exact J.fgt (by exact ⟨Or.inr rfl, Or.inl rfl, Or.inl rfl, trivial⟩) (kx _ ⟨fun j a b => q2 j a (by omega), q3⟩)
    · exact absurd h27 (by omega)
  | succ k ih =>
    intro z i q0 q1 q2 q3 kx
    refine J.iload_n 2 dX9_forgets_25 rfl rfl ?_
    refine J.iload_n 1 dX9_forgets_26 rfl rfl ?_
    refine I.icmp_ge 55 dX9_forgets_27 (by decide) (by omega) (by omega) (fun h27 => ?_) (fun h27 => ?_)
    · exact absurd h27 (by omega)
    · skip
      refine J.aload_n 0 dX9_forgets_30 rfl rfl ?_
      refine I.getR dX9_forgets_31 jcls fX9_22 rfl (by decide) rfl rfl ?_
      refine J.iload_n 2 dX9_forgets_34 rfl rfl ?_
      refine J.ldc (iI (-100000)) dX9_forgets_35 (by rw [show iI (-100000) = -100000 from by decide]; exact qX9_103) ?_
      refine I.iast dX9_forgets_37 rfl (by omega) (by omega) ?_
      refine J.aload_n 0 dX9_forgets_38 rfl rfl ?_
      refine I.getR dX9_forgets_39 jcls fX9_22 rfl (by decide) rfl rfl ?_
      refine J.ldc (iI (262144)) dX9_forgets_42 qX9_104 ?_
      refine J.iload_n 2 dX9_forgets_44 rfl rfl ?_
      refine I.add dX9_forgets_45 ?_
      refine J.ldc (iI (-100000)) dX9_forgets_46 (by rw [show iI (-100000) = -100000 from by decide]; exact qX9_103) ?_
      refine I.iast dX9_forgets_48 rfl (by omega) (by omega) ?_
      refine I.iinc dX9_forgets_49 rfl rfl ?_
      refine J.goto 25 dX9_forgets_52 (by decide) ?_
      exact J.fgt (by exact ⟨Or.inr rfl, Or.inr rfl, Or.inr rfl, trivial⟩) (ih (by omega) (by omega) (fun j a b => by by_cases e : j = i; exact ⟨by rw [up_ne (Or.inr (by omega)), up_eqq ⟨rfl, e⟩], by rw [up_eqq ⟨rfl, by omega⟩]⟩; exact ⟨by rw [up_ne (Or.inr (by omega)), up_ne (Or.inr e)]; exact (q2 j a (by omega)).1, by rw [up_ne (Or.inr (by omega)), up_ne (Or.inr (by omega))]; exact (q2 j a (by omega)).2⟩) (fun q j h => by rw [up_ne (Or.inl h), up_ne (Or.inl h)]; exact q3 q j h) kx)
set_option maxHeartbeats 1000000 in
theorem k_X9_forgets_4 {Γ : jE} (hl : Γ.1.stackTraces = false) {s : Nat → Int → Int} {ε : jEps} {d : Nat} {f : Int → Int} (hd : 2 ≤ d) (p0 : MW s f) {mc ms : Nat} {P : Option Value → jM → Prop} {X : String → jM → Prop} : ∀ (k : Nat) {c a : Int} (q0 : ((k : Nat) : Int) = f (18 + f 1) - c) (q1 : 0 ≤ c) (kx : J Γ (d, mc, ms) mX9_forgets 23 [some (.ref 137), some (.int (iI (foldF (fun _ a => a * 64) k c a))), none] [] (jmem s ε) P X), J Γ (d, mc, ms) mX9_forgets 4 [some (.ref 137), some (.int (iI (a))), some (.int (iI (c)))] [] (jmem s ε) P X := by
  have hw := MW.w p0
  have ga := gPos_rng p0.l p0.v
  intro k
  induction k with
  | zero =>
    intro c a q0 q1 kx
    refine J.iload_n 2 dX9_forgets_4 rfl rfl ?_
    refine J.aload_n 0 dX9_forgets_5 rfl rfl ?_
    refine I.callV0i (d' := d - 1) (mi' := mX9_chains) dX9_forgets_6 lX9_59 eX9_chains rfl rfl (c_X9_chains (d := d - 1) hl (by omega) (by first | assumption | exact MW.th (by assumption))) (show d - 1 + 1 ≤ d from by omega) (Nat.le_of_ble_eq_true rfl) ?_
    refine I.icmp_ge 23 dX9_forgets_9 (by decide) (by omega) (by omega) (fun h9 => ?_) (fun h9 => ?_)
    · skip
      exact J.fgt (by exact ⟨Or.inr rfl, Or.inr rfl, Or.inl rfl, trivial⟩) kx
    · exact absurd h9 (by omega)
  | succ k ih =>
    intro c a q0 q1 kx
    refine J.iload_n 2 dX9_forgets_4 rfl rfl ?_
    refine J.aload_n 0 dX9_forgets_5 rfl rfl ?_
    refine I.callV0i (d' := d - 1) (mi' := mX9_chains) dX9_forgets_6 lX9_59 eX9_chains rfl rfl (c_X9_chains (d := d - 1) hl (by omega) (by first | assumption | exact MW.th (by assumption))) (show d - 1 + 1 ≤ d from by omega) (Nat.le_of_ble_eq_true rfl) ?_
    refine I.icmp_ge 23 dX9_forgets_9 (by decide) (by omega) (by omega) (fun h9 => ?_) (fun h9 => ?_)
    · exact absurd h9 (by omega)
    · skip
      refine J.iload_n 1 dX9_forgets_12 rfl rfl ?_
      refine I.bipush dX9_forgets_13 (by decide) ?_
      refine I.mul dX9_forgets_15 ?_
      refine J.istore_n 1 dX9_forgets_16 rfl (by decide) rfl ?_
      refine I.iinc dX9_forgets_17 rfl rfl ?_
      refine J.goto 4 dX9_forgets_20 (by decide) ?_
      exact J.fgt (by exact ⟨Or.inr rfl, Or.inr rfl, Or.inr rfl, trivial⟩) (ih (by first | omega | (dsimp only; omega)) (by first | omega | (dsimp only; omega)) kx)
set_option maxHeartbeats 1000000 in
theorem c_X9_forgets {Γ : jE} (hl : Γ.1.stackTraces = false) {s : Nat → Int → Int} {ε : jEps} {d : Nat} {f : Int → Int} (hd : 2 ≤ d) (p0 : MW s f) : Con Γ (d, 0, 0) mX9_forgets [.ref 137] (jmem s ε) (RW (fun s' => (∀ k, 0 ≤ k → k < gAll f → s' 141 k = -100000 ∧ s' 141 (262144 + k) = -100000) ∧ VFr s s') ε) X0 := by
  refine Con.ofJ (by decide +kernel) (by simp [Value.category]) (Nat.le_of_ble_eq_true rfl) ?_ hl
  have hw := MW.w p0
  have ga := gPos_rng p0.l p0.v
  refine I.iconst dX9_forgets_0 ?_
  refine J.istore_n 1 dX9_forgets_1 rfl (by decide) rfl ?_
  refine I.iconst dX9_forgets_2 ?_
  refine J.istore_n 2 dX9_forgets_3 rfl (by decide) rfl ?_
  refine J.fgt (by exact ⟨Or.inr rfl, Or.inr rfl, Or.inr rfl, trivial⟩) (k_X9_forgets_4 hl (by omega) p0 ((f (18 + f 1)).toNat) (by first | omega | (dsimp only; omega)) (by first | omega | (dsimp only; omega)) ?_)
  refine I.iconst dX9_forgets_23 ?_
  refine J.istore_n 2 dX9_forgets_24 rfl (by decide) rfl ?_
  refine J.fgt (by exact ⟨Or.inr rfl, Or.inr rfl, Or.inr rfl, trivial⟩) (k_X9_forgets_25 hl (by omega) p0 ((gAll f).toNat) (by omega) (by omega) (fun j a b => by omega) (VFr.refl s) ?_)
  rintro s25 ⟨i25, v25⟩
  exact I.vretQ dX9_forgets_55 rfl ⟨i25, v25⟩
set_option maxHeartbeats 1000000 in
theorem c_X9_burnValue {Γ : jE} (hl : Γ.1.stackTraces = false) {s : Nat → Int → Int} {ε : jEps} {d : Nat} {z : Int} {f : Int → Int} {N L : Nat} (hF : OptC Γ 0 N L) (hL0 : 10 ≤ L) (hL : L + 1 ≤ d) (hd : 4 ≤ d) (p0 : MW s f) (p1 : VI oV s f) (p2 : gBurns f ≤ N) (p3 : gBn f z) : Con Γ (d, 0, 0) mX9_burnValue [.ref 137, .int (iI z)] (jmem s ε) (RQ (fun w s' => gPt f z - gWf (gRem f z) = w ∧ VI oV s' f ∧ VFr s s') ε) X0 := by
  refine Con.ofJ (by decide +kernel) (by simp [Value.category]) (Nat.le_of_ble_eq_true rfl) ?_ hl
  have hw := MW.w p0
  have hz := (gE_rng hw.2.2.1 p3).2.2
  have hz0 := p3.1
  have gc := gRem_cnt p0.l p0.v p3
  have gl := gRem_FL p0.l p0.v p3
  have gv := gRem_FS p0.l p0.v p3
  have gs := gSame_rem p0.l p0.v p3
  refine J.aload_n 0 dX9_burnValue_0 rfl rfl ?_
  refine J.iload_n 1 dX9_burnValue_1 rfl rfl ?_
  refine I.callV1i (d' := d - 1) (mi' := mX9_scoreOfMove) dX9_burnValue_2 lX9_94 eX9_scoreOfMove rfl rfl (c_X9_scoreOfMove (d := d - 1) hl (by omega) (by first | assumption | exact MW.th (by assumption)) p3.ok) (show d - 1 + 1 ≤ d from by omega) (Nat.le_of_ble_eq_true rfl) ?_
  refine J.istore_n 2 dX9_burnValue_5 rfl (by decide) rfl ?_
  refine J.aload_n 0 dX9_burnValue_6 rfl rfl ?_
  refine J.iload_n 1 dX9_burnValue_7 rfl rfl ?_
  refine I.callV1w (d' := d - 1) (mi' := mX9_removes) dX9_burnValue_8 lX9_100 eX9_removes rfl rfl (c_X9_removes (d := d - 1) hl (by omega) (by first | assumption | exact MW.m (by assumption) | exact MV.th (by assumption) | exact MW.m (MW.th (by assumption))) (by first | omega | assumption)) (show d - 1 + 1 ≤ d from by omega) (Nat.le_of_ble_eq_true rfl) ?_
  rintro s8 ⟨v8, w8⟩
  refine J.iload_n 2 dX9_burnValue_11 rfl rfl ?_
  refine J.aload_n 0 dX9_burnValue_12 rfl rfl ?_
  refine I.iconst dX9_burnValue_13 ?_
  refine I.callV1q (d' := d - 1) (mi' := mX9_optimal) dX9_burnValue_14 lX9_115 eX9_optimal rfl rfl (OptC.use hF (d := d - 1) hl (by omega) ⟨v8, gl, gv⟩ ((p1.same p0.l p0.v gs).keep fun i => w8.1 _ _ (by decide)) (by omega)) (show d - 1 + 1 ≤ d from by omega) (Nat.le_of_ble_eq_true rfl) ?_
  rintro _ s14 ⟨rfl, i14, v14⟩
  refine I.sub dX9_burnValue_17 ?_
  refine J.istore_n 3 dX9_burnValue_18 rfl (by decide) rfl ?_
  refine J.aload_n 0 dX9_burnValue_19 rfl rfl ?_
  refine J.iload_n 1 dX9_burnValue_20 rfl rfl ?_
  refine I.callV1w (d' := d - 1) (mi' := mX9_putsBack) dX9_burnValue_21 lX9_126 eX9_putsBack rfl rfl (c_X9_putsBack (d := d - 1) hl (by omega) (v14.mv v8) (by first | omega | assumption)) (show d - 1 + 1 ≤ d from by omega) (Nat.le_of_ble_eq_true rfl) ?_
  rintro s21 ⟨v21, w21⟩
  refine J.iload_n 3 dX9_burnValue_24 rfl rfl ?_
  exact I.iretQ dX9_burnValue_25 rfl (by have ar := VFr.around p0.m w8 v14 v21 w21; exact ⟨rfl, (i14.same gl gv (gs.symm p0.l p0.v)).keep ar.2, ar.1⟩)
set_option maxHeartbeats 1000000 in
theorem k_X9_optimalOf1_17 {Γ : jE} (hl : Γ.1.stackTraces = false) {s : Nat → Int → Int} {ε : jEps} {d : Nat} {b : Int} {f : Int → Int} {N L : Nat} (hF : OptC Γ 0 N L) (hL0 : 10 ≤ L) (hL : L + 2 ≤ d) (hd : 5 ≤ d) (p0 : MW s f) (p1 : VI oV s f) (p2 : gBurns f ≤ N) (p3 : b = 1) (p4 : ¬ gShort f) {mc ms : Nat} {P : Option Value → jM → Prop} {X : String → jM → Prop} : ∀ (k : Nat) {z : Nat → Int → Int} {c a : Int} (q0 : ((k : Nat) : Int) = f (18 + f 1) - c) (q1 : 0 ≤ c) (q2 : VI oV z f) (q3 : VFr s z) (q4 : -24 ≤ a ∧ a ≤ 24) (kx : ∀ s', (VI oV s' f ∧ VFr s s') → J Γ (d, mc, ms) mX9_optimalOf 66 [some (.ref 137), some (.int (iI b)), some (.int (iI (gB gWf f k c a))), none] [] (jmem s' ε) P X), J Γ (d, mc, ms) mX9_optimalOf 17 [some (.ref 137), some (.int (iI b)), some (.int (iI (a))), some (.int (iI (c)))] [] (jmem z ε) P X := by
  have hw := MW.w p0
  have wf := gWf_rng p0.l p0.v
  intro k
  induction k with
  | zero =>
    intro z c a q0 q1 q2 q3 q4 kx
    refine J.iload_n 3 dX9_optimalOf_17 rfl rfl ?_
    refine J.aload_n 0 dX9_optimalOf_18 rfl rfl ?_
    refine I.callV0i (d' := d - 1) (mi' := mX9_chains) dX9_optimalOf_19 lX9_59 eX9_chains rfl rfl (c_X9_chains (d := d - 1) hl (by omega) (q3.m p0)) (show d - 1 + 1 ≤ d from by omega) (Nat.le_of_ble_eq_true rfl) ?_
    refine I.icmp_ge 66 dX9_optimalOf_22 (by decide) (by omega) (by omega) (fun h22 => ?_) (fun h22 => ?_)
    · skip
      exact J.fgt (by exact ⟨Or.inr rfl, Or.inr rfl, Or.inr rfl, Or.inl rfl, trivial⟩) (kx _ ⟨q2, q3⟩)
    · exact absurd h22 (by omega)
  | succ k ih =>
    intro z c a q0 q1 q2 q3 q4 kx
    refine J.iload_n 3 dX9_optimalOf_17 rfl rfl ?_
    refine J.aload_n 0 dX9_optimalOf_18 rfl rfl ?_
    refine I.callV0i (d' := d - 1) (mi' := mX9_chains) dX9_optimalOf_19 lX9_59 eX9_chains rfl rfl (c_X9_chains (d := d - 1) hl (by omega) (q3.m p0)) (show d - 1 + 1 ≤ d from by omega) (Nat.le_of_ble_eq_true rfl) ?_
    refine I.icmp_ge 66 dX9_optimalOf_22 (by decide) (by omega) (by omega) (fun h22 => ?_) (fun h22 => ?_)
    · exact absurd h22 (by omega)
    · skip
      refine J.aload_n 0 dX9_optimalOf_25 rfl rfl ?_
      refine J.iload_n 3 dX9_optimalOf_26 rfl rfl ?_
      refine I.callV1i (d' := d - 1) (mi' := mX9_isBurnable) dX9_optimalOf_27 lX9_81 eX9_isBurnable rfl rfl (c_X9_isBurnable (d := d - 1) hl (by omega) (q3.m p0) (by first | omega | assumption)) (show d - 1 + 1 ≤ d from by omega) (Nat.le_of_ble_eq_true rfl) ?_
      refine I.if_neB 36 dX9_optimalOf_30 (by decide) (fun h30 => ?_) (fun h30 => ?_)
      · skip
        obtain ⟨b1, b2⟩ := gBn_2 q1 (by omega) h30
        have g1 := gPt_rng p0.l p0.v b1.ok
        have g2 := gPt_rng p0.l p0.v b2.ok
        have x1 := gWf_rng (gRem_FL p0.l p0.v b1) (gRem_FS p0.l p0.v b1)
        have x2 := gWf_rng (gRem_FL p0.l p0.v b2) (gRem_FS p0.l p0.v b2)
        refine J.iload_n 2 dX9_optimalOf_36 rfl rfl ?_
        refine J.aload_n 0 dX9_optimalOf_37 rfl rfl ?_
        refine I.iconst dX9_optimalOf_38 ?_
        refine J.iload_n 3 dX9_optimalOf_39 rfl rfl ?_
        refine I.mul dX9_optimalOf_40 ?_
        refine I.callV1q (d' := d - 1) (mi' := mX9_burnValue) dX9_optimalOf_41 lX9_118 eX9_burnValue rfl rfl (c_X9_burnValue (d := d - 1) hl hF hL0 (by omega) (by omega) (q3.m p0) q2 (by first | omega | assumption) b1) (show d - 1 + 1 ≤ d from by omega) (Nat.le_of_ble_eq_true rfl) ?_
        rintro _ s41 ⟨rfl, i41, v41⟩
        refine J.aload_n 0 dX9_optimalOf_44 rfl rfl ?_
        refine I.iconst dX9_optimalOf_45 ?_
        refine J.iload_n 3 dX9_optimalOf_46 rfl rfl ?_
        refine I.mul dX9_optimalOf_47 ?_
        refine I.iconst dX9_optimalOf_48 ?_
        refine I.add dX9_optimalOf_49 ?_
        refine I.callV1q (d' := d - 1) (mi' := mX9_burnValue) dX9_optimalOf_50 lX9_118 eX9_burnValue rfl rfl (c_X9_burnValue (d := d - 1) hl hF hL0 (by omega) (by omega) ((q3.trans v41).m p0) i41 (by first | omega | assumption) b2) (show d - 1 + 1 ≤ d from by omega) (Nat.le_of_ble_eq_true rfl) ?_
        rintro _ s50 ⟨rfl, i50, v50⟩
        refine I.mmax dX9_optimalOf_53 lX9_121 (by omega) (by omega) (Nat.le_of_ble_eq_true rfl) ?_
        refine I.mmax dX9_optimalOf_56 lX9_121 (by omega) (by omega) (Nat.le_of_ble_eq_true rfl) ?_
        refine J.istore_n 2 dX9_optimalOf_59 rfl (by decide) rfl ?_
        refine I.iinc dX9_optimalOf_60 rfl rfl ?_
        refine J.goto 17 dX9_optimalOf_63 (by decide) ?_
        exact J.fgt (by exact ⟨Or.inr rfl, Or.inr rfl, Or.inr rfl, Or.inr rfl, trivial⟩) (ih (by omega) (by omega) (by first | exact i50 | exact q2) (by first | exact (q3.trans v41).trans v50 | exact q3) (by omega) (fun s' hs => by have := kx s' hs; unfold gB at this; rw [foldF_s] at this; (first | rw [if_pos h30] at this | rw [if_neg h30] at this); exact this))
      · skip
        skip
        refine J.goto 60 dX9_optimalOf_33 (by decide) ?_
        refine I.iinc dX9_optimalOf_60 rfl rfl ?_
        refine J.goto 17 dX9_optimalOf_63 (by decide) ?_
        exact J.fgt (by exact ⟨Or.inr rfl, Or.inr rfl, Or.inr rfl, Or.inr rfl, trivial⟩) (ih (by omega) (by omega) (by first | exact i50 | exact q2) (by first | exact (q3.trans v41).trans v50 | exact q3) (by omega) (fun s' hs => by have := kx s' hs; unfold gB at this; rw [foldF_s] at this; (first | rw [if_pos h30] at this | rw [if_neg h30] at this); exact this))
set_option maxHeartbeats 1000000 in
theorem c_X9_optimalOf1 {Γ : jE} (hl : Γ.1.stackTraces = false) {s : Nat → Int → Int} {ε : jEps} {d : Nat} {b : Int} {f : Int → Int} {N L : Nat} (hF : OptC Γ 0 N L) (hL0 : 10 ≤ L) (hL : L + 2 ≤ d) (hd : 5 ≤ d) (p0 : MW s f) (p1 : VI oV s f) (p2 : gBurns f ≤ N) (p3 : b = 1) (p4 : ¬ gShort f) : Con Γ (d, 0, 0) mX9_optimalOf [.ref 137, .int (iI b)] (jmem s ε) (RQ (fun w s' => gWf f = w ∧ VI oV s' f ∧ VFr s s') ε) X0 := by
  refine Con.ofJ (by decide +kernel) (by simp [Value.category]) (Nat.le_of_ble_eq_true rfl) ?_ hl
  have hw := MW.w p0
  have wf := gWf_rng p0.l p0.v
  refine J.iload_n 1 dX9_optimalOf_0 rfl rfl ?_
  refine I.if_eq 8 dX9_optimalOf_1 (by decide) (by omega) (fun h1 => ?_) (fun h1 => ?_)
  · exact absurd h1 (by omega)
  · skip
    refine I.iconst dX9_optimalOf_4 ?_
    refine J.goto 14 dX9_optimalOf_5 (by decide) ?_
    refine J.istore_n 2 dX9_optimalOf_14 rfl (by decide) rfl ?_
    refine I.iconst dX9_optimalOf_15 ?_
    refine J.istore_n 3 dX9_optimalOf_16 rfl (by decide) rfl ?_
    refine J.fgt (by exact ⟨Or.inr rfl, Or.inr rfl, Or.inr rfl, Or.inr rfl, trivial⟩) (k_X9_optimalOf1_17 hl hF hL0 hL (by omega) p0 p1 p2 p3 p4 ((f (18 + f 1)).toNat) (by omega) (by omega) p1 (VFr.refl s) (by omega) ?_)
    rintro s17 ⟨i17, v17⟩
    refine J.iload_n 2 dX9_optimalOf_66 rfl rfl ?_
    exact I.iretQ dX9_optimalOf_67 rfl ⟨gWf_eq p0.l p0.v, i17, v17⟩
set_option maxHeartbeats 1000000 in
theorem k_X9_optimalOf0_17 {Γ : jE} (hl : Γ.1.stackTraces = false) {s : Nat → Int → Int} {ε : jEps} {d : Nat} {b : Int} {f : Int → Int} {N L : Nat} (hF : OptC Γ 0 N L) (hL0 : 10 ≤ L) (hL : L + 2 ≤ d) {M : Nat} (hT : OptC Γ 1 (N + 1) M) (hM : M + 1 ≤ d) (hd : 5 ≤ d) (p0 : MW s f) (p1 : VI oV s f) (p2 : gBurns f ≤ N) (p3 : b = 0) (p4 : ¬ gShort f) {mc ms : Nat} {P : Option Value → jM → Prop} {X : String → jM → Prop} : ∀ (k : Nat) {z : Nat → Int → Int} {c a : Int} (q0 : ((k : Nat) : Int) = f (18 + f 1) - c) (q1 : 0 ≤ c) (q2 : VI oV z f) (q3 : VFr s z) (q4 : -24 ≤ a ∧ a ≤ 24) (kx : ∀ s', (VI oV s' f ∧ VFr s s') → J Γ (d, mc, ms) mX9_optimalOf 66 [some (.ref 137), some (.int (iI b)), some (.int (iI (gB gWf f k c a))), none] [] (jmem s' ε) P X), J Γ (d, mc, ms) mX9_optimalOf 17 [some (.ref 137), some (.int (iI b)), some (.int (iI (a))), some (.int (iI (c)))] [] (jmem z ε) P X := by
  have hw := MW.w p0
  have wf := gWf_rng p0.l p0.v
  intro k
  induction k with
  | zero =>
    intro z c a q0 q1 q2 q3 q4 kx
    refine J.iload_n 3 dX9_optimalOf_17 rfl rfl ?_
    refine J.aload_n 0 dX9_optimalOf_18 rfl rfl ?_
    refine I.callV0i (d' := d - 1) (mi' := mX9_chains) dX9_optimalOf_19 lX9_59 eX9_chains rfl rfl (c_X9_chains (d := d - 1) hl (by omega) (q3.m p0)) (show d - 1 + 1 ≤ d from by omega) (Nat.le_of_ble_eq_true rfl) ?_
    refine I.icmp_ge 66 dX9_optimalOf_22 (by decide) (by omega) (by omega) (fun h22 => ?_) (fun h22 => ?_)
    · skip
      exact J.fgt (by exact ⟨Or.inr rfl, Or.inr rfl, Or.inr rfl, Or.inl rfl, trivial⟩) (kx _ ⟨q2, q3⟩)
    · exact absurd h22 (by omega)
  | succ k ih =>
    intro z c a q0 q1 q2 q3 q4 kx
    refine J.iload_n 3 dX9_optimalOf_17 rfl rfl ?_
    refine J.aload_n 0 dX9_optimalOf_18 rfl rfl ?_
    refine I.callV0i (d' := d - 1) (mi' := mX9_chains) dX9_optimalOf_19 lX9_59 eX9_chains rfl rfl (c_X9_chains (d := d - 1) hl (by omega) (q3.m p0)) (show d - 1 + 1 ≤ d from by omega) (Nat.le_of_ble_eq_true rfl) ?_
    refine I.icmp_ge 66 dX9_optimalOf_22 (by decide) (by omega) (by omega) (fun h22 => ?_) (fun h22 => ?_)
    · exact absurd h22 (by omega)
    · skip
      refine J.aload_n 0 dX9_optimalOf_25 rfl rfl ?_
      refine J.iload_n 3 dX9_optimalOf_26 rfl rfl ?_
      refine I.callV1i (d' := d - 1) (mi' := mX9_isBurnable) dX9_optimalOf_27 lX9_81 eX9_isBurnable rfl rfl (c_X9_isBurnable (d := d - 1) hl (by omega) (q3.m p0) (by first | omega | assumption)) (show d - 1 + 1 ≤ d from by omega) (Nat.le_of_ble_eq_true rfl) ?_
      refine I.if_neB 36 dX9_optimalOf_30 (by decide) (fun h30 => ?_) (fun h30 => ?_)
      · skip
        obtain ⟨b1, b2⟩ := gBn_2 q1 (by omega) h30
        have g1 := gPt_rng p0.l p0.v b1.ok
        have g2 := gPt_rng p0.l p0.v b2.ok
        have x1 := gWf_rng (gRem_FL p0.l p0.v b1) (gRem_FS p0.l p0.v b1)
        have x2 := gWf_rng (gRem_FL p0.l p0.v b2) (gRem_FS p0.l p0.v b2)
        refine J.iload_n 2 dX9_optimalOf_36 rfl rfl ?_
        refine J.aload_n 0 dX9_optimalOf_37 rfl rfl ?_
        refine I.iconst dX9_optimalOf_38 ?_
        refine J.iload_n 3 dX9_optimalOf_39 rfl rfl ?_
        refine I.mul dX9_optimalOf_40 ?_
        refine I.callV1q (d' := d - 1) (mi' := mX9_burnValue) dX9_optimalOf_41 lX9_118 eX9_burnValue rfl rfl (c_X9_burnValue (d := d - 1) hl hF hL0 (by omega) (by omega) (q3.m p0) q2 (by first | omega | assumption) b1) (show d - 1 + 1 ≤ d from by omega) (Nat.le_of_ble_eq_true rfl) ?_
        rintro _ s41 ⟨rfl, i41, v41⟩
        refine J.aload_n 0 dX9_optimalOf_44 rfl rfl ?_
        refine I.iconst dX9_optimalOf_45 ?_
        refine J.iload_n 3 dX9_optimalOf_46 rfl rfl ?_
        refine I.mul dX9_optimalOf_47 ?_
        refine I.iconst dX9_optimalOf_48 ?_
        refine I.add dX9_optimalOf_49 ?_
        refine I.callV1q (d' := d - 1) (mi' := mX9_burnValue) dX9_optimalOf_50 lX9_118 eX9_burnValue rfl rfl (c_X9_burnValue (d := d - 1) hl hF hL0 (by omega) (by omega) ((q3.trans v41).m p0) i41 (by first | omega | assumption) b2) (show d - 1 + 1 ≤ d from by omega) (Nat.le_of_ble_eq_true rfl) ?_
        rintro _ s50 ⟨rfl, i50, v50⟩
        refine I.mmax dX9_optimalOf_53 lX9_121 (by omega) (by omega) (Nat.le_of_ble_eq_true rfl) ?_
        refine I.mmax dX9_optimalOf_56 lX9_121 (by omega) (by omega) (Nat.le_of_ble_eq_true rfl) ?_
        refine J.istore_n 2 dX9_optimalOf_59 rfl (by decide) rfl ?_
        refine I.iinc dX9_optimalOf_60 rfl rfl ?_
        refine J.goto 17 dX9_optimalOf_63 (by decide) ?_
        exact J.fgt (by exact ⟨Or.inr rfl, Or.inr rfl, Or.inr rfl, Or.inr rfl, trivial⟩) (ih (by omega) (by omega) (by first | exact i50 | exact q2) (by first | exact (q3.trans v41).trans v50 | exact q3) (by omega) (fun s' hs => by have := kx s' hs; unfold gB at this; rw [foldF_s] at this; (first | rw [if_pos h30] at this | rw [if_neg h30] at this); exact this))
      · skip
        skip
        refine J.goto 60 dX9_optimalOf_33 (by decide) ?_
        refine I.iinc dX9_optimalOf_60 rfl rfl ?_
        refine J.goto 17 dX9_optimalOf_63 (by decide) ?_
        exact J.fgt (by exact ⟨Or.inr rfl, Or.inr rfl, Or.inr rfl, Or.inr rfl, trivial⟩) (ih (by omega) (by omega) (by first | exact i50 | exact q2) (by first | exact (q3.trans v41).trans v50 | exact q3) (by omega) (fun s' hs => by have := kx s' hs; unfold gB at this; rw [foldF_s] at this; (first | rw [if_pos h30] at this | rw [if_neg h30] at this); exact this))
set_option maxHeartbeats 1000000 in
theorem c_X9_optimalOf0 {Γ : jE} (hl : Γ.1.stackTraces = false) {s : Nat → Int → Int} {ε : jEps} {d : Nat} {b : Int} {f : Int → Int} {N L : Nat} (hF : OptC Γ 0 N L) (hL0 : 10 ≤ L) (hL : L + 2 ≤ d) {M : Nat} (hT : OptC Γ 1 (N + 1) M) (hM : M + 1 ≤ d) (hd : 5 ≤ d) (p0 : MW s f) (p1 : VI oV s f) (p2 : gBurns f ≤ N) (p3 : b = 0) (p4 : ¬ gShort f) : Con Γ (d, 0, 0) mX9_optimalOf [.ref 137, .int (iI b)] (jmem s ε) (RQ (fun w s' => gWf f = w ∧ VI oV s' f ∧ VFr s s') ε) X0 := by
  refine Con.ofJ (by decide +kernel) (by simp [Value.category]) (Nat.le_of_ble_eq_true rfl) ?_ hl
  have hw := MW.w p0
  have wf := gWf_rng p0.l p0.v
  refine J.iload_n 1 dX9_optimalOf_0 rfl rfl ?_
  refine I.if_eq 8 dX9_optimalOf_1 (by decide) (by omega) (fun h1 => ?_) (fun h1 => ?_)
  · skip
    refine J.aload_n 0 dX9_optimalOf_8 rfl rfl ?_
    refine I.iconst dX9_optimalOf_9 ?_
    refine I.callV1q (d' := d - 1) (mi' := mX9_optimal) dX9_optimalOf_10 lX9_115 eX9_optimal rfl rfl (OptC.use hT (d := d - 1) hl (by omega) p0 p1 (by omega)) (show d - 1 + 1 ≤ d from by omega) (Nat.le_of_ble_eq_true rfl) ?_
    rintro _ s10 ⟨rfl, i10, v10⟩
    refine I.neg dX9_optimalOf_13 ?_
    refine J.istore_n 2 dX9_optimalOf_14 rfl (by decide) rfl ?_
    refine I.iconst dX9_optimalOf_15 ?_
    refine J.istore_n 3 dX9_optimalOf_16 rfl (by decide) rfl ?_
    refine J.fgt (by exact ⟨Or.inr rfl, Or.inr rfl, Or.inr rfl, Or.inr rfl, trivial⟩) (k_X9_optimalOf0_17 hl hF hL0 hL hT hM (by omega) p0 p1 p2 p3 p4 ((f (18 + f 1)).toNat) (by omega) (by omega) i10 v10 (by omega) ?_)
    rintro s17 ⟨i17, v17⟩
    refine J.iload_n 2 dX9_optimalOf_66 rfl rfl ?_
    exact I.iretQ dX9_optimalOf_67 rfl ⟨(gB_neg p0.l p0.v p4).symm, i17, v17⟩
  · exact absurd h1 (by omega)
set_option maxHeartbeats 1000000 in
theorem c_X9_optimal1 {Γ : jE} (hl : Γ.1.stackTraces = false) {s : Nat → Int → Int} {ε : jEps} {d : Nat} {b : Int} {f : Int → Int} {N L : Nat} (hF : OptC Γ 0 N L) (hL0 : 10 ≤ L) (hL : L + 3 ≤ d) (hd : 6 ≤ d) (p0 : MW s f) (p1 : VI oV s f) (p2 : gBurns f ≤ N) (p3 : b = 1) : Con Γ (d, 0, 0) mX9_optimal [.ref 137, .int (iI b)] (jmem s ε) (RQ (fun w s' => gWf f = w ∧ VI oV s' f ∧ VFr s s') ε) X0 := by
  refine Con.ofJ (by decide +kernel) (by simp [Value.category]) (Nat.le_of_ble_eq_true rfl) ?_ hl
  have hw := MW.w p0
  have wf := gWf_rng p0.l p0.v
  have hv : s 141 (gPos f + 262144 * b) = -100000 ∨ s 141 (gPos f + 262144 * b) = gWf f := p1 f (gSame.refl f) p0.l p0.v b (by omega)
  have gr := gPos_rng p0.l p0.v
  have gb := gBurns_rng p0.l p0.v
  refine J.aload_n 0 dX9_optimal_0 rfl rfl ?_
  refine J.iload_n 1 dX9_optimal_1 rfl rfl ?_
  refine I.callV1i (d' := d - 1) (mi' := mX9_valuePlace) dX9_optimal_2 lX9_108 eX9_valuePlace rfl rfl (c_X9_valuePlace (d := d - 1) hl (by omega) (by first | assumption | exact MW.th (by assumption)) (by first | omega | assumption)) (show d - 1 + 1 ≤ d from by omega) (Nat.le_of_ble_eq_true rfl) ?_
  refine J.istore_n 2 dX9_optimal_5 rfl (by decide) rfl ?_
  refine J.aload_n 0 dX9_optimal_6 rfl rfl ?_
  refine I.getR dX9_optimal_7 jcls fX9_22 rfl (by decide) rfl rfl ?_
  refine J.iload_n 2 dX9_optimal_10 rfl rfl ?_
  refine I.iald dX9_optimal_11 rfl (by omega) (by omega) ?_
  refine J.ldc (iI (-100000)) dX9_optimal_12 (by rw [show iI (-100000) = -100000 from by decide]; exact qX9_103) ?_
  refine I.icmp_ne 39 dX9_optimal_14 (by decide) (by omega) (by omega) (fun h14 => ?_) (fun h14 => ?_)
  · skip
    refine J.aload_n 0 dX9_optimal_39 rfl rfl ?_
    refine I.getR dX9_optimal_40 jcls fX9_22 rfl (by decide) rfl rfl ?_
    refine J.iload_n 2 dX9_optimal_43 rfl rfl ?_
    refine I.iald dX9_optimal_44 rfl (by omega) (by omega) ?_
    exact I.iretQ dX9_optimal_45 rfl ⟨by omega, p1, VFr.refl s⟩
  · skip
    refine J.aload_n 0 dX9_optimal_17 rfl rfl ?_
    refine I.getR dX9_optimal_18 jcls fX9_22 rfl (by decide) rfl rfl ?_
    refine J.iload_n 2 dX9_optimal_21 rfl rfl ?_
    refine J.aload_n 0 dX9_optimal_22 rfl rfl ?_
    refine I.callV0i (d' := d - 1) (mi' := mX9_areShort) dX9_optimal_23 lX9_84 eX9_areShort rfl rfl (c_X9_areShort (d := d - 1) hl (by omega) (by first | assumption | exact MW.th (by assumption))) (show d - 1 + 1 ≤ d from by omega) (Nat.le_of_ble_eq_true rfl) ?_
    refine I.if_eqB 33 dX9_optimal_26 (by decide) (fun h26 => ?_) (fun h26 => ?_)
    · skip
      refine J.aload_n 0 dX9_optimal_33 rfl rfl ?_
      refine J.iload_n 1 dX9_optimal_34 rfl rfl ?_
      refine I.callV1q (d' := d - 1) (mi' := mX9_optimalOf) dX9_optimal_35 lX9_112 eX9_optimalOf rfl rfl (c_X9_optimalOf1 (d := d - 1) hl hF hL0 (by omega) (by omega) (by first | assumption | exact MW.th (by assumption)) (by assumption) (by first | omega | assumption) p3 h26) (show d - 1 + 1 ≤ d from by omega) (Nat.le_of_ble_eq_true rfl) ?_
      rintro _ s35 ⟨rfl, i35, v35⟩
      refine I.iast dX9_optimal_38 rfl (by omega) (by omega) ?_
      refine J.aload_n 0 dX9_optimal_39 rfl rfl ?_
      refine I.getR dX9_optimal_40 jcls fX9_22 rfl (by decide) rfl rfl ?_
      refine J.iload_n 2 dX9_optimal_43 rfl rfl ?_
      refine I.iald dX9_optimal_44 rfl (by omega) (by omega) ?_
      exact I.iretQ dX9_optimal_45 rfl (by rw [up_eq]; exact ⟨rfl, VI.set (V := oV) p0.l p0.v i35 (by omega), fun q i hq => (up_ne (Or.inl hq)).trans (v35 q i hq)⟩)
    · skip
      refine I.iconst dX9_optimal_29 ?_
      refine J.goto 38 dX9_optimal_30 (by decide) ?_
      refine I.iast dX9_optimal_38 rfl (by omega) (by omega) ?_
      refine J.aload_n 0 dX9_optimal_39 rfl rfl ?_
      refine I.getR dX9_optimal_40 jcls fX9_22 rfl (by decide) rfl rfl ?_
      refine J.iload_n 2 dX9_optimal_43 rfl rfl ?_
      refine I.iald dX9_optimal_44 rfl (by omega) (by omega) ?_
      exact I.iretQ dX9_optimal_45 rfl (by
        have e : (0 : Int) = oV b f := (gWf_short p0.l p0.v h26).symm
        rw [up_eq, e]
        exact ⟨rfl, p1.set p0.l p0.v (by omega), fun q i hq => up_ne (Or.inl hq)⟩)
set_option maxHeartbeats 1000000 in
theorem c_X9_optimal0 {Γ : jE} (hl : Γ.1.stackTraces = false) {s : Nat → Int → Int} {ε : jEps} {d : Nat} {b : Int} {f : Int → Int} {N L : Nat} (hF : OptC Γ 0 N L) (hL0 : 10 ≤ L) (hL : L + 3 ≤ d) {M : Nat} (hT : OptC Γ 1 (N + 1) M) (hM : M + 2 ≤ d) (hd : 6 ≤ d) (p0 : MW s f) (p1 : VI oV s f) (p2 : gBurns f ≤ N) (p3 : b = 0) : Con Γ (d, 0, 0) mX9_optimal [.ref 137, .int (iI b)] (jmem s ε) (RQ (fun w s' => gWf f = w ∧ VI oV s' f ∧ VFr s s') ε) X0 := by
  refine Con.ofJ (by decide +kernel) (by simp [Value.category]) (Nat.le_of_ble_eq_true rfl) ?_ hl
  have hw := MW.w p0
  have wf := gWf_rng p0.l p0.v
  have hv : s 141 (gPos f + 262144 * b) = -100000 ∨ s 141 (gPos f + 262144 * b) = gWf f := p1 f (gSame.refl f) p0.l p0.v b (by omega)
  have gr := gPos_rng p0.l p0.v
  have gb := gBurns_rng p0.l p0.v
  refine J.aload_n 0 dX9_optimal_0 rfl rfl ?_
  refine J.iload_n 1 dX9_optimal_1 rfl rfl ?_
  refine I.callV1i (d' := d - 1) (mi' := mX9_valuePlace) dX9_optimal_2 lX9_108 eX9_valuePlace rfl rfl (c_X9_valuePlace (d := d - 1) hl (by omega) (by first | assumption | exact MW.th (by assumption)) (by first | omega | assumption)) (show d - 1 + 1 ≤ d from by omega) (Nat.le_of_ble_eq_true rfl) ?_
  refine J.istore_n 2 dX9_optimal_5 rfl (by decide) rfl ?_
  refine J.aload_n 0 dX9_optimal_6 rfl rfl ?_
  refine I.getR dX9_optimal_7 jcls fX9_22 rfl (by decide) rfl rfl ?_
  refine J.iload_n 2 dX9_optimal_10 rfl rfl ?_
  refine I.iald dX9_optimal_11 rfl (by omega) (by omega) ?_
  refine J.ldc (iI (-100000)) dX9_optimal_12 (by rw [show iI (-100000) = -100000 from by decide]; exact qX9_103) ?_
  refine I.icmp_ne 39 dX9_optimal_14 (by decide) (by omega) (by omega) (fun h14 => ?_) (fun h14 => ?_)
  · skip
    refine J.aload_n 0 dX9_optimal_39 rfl rfl ?_
    refine I.getR dX9_optimal_40 jcls fX9_22 rfl (by decide) rfl rfl ?_
    refine J.iload_n 2 dX9_optimal_43 rfl rfl ?_
    refine I.iald dX9_optimal_44 rfl (by omega) (by omega) ?_
    exact I.iretQ dX9_optimal_45 rfl ⟨by omega, p1, VFr.refl s⟩
  · skip
    refine J.aload_n 0 dX9_optimal_17 rfl rfl ?_
    refine I.getR dX9_optimal_18 jcls fX9_22 rfl (by decide) rfl rfl ?_
    refine J.iload_n 2 dX9_optimal_21 rfl rfl ?_
    refine J.aload_n 0 dX9_optimal_22 rfl rfl ?_
    refine I.callV0i (d' := d - 1) (mi' := mX9_areShort) dX9_optimal_23 lX9_84 eX9_areShort rfl rfl (c_X9_areShort (d := d - 1) hl (by omega) (by first | assumption | exact MW.th (by assumption))) (show d - 1 + 1 ≤ d from by omega) (Nat.le_of_ble_eq_true rfl) ?_
    refine I.if_eqB 33 dX9_optimal_26 (by decide) (fun h26 => ?_) (fun h26 => ?_)
    · skip
      refine J.aload_n 0 dX9_optimal_33 rfl rfl ?_
      refine J.iload_n 1 dX9_optimal_34 rfl rfl ?_
      refine I.callV1q (d' := d - 1) (mi' := mX9_optimalOf) dX9_optimal_35 lX9_112 eX9_optimalOf rfl rfl (c_X9_optimalOf0 (d := d - 1) hl hF hL0 (by omega) hT (by omega) (by omega) (by first | assumption | exact MW.th (by assumption)) (by assumption) (by first | omega | assumption) p3 h26) (show d - 1 + 1 ≤ d from by omega) (Nat.le_of_ble_eq_true rfl) ?_
      rintro _ s35 ⟨rfl, i35, v35⟩
      refine I.iast dX9_optimal_38 rfl (by omega) (by omega) ?_
      refine J.aload_n 0 dX9_optimal_39 rfl rfl ?_
      refine I.getR dX9_optimal_40 jcls fX9_22 rfl (by decide) rfl rfl ?_
      refine J.iload_n 2 dX9_optimal_43 rfl rfl ?_
      refine I.iald dX9_optimal_44 rfl (by omega) (by omega) ?_
      exact I.iretQ dX9_optimal_45 rfl (by rw [up_eq]; exact ⟨rfl, VI.set (V := oV) p0.l p0.v i35 (by omega), fun q i hq => (up_ne (Or.inl hq)).trans (v35 q i hq)⟩)
    · skip
      refine I.iconst dX9_optimal_29 ?_
      refine J.goto 38 dX9_optimal_30 (by decide) ?_
      refine I.iast dX9_optimal_38 rfl (by omega) (by omega) ?_
      refine J.aload_n 0 dX9_optimal_39 rfl rfl ?_
      refine I.getR dX9_optimal_40 jcls fX9_22 rfl (by decide) rfl rfl ?_
      refine J.iload_n 2 dX9_optimal_43 rfl rfl ?_
      refine I.iald dX9_optimal_44 rfl (by omega) (by omega) ?_
      exact I.iretQ dX9_optimal_45 rfl (by
        have e : (0 : Int) = oV b f := (gWf_short p0.l p0.v h26).symm
        rw [up_eq, e]
        exact ⟨rfl, p1.set p0.l p0.v (by omega), fun q i hq => up_ne (Or.inl hq)⟩)
theorem opt_both {Γ : jE} (hl : Γ.1.stackTraces = false) : ∀ (N : Nat), OptC Γ 0 N (10 + 5 * N) ∧ OptC Γ 1 N (10 + 5 * N)
  | 0 => ⟨fun _ h _ hn => absurd hn (by have := gBurns_rng h.l h.v; omega), fun _ h _ hn => absurd hn (by have := gBurns_rng h.l h.v; omega)⟩
  | N + 1 => by
    have ih : OptC Γ 0 N (10 + 5 * N) := (opt_both hl N).1
    have hT : OptC Γ 1 (N + 1) (10 + 5 * N + 3) := fun hd h hv hn => c_X9_optimal1 hl ih (by omega) hd (by omega) h hv (by omega) rfl
    exact ⟨fun hd h hv hn => c_X9_optimal0 hl ih (by omega) (by omega) hT (by omega) (by omega) h hv (by omega) rfl, fun hd h hv hn => hT (by omega) h hv hn⟩
theorem c_X9_optimal {Γ : jE} (hl : Γ.1.stackTraces = false) {s : Nat → Int → Int} {ε : jEps} {d : Nat} {b : Int} {f : Int → Int} (hd : 120 ≤ d) (p0 : MW s f) (p1 : VI oV s f) (p2 : b = 0 ∨ b = 1) : Con Γ (d, 0, 0) mX9_optimal [.ref 137, .int (iI b)] (jmem s ε) (RQ (fun w s' => gWf f = w ∧ VI oV s' f ∧ VFr s s') ε) X0 := by
  have gb := gBurns_rng p0.l p0.v
  rcases p2 with rfl | rfl
  · exact OptC.use (opt_both hl 22).1 hl (by omega) p0 p1 (by omega)
  · exact OptC.use (opt_both hl 22).2 hl (by omega) p0 p1 (by omega)
theorem c_X9_burnValue2 {Γ : jE} (hl : Γ.1.stackTraces = false) {s : Nat → Int → Int} {ε : jEps} {d : Nat} {z : Int} {f : Int → Int} (hd : 125 ≤ d) (p0 : MW s f) (p1 : VI oV s f) (p2 : gBn f z) : Con Γ (d, 0, 0) mX9_burnValue [.ref 137, .int (iI z)] (jmem s ε) (RQ (fun w s' => gPt f z - gWf (gRem f z) = w ∧ VI oV s' f ∧ VFr s s') ε) X0 := by
  have gb := gBurns_rng p0.l p0.v
  exact c_X9_burnValue (N := 21) hl (opt_both hl 21).1 (by omega) (by omega) (by omega) p0 p1 (by omega) p2

