set_option maxHeartbeats 1000000 in
theorem c_X9_get0 {Γ : jE} (hl : Γ.1.stackTraces = false) {s : Nat → Int → Int} {ε : jEps} {d : Nat} {k : Int} (hd : 0 ≤ d) (p0 : 0 ≤ s 137 2 ∧ s 137 2 ≤ 2552) (p1 : 0 ≤ k ∧ k < 232) : Con Γ (d, 0, 0) mX9_get [.ref 137, .int (iI k)] (jmem s ε) (RI (s 138 (s 137 2 + k)) (s) ε) X0 := by
  refine Con.ofJ (by decide +kernel) (by simp [Value.category]) (Nat.le_of_ble_eq_true rfl) ?_ hl
  refine J.aload_n 0 dX9_get_0 rfl rfl ?_
  refine I.getR dX9_get_1 jcls fX9_7 rfl (by decide) rfl rfl ?_
  refine J.aload_n 0 dX9_get_4 rfl rfl ?_
  refine I.gI 2 rfl dX9_get_5 jcls fX9_43 rfl (by decide) rfl ?_
  refine J.iload_n 1 dX9_get_8 rfl rfl ?_
  refine I.add dX9_get_9 ?_
  refine I.iald dX9_get_10 rfl (by omega) (by omega) ?_
  exact I.iretI dX9_get_11 rfl (by first | rfl | omega) rfl
set_option maxHeartbeats 1000000 in
theorem c_X9_set {Γ : jE} (hl : Γ.1.stackTraces = false) {s : Nat → Int → Int} {ε : jEps} {d : Nat} {k : Int} {v : Int} {f : Int → Int} (hd : 0 ≤ d) (p0 : MV s f) (p1 : 0 ≤ k ∧ k < 232) : Con Γ (d, 0, 0) mX9_set [.ref 137, .int (iI k), .int (iI v)] (jmem s ε) (RW (fun s' => MV s' (upr f k v) ∧ FrM s s') ε) X0 := by
  refine Con.ofJ (by decide +kernel) (by simp [Value.category]) (Nat.le_of_ble_eq_true rfl) ?_ hl
  have ha := MV.at p0
  refine J.aload_n 0 dX9_set_0 rfl rfl ?_
  refine I.getR dX9_set_1 jcls fX9_7 rfl (by decide) rfl rfl ?_
  refine J.aload_n 0 dX9_set_4 rfl rfl ?_
  refine I.gI 2 rfl dX9_set_5 jcls fX9_43 rfl (by decide) rfl ?_
  refine J.iload_n 1 dX9_set_8 rfl rfl ?_
  refine I.add dX9_set_9 ?_
  refine J.iload_n 2 dX9_set_10 rfl rfl ?_
  refine I.iast dX9_set_11 rfl (by omega) (by omega) ?_
  exact I.vretQ dX9_set_12 rfl (MV.set p0 p1)
set_option maxHeartbeats 1000000 in
theorem c_X9_adds {Γ : jE} (hl : Γ.1.stackTraces = false) {s : Nat → Int → Int} {ε : jEps} {d : Nat} {k : Int} {b : Int} {f : Int → Int} (hd : 1 ≤ d) (p0 : MV s f) (p1 : 0 ≤ k ∧ k < 232) : Con Γ (d, 0, 0) mX9_adds [.ref 137, .int (iI k), .int (iI b)] (jmem s ε) (RW (fun s' => MV s' (upr f k (f k + b)) ∧ FrM s s') ε) X0 := by
  refine Con.ofJ (by decide +kernel) (by simp [Value.category]) (Nat.le_of_ble_eq_true rfl) ?_ hl
  have ha := MV.at p0
  refine J.aload_n 0 dX9_adds_0 rfl rfl ?_
  refine J.iload_n 1 dX9_adds_1 rfl rfl ?_
  refine J.aload_n 0 dX9_adds_2 rfl rfl ?_
  refine J.iload_n 1 dX9_adds_3 rfl rfl ?_
  refine I.callV1i (d' := d - 1) (mi' := mX9_get) dX9_adds_4 lX9_46 eX9_get rfl rfl (c_X9_get (d := d - 1) hl (by omega) (by first | assumption | exact MW.m (by assumption) | exact MV.th (by assumption) | exact MW.m (MW.th (by assumption))) (by first | omega | assumption)) (show d - 1 + 1 ≤ d from by omega) (Nat.le_of_ble_eq_true rfl) ?_
  refine J.iload_n 2 dX9_adds_7 rfl rfl ?_
  refine I.add dX9_adds_8 ?_
  refine I.callV2w (d' := d - 1) (mi' := mX9_set) dX9_adds_9 lX9_32 eX9_set rfl rfl (c_X9_set (d := d - 1) hl (by omega) (by first | assumption | exact MW.m (by assumption) | exact MV.th (by assumption) | exact MW.m (MW.th (by assumption))) (by first | omega | assumption)) (show d - 1 + 1 ≤ d from by omega) (Nat.le_of_ble_eq_true rfl) ?_
  rintro s9 ⟨v9, w9⟩
  exact I.vretQ dX9_adds_12 rfl ⟨v9, w9⟩
set_option maxHeartbeats 1000000 in
theorem c_X9_removes {Γ : jE} (hl : Γ.1.stackTraces = false) {s : Nat → Int → Int} {ε : jEps} {d : Nat} {z : Int} {f : Int → Int} (hd : 2 ≤ d) (p0 : MV s f) (p1 : 0 ≤ z ∧ z < 6) : Con Γ (d, 0, 0) mX9_removes [.ref 137, .int (iI z)] (jmem s ε) (RW (fun s' => MV s' (gRem f z) ∧ FrM s s') ε) X0 := by
  refine Con.ofJ (by decide +kernel) (by simp [Value.category]) (Nat.le_of_ble_eq_true rfl) ?_ hl
  have ha := MV.at p0
  refine J.iload_n 1 dX9_removes_0 rfl rfl ?_
  refine I.iconst dX9_removes_1 ?_
  refine I.rem dX9_removes_2 (by omega) (by omega) ?_
  refine I.if_ne 20 dX9_removes_3 (by decide) (by omega) (fun h3 => ?_) (fun h3 => ?_)
  · skip
    refine J.aload_n 0 dX9_removes_20 rfl rfl ?_
    refine I.bipush dX9_removes_21 (by decide) ?_
    refine J.iload_n 1 dX9_removes_23 rfl rfl ?_
    refine I.iconst dX9_removes_24 ?_
    refine I.div dX9_removes_25 (by omega) (by omega) ?_
    refine I.add dX9_removes_26 ?_
    refine I.iconst dX9_removes_27 ?_
    refine I.callV2w (d' := d - 1) (mi' := mX9_adds) dX9_removes_28 lX9_97 eX9_adds rfl rfl (c_X9_adds (d := d - 1) hl (by omega) (by first | assumption | exact MW.m (by assumption) | exact MV.th (by assumption) | exact MW.m (MW.th (by assumption))) (by first | omega | assumption)) (show d - 1 + 1 ≤ d from by omega) (Nat.le_of_ble_eq_true rfl) ?_
    rintro s28 ⟨v28, w28⟩
    exact I.vretQ dX9_removes_31 rfl (by unfold gRem gE; first | (rw [if_pos h3, if_pos h3]; exact ⟨v14, w14⟩) | (rw [if_neg h3, if_neg h3]; exact ⟨v28, w28⟩))
  · skip
    refine J.aload_n 0 dX9_removes_6 rfl rfl ?_
    refine I.bipush dX9_removes_7 (by decide) ?_
    refine J.iload_n 1 dX9_removes_9 rfl rfl ?_
    refine I.iconst dX9_removes_10 ?_
    refine I.div dX9_removes_11 (by omega) (by omega) ?_
    refine I.add dX9_removes_12 ?_
    refine I.iconst dX9_removes_13 ?_
    refine I.callV2w (d' := d - 1) (mi' := mX9_adds) dX9_removes_14 lX9_97 eX9_adds rfl rfl (c_X9_adds (d := d - 1) hl (by omega) (by first | assumption | exact MW.m (by assumption) | exact MV.th (by assumption) | exact MW.m (MW.th (by assumption))) (by first | omega | assumption)) (show d - 1 + 1 ≤ d from by omega) (Nat.le_of_ble_eq_true rfl) ?_
    rintro s14 ⟨v14, w14⟩
    refine J.goto 31 dX9_removes_17 (by decide) ?_
    exact I.vretQ dX9_removes_31 rfl (by unfold gRem gE; first | (rw [if_pos h3, if_pos h3]; exact ⟨v14, w14⟩) | (rw [if_neg h3, if_neg h3]; exact ⟨v28, w28⟩))
set_option maxHeartbeats 1000000 in
theorem c_X9_putsBack {Γ : jE} (hl : Γ.1.stackTraces = false) {s : Nat → Int → Int} {ε : jEps} {d : Nat} {z : Int} {f : Int → Int} (hd : 2 ≤ d) (p0 : MV s f) (p1 : 0 ≤ z ∧ z < 6) : Con Γ (d, 0, 0) mX9_putsBack [.ref 137, .int (iI z)] (jmem s ε) (RW (fun s' => MV s' (gPut f z) ∧ FrM s s') ε) X0 := by
  refine Con.ofJ (by decide +kernel) (by simp [Value.category]) (Nat.le_of_ble_eq_true rfl) ?_ hl
  have ha := MV.at p0
  refine J.iload_n 1 dX9_putsBack_0 rfl rfl ?_
  refine I.iconst dX9_putsBack_1 ?_
  refine I.rem dX9_putsBack_2 (by omega) (by omega) ?_
  refine I.if_ne 20 dX9_putsBack_3 (by decide) (by omega) (fun h3 => ?_) (fun h3 => ?_)
  · skip
    refine J.aload_n 0 dX9_putsBack_20 rfl rfl ?_
    refine I.bipush dX9_putsBack_21 (by decide) ?_
    refine J.iload_n 1 dX9_putsBack_23 rfl rfl ?_
    refine I.iconst dX9_putsBack_24 ?_
    refine I.div dX9_putsBack_25 (by omega) (by omega) ?_
    refine I.add dX9_putsBack_26 ?_
    refine I.iconst dX9_putsBack_27 ?_
    refine I.callV2w (d' := d - 1) (mi' := mX9_adds) dX9_putsBack_28 lX9_97 eX9_adds rfl rfl (c_X9_adds (d := d - 1) hl (by omega) (by first | assumption | exact MW.m (by assumption) | exact MV.th (by assumption) | exact MW.m (MW.th (by assumption))) (by first | omega | assumption)) (show d - 1 + 1 ≤ d from by omega) (Nat.le_of_ble_eq_true rfl) ?_
    rintro s28 ⟨v28, w28⟩
    exact I.vretQ dX9_putsBack_31 rfl (by unfold gPut gE; first | (rw [if_pos h3, if_pos h3]; exact ⟨v14, w14⟩) | (rw [if_neg h3, if_neg h3]; exact ⟨v28, w28⟩))
  · skip
    refine J.aload_n 0 dX9_putsBack_6 rfl rfl ?_
    refine I.bipush dX9_putsBack_7 (by decide) ?_
    refine J.iload_n 1 dX9_putsBack_9 rfl rfl ?_
    refine I.iconst dX9_putsBack_10 ?_
    refine I.div dX9_putsBack_11 (by omega) (by omega) ?_
    refine I.add dX9_putsBack_12 ?_
    refine I.iconst dX9_putsBack_13 ?_
    refine I.callV2w (d' := d - 1) (mi' := mX9_adds) dX9_putsBack_14 lX9_97 eX9_adds rfl rfl (c_X9_adds (d := d - 1) hl (by omega) (by first | assumption | exact MW.m (by assumption) | exact MV.th (by assumption) | exact MW.m (MW.th (by assumption))) (by first | omega | assumption)) (show d - 1 + 1 ≤ d from by omega) (Nat.le_of_ble_eq_true rfl) ?_
    rintro s14 ⟨v14, w14⟩
    refine J.goto 31 dX9_putsBack_17 (by decide) ?_
    exact I.vretQ dX9_putsBack_31 rfl (by unfold gPut gE; first | (rw [if_pos h3, if_pos h3]; exact ⟨v14, w14⟩) | (rw [if_neg h3, if_neg h3]; exact ⟨v28, w28⟩))
set_option maxHeartbeats 1000000 in
theorem k_X9_begins_2 {Γ : jE} (hl : Γ.1.stackTraces = false) {s : Nat → Int → Int} {ε : jEps} {d : Nat} (hd : 1 ≤ d) (p0 : s 137 2 = 0 ∨ s 137 2 = 2320 ∨ s 137 2 = 2552) {mc ms : Nat} {P : Option Value → jM → Prop} {X : String → jM → Prop} : ∀ (k : Nat) {z : Nat → Int → Int} {i : Int} (q0 : ((k : Nat) : Int) = 232 - i) (q1 : 0 ≤ i) (q2 : FrM s z) (q3 : ∀ j, 0 ≤ j → j < i → z 138 (s 137 2 + j) = 0) (kx : ∀ s', (MV s' (fun _ => 0) ∧ FrM s s') → J Γ (d, mc, ms) mX9_begins 21 [some (.ref 137), none] [] (jmem s' ε) P X), J Γ (d, mc, ms) mX9_begins 2 [some (.ref 137), some (.int (iI (i)))] [] (jmem z ε) P X := by
  intro k
  induction k with
  | zero =>
    intro z i q0 q1 q2 q3 kx
    refine J.iload_n 1 dX9_begins_2 rfl rfl ?_
    refine I.sipush dX9_begins_3 (by decide) ?_
    refine I.icmp_ge 21 dX9_begins_6 (by decide) (by omega) (by omega) (fun h6 => ?_) (fun h6 => ?_)
    · skip
      exact J.fgt (by exact ⟨Or.inr rfl, Or.inl rfl, trivial⟩) (kx _ ⟨⟨by rw [q2.1 _ _ (by decide)]; exact p0, fun j a b => by rw [q2.1 137 2 (by decide)]; exact q3 j a (by omega)⟩, q2⟩)
    · exact absurd h6 (by omega)
  | succ k ih =>
    intro z i q0 q1 q2 q3 kx
    refine J.iload_n 1 dX9_begins_2 rfl rfl ?_
    refine I.sipush dX9_begins_3 (by decide) ?_
    refine I.icmp_ge 21 dX9_begins_6 (by decide) (by omega) (by omega) (fun h6 => ?_) (fun h6 => ?_)
    · exact absurd h6 (by omega)
    · skip
      refine J.aload_n 0 dX9_begins_9 rfl rfl ?_
      refine J.iload_n 1 dX9_begins_10 rfl rfl ?_
      refine I.iconst dX9_begins_11 ?_
      refine I.callV2w (d' := d - 1) (mi' := mX9_set) dX9_begins_12 lX9_32 eX9_set rfl rfl (c_X9_set (d := d - 1) hl (f := fun j => z 138 (z 137 2 + j)) (by omega) ⟨by rw [q2.1 _ _ (by decide)]; exact p0, fun j a b => rfl⟩ (by first | omega | assumption)) (show d - 1 + 1 ≤ d from by omega) (Nat.le_of_ble_eq_true rfl) ?_
      rintro s12 ⟨v12, w12⟩
      refine I.iinc dX9_begins_15 rfl rfl ?_
      refine J.goto 2 dX9_begins_18 (by decide) ?_
      exact J.fgt (by exact ⟨Or.inr rfl, Or.inr rfl, trivial⟩) (ih (by omega) (by omega) (q2.trans w12) (fun j a b => by have e := v12.2 j a (by omega); rw [w12.1 137 2 (by decide), q2.1 137 2 (by decide)] at e; rw [e]; by_cases g : j = i; rw [upr_eqq g]; rw [upr_ne g]; exact q3 j a (by omega)) kx)
set_option maxHeartbeats 1000000 in
theorem c_X9_begins {Γ : jE} (hl : Γ.1.stackTraces = false) {s : Nat → Int → Int} {ε : jEps} {d : Nat} (hd : 1 ≤ d) (p0 : s 137 2 = 0 ∨ s 137 2 = 2320 ∨ s 137 2 = 2552) : Con Γ (d, 0, 0) mX9_begins [.ref 137] (jmem s ε) (RW (fun s' => MV s' (fun _ => 0) ∧ FrM s s') ε) X0 := by
  refine Con.ofJ (by decide +kernel) (by simp [Value.category]) (Nat.le_of_ble_eq_true rfl) ?_ hl
  refine I.iconst dX9_begins_0 ?_
  refine J.istore_n 1 dX9_begins_1 rfl (by decide) rfl ?_
  refine J.fgt (by exact ⟨Or.inr rfl, Or.inr rfl, trivial⟩) (k_X9_begins_2 hl (by omega) p0 (232) (by omega) (by omega) (FrM.refl s) (fun j a b => by omega) ?_)
  rintro s2 ⟨v2, w2⟩
  exact I.vretQ dX9_begins_21 rfl ⟨v2, w2⟩
set_option maxHeartbeats 1000000 in
theorem c_X9_deals {Γ : jE} (hl : Γ.1.stackTraces = false) {s : Nat → Int → Int} {ε : jEps} {d : Nat} {t : Int} {f : Int → Int} (hd : 1 ≤ d) (p0 : MV s f) (p1 : 0 ≤ f 1 ∧ f 1 < 4) : Con Γ (d, 0, 0) mX9_deals [.ref 137, .int (iI t)] (jmem s ε) (RW (fun s' => MV s' (gDeal f (f 1) t) ∧ FrM s s') ε) X0 := by
  refine Con.ofJ (by decide +kernel) (by simp [Value.category]) (Nat.le_of_ble_eq_true rfl) ?_ hl
  have ha := MV.at p0
  refine J.aload_n 0 dX9_deals_0 rfl rfl ?_
  refine I.iconst dX9_deals_1 ?_
  refine J.iload_n 1 dX9_deals_2 rfl rfl ?_
  refine I.callV2w (d' := d - 1) (mi' := mX9_set) dX9_deals_3 lX9_32 eX9_set rfl rfl (c_X9_set (d := d - 1) hl (by omega) (by first | assumption | exact MW.m (by assumption) | exact MV.th (by assumption) | exact MW.m (MW.th (by assumption))) (by first | omega | assumption)) (show d - 1 + 1 ≤ d from by omega) (Nat.le_of_ble_eq_true rfl) ?_
  rintro s3 ⟨v3, w3⟩
  refine J.aload_n 0 dX9_deals_6 rfl rfl ?_
  refine I.iconst dX9_deals_7 ?_
  refine J.iload_n 1 dX9_deals_8 rfl rfl ?_
  refine I.callV2w (d' := d - 1) (mi' := mX9_set) dX9_deals_9 lX9_32 eX9_set rfl rfl (c_X9_set (d := d - 1) hl (by omega) (by first | assumption | exact MW.m (by assumption) | exact MV.th (by assumption) | exact MW.m (MW.th (by assumption))) (by first | omega | assumption)) (show d - 1 + 1 ≤ d from by omega) (Nat.le_of_ble_eq_true rfl) ?_
  rintro s9 ⟨v9, w9⟩
  refine J.aload_n 0 dX9_deals_12 rfl rfl ?_
  refine I.iconst dX9_deals_13 ?_
  refine I.iconst dX9_deals_14 ?_
  refine I.callV2w (d' := d - 1) (mi' := mX9_set) dX9_deals_15 lX9_32 eX9_set rfl rfl (c_X9_set (d := d - 1) hl (by omega) (by first | assumption | exact MW.m (by assumption) | exact MV.th (by assumption) | exact MW.m (MW.th (by assumption))) (by first | omega | assumption)) (show d - 1 + 1 ≤ d from by omega) (Nat.le_of_ble_eq_true rfl) ?_
  rintro s15 ⟨v15, w15⟩
  refine J.aload_n 0 dX9_deals_18 rfl rfl ?_
  refine I.iconst dX9_deals_19 ?_
  refine I.iconst dX9_deals_20 ?_
  refine I.callV2w (d' := d - 1) (mi' := mX9_set) dX9_deals_21 lX9_32 eX9_set rfl rfl (c_X9_set (d := d - 1) hl (by omega) (by first | assumption | exact MW.m (by assumption) | exact MV.th (by assumption) | exact MW.m (MW.th (by assumption))) (by first | omega | assumption)) (show d - 1 + 1 ≤ d from by omega) (Nat.le_of_ble_eq_true rfl) ?_
  rintro s21 ⟨v21, w21⟩
  refine I.iconst dX9_deals_24 ?_
  refine J.istore_n 2 dX9_deals_25 rfl (by decide) rfl ?_
  refine J.iload_n 2 dX9_deals_26 rfl rfl ?_
  refine I.iconst dX9_deals_27 ?_
  refine I.icmp_ge 72 dX9_deals_28 (by decide) (by omega) (by omega) (fun h28 => ?_) (fun h28 => ?_)
  · exact absurd h28 (by omega)
  · skip
    refine J.aload_n 0 dX9_deals_31 rfl rfl ?_
    refine I.bipush dX9_deals_32 (by decide) ?_
    refine J.iload_n 2 dX9_deals_34 rfl rfl ?_
    refine I.add dX9_deals_35 ?_
    refine I.iconst dX9_deals_36 ?_
    refine I.callV2w (d' := d - 1) (mi' := mX9_set) dX9_deals_37 lX9_32 eX9_set rfl rfl (c_X9_set (d := d - 1) hl (by omega) (by first | assumption | exact MW.m (by assumption) | exact MV.th (by assumption) | exact MW.m (MW.th (by assumption))) (by first | omega | assumption)) (show d - 1 + 1 ≤ d from by omega) (Nat.le_of_ble_eq_true rfl) ?_
    rintro s37 ⟨v37, w37⟩
    refine J.aload_n 0 dX9_deals_40 rfl rfl ?_
    refine I.bipush dX9_deals_41 (by decide) ?_
    refine J.iload_n 2 dX9_deals_43 rfl rfl ?_
    refine I.add dX9_deals_44 ?_
    refine J.aload_n 0 dX9_deals_45 rfl rfl ?_
    refine I.bipush dX9_deals_46 (by decide) ?_
    refine I.iconst dX9_deals_48 ?_
    refine J.aload_n 0 dX9_deals_49 rfl rfl ?_
    refine I.iconst dX9_deals_50 ?_
    refine I.callV1i (d' := d - 1) (mi' := mX9_get) dX9_deals_51 lX9_46 eX9_get rfl rfl (c_X9_get (d := d - 1) hl (by omega) (by first | assumption | exact MW.m (by assumption) | exact MV.th (by assumption) | exact MW.m (MW.th (by assumption))) (by first | omega | assumption)) (show d - 1 + 1 ≤ d from by omega) (Nat.le_of_ble_eq_true rfl) ?_
    refine I.sx (show _ = f 1 from by (repeat (first | rw [upr_ne (by omega)] | rw [upr_eqq (by omega)])); first | done | rfl | omega | (apply congrArg; omega) | (simp only [upr]; (repeat' split) <;> first | rfl | omega | (congr 1; omega) | (congr 2; omega))) ?_
    refine I.mul dX9_deals_54 ?_
    refine I.add dX9_deals_55 ?_
    refine J.iload_n 2 dX9_deals_56 rfl rfl ?_
    refine I.add dX9_deals_57 ?_
    refine I.callV1i (d' := d - 1) (mi' := mX9_get) dX9_deals_58 lX9_46 eX9_get rfl rfl (c_X9_get (d := d - 1) hl (by omega) (by first | assumption | exact MW.m (by assumption) | exact MV.th (by assumption) | exact MW.m (MW.th (by assumption))) (by first | omega | assumption)) (show d - 1 + 1 ≤ d from by omega) (Nat.le_of_ble_eq_true rfl) ?_
    refine I.iconst dX9_deals_61 ?_
    refine I.sub dX9_deals_62 ?_
    refine I.callV2w (d' := d - 1) (mi' := mX9_set) dX9_deals_63 lX9_32 eX9_set rfl rfl (c_X9_set (d := d - 1) hl (by omega) (by first | assumption | exact MW.m (by assumption) | exact MV.th (by assumption) | exact MW.m (MW.th (by assumption))) (by first | omega | assumption)) (show d - 1 + 1 ≤ d from by omega) (Nat.le_of_ble_eq_true rfl) ?_
    rintro s63 ⟨v63, w63⟩
    refine I.iinc dX9_deals_66 rfl rfl ?_
    refine J.goto 26 dX9_deals_69 (by decide) ?_
    refine J.iload_n 2 dX9_deals_26 rfl rfl ?_
    refine I.iconst dX9_deals_27 ?_
    refine I.icmp_ge 72 dX9_deals_28 (by decide) (by omega) (by omega) (fun h28 => ?_) (fun h28 => ?_)
    · exact absurd h28 (by omega)
    · skip
      refine J.aload_n 0 dX9_deals_31 rfl rfl ?_
      refine I.bipush dX9_deals_32 (by decide) ?_
      refine J.iload_n 2 dX9_deals_34 rfl rfl ?_
      refine I.add dX9_deals_35 ?_
      refine I.iconst dX9_deals_36 ?_
      refine I.callV2w (d' := d - 1) (mi' := mX9_set) dX9_deals_37 lX9_32 eX9_set rfl rfl (c_X9_set (d := d - 1) hl (by omega) (by first | assumption | exact MW.m (by assumption) | exact MV.th (by assumption) | exact MW.m (MW.th (by assumption))) (by first | omega | assumption)) (show d - 1 + 1 ≤ d from by omega) (Nat.le_of_ble_eq_true rfl) ?_
      rintro s37b ⟨v37b, w37b⟩
      refine J.aload_n 0 dX9_deals_40 rfl rfl ?_
      refine I.bipush dX9_deals_41 (by decide) ?_
      refine J.iload_n 2 dX9_deals_43 rfl rfl ?_
      refine I.add dX9_deals_44 ?_
      refine J.aload_n 0 dX9_deals_45 rfl rfl ?_
      refine I.bipush dX9_deals_46 (by decide) ?_
      refine I.iconst dX9_deals_48 ?_
      refine J.aload_n 0 dX9_deals_49 rfl rfl ?_
      refine I.iconst dX9_deals_50 ?_
      refine I.callV1i (d' := d - 1) (mi' := mX9_get) dX9_deals_51 lX9_46 eX9_get rfl rfl (c_X9_get (d := d - 1) hl (by omega) (by first | assumption | exact MW.m (by assumption) | exact MV.th (by assumption) | exact MW.m (MW.th (by assumption))) (by first | omega | assumption)) (show d - 1 + 1 ≤ d from by omega) (Nat.le_of_ble_eq_true rfl) ?_
      refine I.sx (show _ = f 1 from by (repeat (first | rw [upr_ne (by omega)] | rw [upr_eqq (by omega)])); first | done | rfl | omega | (apply congrArg; omega) | (simp only [upr]; (repeat' split) <;> first | rfl | omega | (congr 1; omega) | (congr 2; omega))) ?_
      refine I.mul dX9_deals_54 ?_
      refine I.add dX9_deals_55 ?_
      refine J.iload_n 2 dX9_deals_56 rfl rfl ?_
      refine I.add dX9_deals_57 ?_
      refine I.callV1i (d' := d - 1) (mi' := mX9_get) dX9_deals_58 lX9_46 eX9_get rfl rfl (c_X9_get (d := d - 1) hl (by omega) (by first | assumption | exact MW.m (by assumption) | exact MV.th (by assumption) | exact MW.m (MW.th (by assumption))) (by first | omega | assumption)) (show d - 1 + 1 ≤ d from by omega) (Nat.le_of_ble_eq_true rfl) ?_
      refine I.iconst dX9_deals_61 ?_
      refine I.sub dX9_deals_62 ?_
      refine I.callV2w (d' := d - 1) (mi' := mX9_set) dX9_deals_63 lX9_32 eX9_set rfl rfl (c_X9_set (d := d - 1) hl (by omega) (by first | assumption | exact MW.m (by assumption) | exact MV.th (by assumption) | exact MW.m (MW.th (by assumption))) (by first | omega | assumption)) (show d - 1 + 1 ≤ d from by omega) (Nat.le_of_ble_eq_true rfl) ?_
      rintro s63b ⟨v63b, w63b⟩
      refine I.iinc dX9_deals_66 rfl rfl ?_
      refine J.goto 26 dX9_deals_69 (by decide) ?_
      refine J.iload_n 2 dX9_deals_26 rfl rfl ?_
      refine I.iconst dX9_deals_27 ?_
      refine I.icmp_ge 72 dX9_deals_28 (by decide) (by omega) (by omega) (fun h28 => ?_) (fun h28 => ?_)
      · exact absurd h28 (by omega)
      · skip
        refine J.aload_n 0 dX9_deals_31 rfl rfl ?_
        refine I.bipush dX9_deals_32 (by decide) ?_
        refine J.iload_n 2 dX9_deals_34 rfl rfl ?_
        refine I.add dX9_deals_35 ?_
        refine I.iconst dX9_deals_36 ?_
        refine I.callV2w (d' := d - 1) (mi' := mX9_set) dX9_deals_37 lX9_32 eX9_set rfl rfl (c_X9_set (d := d - 1) hl (by omega) (by first | assumption | exact MW.m (by assumption) | exact MV.th (by assumption) | exact MW.m (MW.th (by assumption))) (by first | omega | assumption)) (show d - 1 + 1 ≤ d from by omega) (Nat.le_of_ble_eq_true rfl) ?_
        rintro s37c ⟨v37c, w37c⟩
        refine J.aload_n 0 dX9_deals_40 rfl rfl ?_
        refine I.bipush dX9_deals_41 (by decide) ?_
        refine J.iload_n 2 dX9_deals_43 rfl rfl ?_
        refine I.add dX9_deals_44 ?_
        refine J.aload_n 0 dX9_deals_45 rfl rfl ?_
        refine I.bipush dX9_deals_46 (by decide) ?_
        refine I.iconst dX9_deals_48 ?_
        refine J.aload_n 0 dX9_deals_49 rfl rfl ?_
        refine I.iconst dX9_deals_50 ?_
        refine I.callV1i (d' := d - 1) (mi' := mX9_get) dX9_deals_51 lX9_46 eX9_get rfl rfl (c_X9_get (d := d - 1) hl (by omega) (by first | assumption | exact MW.m (by assumption) | exact MV.th (by assumption) | exact MW.m (MW.th (by assumption))) (by first | omega | assumption)) (show d - 1 + 1 ≤ d from by omega) (Nat.le_of_ble_eq_true rfl) ?_
        refine I.sx (show _ = f 1 from by (repeat (first | rw [upr_ne (by omega)] | rw [upr_eqq (by omega)])); first | done | rfl | omega | (apply congrArg; omega) | (simp only [upr]; (repeat' split) <;> first | rfl | omega | (congr 1; omega) | (congr 2; omega))) ?_
        refine I.mul dX9_deals_54 ?_
        refine I.add dX9_deals_55 ?_
        refine J.iload_n 2 dX9_deals_56 rfl rfl ?_
        refine I.add dX9_deals_57 ?_
        refine I.callV1i (d' := d - 1) (mi' := mX9_get) dX9_deals_58 lX9_46 eX9_get rfl rfl (c_X9_get (d := d - 1) hl (by omega) (by first | assumption | exact MW.m (by assumption) | exact MV.th (by assumption) | exact MW.m (MW.th (by assumption))) (by first | omega | assumption)) (show d - 1 + 1 ≤ d from by omega) (Nat.le_of_ble_eq_true rfl) ?_
        refine I.iconst dX9_deals_61 ?_
        refine I.sub dX9_deals_62 ?_
        refine I.callV2w (d' := d - 1) (mi' := mX9_set) dX9_deals_63 lX9_32 eX9_set rfl rfl (c_X9_set (d := d - 1) hl (by omega) (by first | assumption | exact MW.m (by assumption) | exact MV.th (by assumption) | exact MW.m (MW.th (by assumption))) (by first | omega | assumption)) (show d - 1 + 1 ≤ d from by omega) (Nat.le_of_ble_eq_true rfl) ?_
        rintro s63c ⟨v63c, w63c⟩
        refine I.iinc dX9_deals_66 rfl rfl ?_
        refine J.goto 26 dX9_deals_69 (by decide) ?_
        refine J.iload_n 2 dX9_deals_26 rfl rfl ?_
        refine I.iconst dX9_deals_27 ?_
        refine I.icmp_ge 72 dX9_deals_28 (by decide) (by omega) (by omega) (fun h28 => ?_) (fun h28 => ?_)
        · skip
          exact I.vretQ dX9_deals_72 rfl (by
            refine ⟨v63c.congr fun k k0 k1 => ?_, w3.trans (w9.trans (w15.trans (w21.trans (w37.trans (w63.trans (w37b.trans (w63b.trans (w37c.trans w63c))))))))⟩
            by_cases g : 37 ≤ k ∧ k < 40
            · obtain rfl | rfl | rfl : k = 37 + 0 ∨ k = 37 + (0 + 1) ∨ k = 37 + (0 + 1 + 1) := by omega
              all_goals (rw [gDeal_hi (by omega) (by omega)]; (repeat (first | rw [upr_ne (by omega)] | rw [upr_eqq (by omega)])); first | done | rfl | omega | (apply congrArg; omega) | (simp only [upr]; (repeat' split) <;> first | rfl | omega | (congr 1; omega) | (congr 2; omega)))
            · unfold gDeal
              (repeat' split) <;> ((repeat (first | rw [upr_ne (by omega)] | rw [upr_eqq (by omega)])); first | done | rfl | omega | (apply congrArg; omega) | (simp only [upr]; (repeat' split) <;> first | rfl | omega | (congr 1; omega) | (congr 2; omega))))
        · exact absurd h28 (by omega)
set_option maxHeartbeats 1000000 in
theorem c_X9_makes {Γ : jE} (hl : Γ.1.stackTraces = false) {s : Nat → Int → Int} {ε : jEps} {d : Nat} {z : Int} {f : Int → Int} (hd : 4 ≤ d) (p0 : MW s f) (p1 : gLegal f z) (p2 : ¬ gOver f) : Con Γ (d, 0, 0) mX9_makes [.ref 137, .int (iI z)] (jmem s ε) (RW (fun s' => MV s' (gPlay f z) ∧ FrM s s') ε) X0 := by
  refine Con.ofJ (by decide +kernel) (by simp [Value.category]) (Nat.le_of_ble_eq_true rfl) ?_ hl
  have hw := MW.w p0
  have hmv := p0.v.moves
  have hz6 := gLegal_rng hw.2.2.1 p1.ok
  have hB := gBt_lt p0.l p0.v p2
  have h4 : f 4 ≤ 1 := by have : ¬ f 4 = 2 := fun g => p2 (Or.inl g); omega
  refine J.aload_n 0 dX9_makes_0 rfl rfl ?_
  refine J.iload_n 1 dX9_makes_1 rfl rfl ?_
  refine I.callV1i (d' := d - 1) (mi' := mX9_scoreOfMove) dX9_makes_2 lX9_94 eX9_scoreOfMove rfl rfl (c_X9_scoreOfMove (d := d - 1) hl (by omega) (by first | assumption | exact MW.th (by assumption)) p1.ok) (show d - 1 + 1 ≤ d from by omega) (Nat.le_of_ble_eq_true rfl) ?_
  refine J.istore_n 2 dX9_makes_5 rfl (by decide) rfl ?_
  refine J.aload_n 0 dX9_makes_6 rfl rfl ?_
  refine I.sipush dX9_makes_7 (by decide) ?_
  refine J.aload_n 0 dX9_makes_10 rfl rfl ?_
  refine I.iconst dX9_makes_11 ?_
  refine I.callV1i (d' := d - 1) (mi' := mX9_get) dX9_makes_12 lX9_46 eX9_get rfl rfl (c_X9_get (d := d - 1) hl (by omega) (by first | assumption | exact MW.m (by assumption) | exact MV.th (by assumption) | exact MW.m (MW.th (by assumption))) (by first | omega | assumption)) (show d - 1 + 1 ≤ d from by omega) (Nat.le_of_ble_eq_true rfl) ?_
  refine I.add dX9_makes_15 ?_
  refine J.iload_n 1 dX9_makes_16 rfl rfl ?_
  refine I.callV2w (d' := d - 1) (mi' := mX9_set) dX9_makes_17 lX9_32 eX9_set rfl rfl (c_X9_set (d := d - 1) hl (by omega) (by first | assumption | exact MW.m (by assumption) | exact MV.th (by assumption) | exact MW.m (MW.th (by assumption))) (by first | omega | assumption)) (show d - 1 + 1 ≤ d from by omega) (Nat.le_of_ble_eq_true rfl) ?_
  rintro s17 ⟨v17, w17⟩
  refine J.aload_n 0 dX9_makes_20 rfl rfl ?_
  refine I.sipush dX9_makes_21 (by decide) ?_
  refine J.aload_n 0 dX9_makes_24 rfl rfl ?_
  refine I.iconst dX9_makes_25 ?_
  refine I.callV1i (d' := d - 1) (mi' := mX9_get) dX9_makes_26 lX9_46 eX9_get rfl rfl (c_X9_get (d := d - 1) hl (by omega) (by first | assumption | exact MW.m (by assumption) | exact MV.th (by assumption) | exact MW.m (MW.th (by assumption))) (by first | omega | assumption)) (show d - 1 + 1 ≤ d from by omega) (Nat.le_of_ble_eq_true rfl) ?_
  refine I.sx (show _ = f 5 from by (try unfold gRem gE); (repeat (first | rw [upr_ne (by omega)] | rw [upr_eqq (by omega)])); first | done | rfl | omega | (apply congrArg; omega) | (simp only [upr]; (repeat' split) <;> first | rfl | omega | (congr 1; omega) | (congr 2; omega))) ?_
  refine I.add dX9_makes_29 ?_
  refine J.iload_n 2 dX9_makes_30 rfl rfl ?_
  refine I.callV2w (d' := d - 1) (mi' := mX9_set) dX9_makes_31 lX9_32 eX9_set rfl rfl (c_X9_set (d := d - 1) hl (by omega) (by first | assumption | exact MW.m (by assumption) | exact MV.th (by assumption) | exact MW.m (MW.th (by assumption))) (by first | omega | assumption)) (show d - 1 + 1 ≤ d from by omega) (Nat.le_of_ble_eq_true rfl) ?_
  rintro s31 ⟨v31, w31⟩
  refine J.aload_n 0 dX9_makes_34 rfl rfl ?_
  refine I.iconst dX9_makes_35 ?_
  refine I.iconst dX9_makes_36 ?_
  refine I.callV2w (d' := d - 1) (mi' := mX9_adds) dX9_makes_37 lX9_97 eX9_adds rfl rfl (c_X9_adds (d := d - 1) hl (by omega) (by first | assumption | exact MW.m (by assumption) | exact MV.th (by assumption) | exact MW.m (MW.th (by assumption))) (by first | omega | assumption)) (show d - 1 + 1 ≤ d from by omega) (Nat.le_of_ble_eq_true rfl) ?_
  rintro s37 ⟨v37, w37⟩
  refine J.aload_n 0 dX9_makes_40 rfl rfl ?_
  refine I.bipush dX9_makes_41 (by decide) ?_
  refine I.iconst dX9_makes_43 ?_
  refine J.aload_n 0 dX9_makes_44 rfl rfl ?_
  refine I.iconst dX9_makes_45 ?_
  refine I.callV1i (d' := d - 1) (mi' := mX9_get) dX9_makes_46 lX9_46 eX9_get rfl rfl (c_X9_get (d := d - 1) hl (by omega) (by first | assumption | exact MW.m (by assumption) | exact MV.th (by assumption) | exact MW.m (MW.th (by assumption))) (by first | omega | assumption)) (show d - 1 + 1 ≤ d from by omega) (Nat.le_of_ble_eq_true rfl) ?_
  refine I.sx (show _ = f 1 from by (try unfold gRem gE); (repeat (first | rw [upr_ne (by omega)] | rw [upr_eqq (by omega)])); first | done | rfl | omega | (apply congrArg; omega) | (simp only [upr]; (repeat' split) <;> first | rfl | omega | (congr 1; omega) | (congr 2; omega))) ?_
  refine I.mul dX9_makes_49 ?_
  refine I.add dX9_makes_50 ?_
  refine J.aload_n 0 dX9_makes_51 rfl rfl ?_
  refine I.iconst dX9_makes_52 ?_
  refine I.callV1i (d' := d - 1) (mi' := mX9_get) dX9_makes_53 lX9_46 eX9_get rfl rfl (c_X9_get (d := d - 1) hl (by omega) (by first | assumption | exact MW.m (by assumption) | exact MV.th (by assumption) | exact MW.m (MW.th (by assumption))) (by first | omega | assumption)) (show d - 1 + 1 ≤ d from by omega) (Nat.le_of_ble_eq_true rfl) ?_
  refine I.sx (show _ = f 2 from by (try unfold gRem gE); (repeat (first | rw [upr_ne (by omega)] | rw [upr_eqq (by omega)])); first | done | rfl | omega | (apply congrArg; omega) | (simp only [upr]; (repeat' split) <;> first | rfl | omega | (congr 1; omega) | (congr 2; omega))) ?_
  refine I.add dX9_makes_56 ?_
  refine J.iload_n 2 dX9_makes_57 rfl rfl ?_
  refine I.callV2w (d' := d - 1) (mi' := mX9_adds) dX9_makes_58 lX9_97 eX9_adds rfl rfl (c_X9_adds (d := d - 1) hl (by omega) (by first | assumption | exact MW.m (by assumption) | exact MV.th (by assumption) | exact MW.m (MW.th (by assumption))) (by first | omega | assumption)) (show d - 1 + 1 ≤ d from by omega) (Nat.le_of_ble_eq_true rfl) ?_
  rintro s58 ⟨v58, w58⟩
  refine J.iload_n 1 dX9_makes_61 rfl rfl ?_
  refine I.bipush dX9_makes_62 (by decide) ?_
  refine I.icmp_ne 89 dX9_makes_64 (by decide) (by omega) (by omega) (fun h64 => ?_) (fun h64 => ?_)
  · skip
    refine J.aload_n 0 dX9_makes_89 rfl rfl ?_
    refine I.bipush dX9_makes_90 (by decide) ?_
    refine J.aload_n 0 dX9_makes_92 rfl rfl ?_
    refine I.iconst dX9_makes_93 ?_
    refine I.callV1i (d' := d - 1) (mi' := mX9_get) dX9_makes_94 lX9_46 eX9_get rfl rfl (c_X9_get (d := d - 1) hl (by omega) (by first | assumption | exact MW.m (by assumption) | exact MV.th (by assumption) | exact MW.m (MW.th (by assumption))) (by first | omega | assumption)) (show d - 1 + 1 ≤ d from by omega) (Nat.le_of_ble_eq_true rfl) ?_
    refine I.sx (show _ = f 2 from by (try unfold gRem gE); (repeat (first | rw [upr_ne (by omega)] | rw [upr_eqq (by omega)])); first | done | rfl | omega | (apply congrArg; omega) | (simp only [upr]; (repeat' split) <;> first | rfl | omega | (congr 1; omega) | (congr 2; omega))) ?_
    refine I.add dX9_makes_97 ?_
    refine I.iconst dX9_makes_98 ?_
    refine I.callV2w (d' := d - 1) (mi' := mX9_adds) dX9_makes_99 lX9_97 eX9_adds rfl rfl (c_X9_adds (d := d - 1) hl (by omega) (by first | assumption | exact MW.m (by assumption) | exact MV.th (by assumption) | exact MW.m (MW.th (by assumption))) (by first | omega | assumption)) (show d - 1 + 1 ≤ d from by omega) (Nat.le_of_ble_eq_true rfl) ?_
    rintro s99 ⟨v99, w99⟩
    refine J.aload_n 0 dX9_makes_102 rfl rfl ?_
    refine I.iconst dX9_makes_103 ?_
    refine I.iconst dX9_makes_104 ?_
    refine I.callV2w (d' := d - 1) (mi' := mX9_set) dX9_makes_105 lX9_32 eX9_set rfl rfl (c_X9_set (d := d - 1) hl (by omega) (by first | assumption | exact MW.m (by assumption) | exact MV.th (by assumption) | exact MW.m (MW.th (by assumption))) (by first | omega | assumption)) (show d - 1 + 1 ≤ d from by omega) (Nat.le_of_ble_eq_true rfl) ?_
    rintro s105 ⟨v105, w105⟩
    refine J.aload_n 0 dX9_makes_108 rfl rfl ?_
    refine J.iload_n 1 dX9_makes_109 rfl rfl ?_
    refine I.callV1w (d' := d - 1) (mi' := mX9_removes) dX9_makes_110 lX9_100 eX9_removes rfl rfl (c_X9_removes (d := d - 1) hl (by omega) (by first | assumption | exact MW.m (by assumption) | exact MV.th (by assumption) | exact MW.m (MW.th (by assumption))) (by first | omega | assumption)) (show d - 1 + 1 ≤ d from by omega) (Nat.le_of_ble_eq_true rfl) ?_
    rintro s110 ⟨v110, w110⟩
    refine J.aload_n 0 dX9_makes_113 rfl rfl ?_
    refine I.iconst dX9_makes_114 ?_
    refine I.iconst dX9_makes_115 ?_
    refine J.aload_n 0 dX9_makes_116 rfl rfl ?_
    refine I.iconst dX9_makes_117 ?_
    refine I.callV1i (d' := d - 1) (mi' := mX9_get) dX9_makes_118 lX9_46 eX9_get rfl rfl (c_X9_get (d := d - 1) hl (by omega) (by first | assumption | exact MW.m (by assumption) | exact MV.th (by assumption) | exact MW.m (MW.th (by assumption))) (by first | omega | assumption)) (show d - 1 + 1 ≤ d from by omega) (Nat.le_of_ble_eq_true rfl) ?_
    refine I.sx (show _ = f 2 from by (try unfold gRem gE); (repeat (first | rw [upr_ne (by omega)] | rw [upr_eqq (by omega)])); first | done | rfl | omega | (apply congrArg; omega) | (simp only [upr]; (repeat' split) <;> first | rfl | omega | (congr 1; omega) | (congr 2; omega))) ?_
    refine I.sub dX9_makes_121 ?_
    refine I.callV2w (d' := d - 1) (mi' := mX9_set) dX9_makes_122 lX9_32 eX9_set rfl rfl (c_X9_set (d := d - 1) hl (by omega) (by first | assumption | exact MW.m (by assumption) | exact MV.th (by assumption) | exact MW.m (MW.th (by assumption))) (by first | omega | assumption)) (show d - 1 + 1 ≤ d from by omega) (Nat.le_of_ble_eq_true rfl) ?_
    rintro s122 ⟨v122, w122⟩
    exact I.vretQ dX9_makes_125 rfl (by
      refine ⟨v122.congr fun k k0 k1 => ?_, w17.trans (w31.trans (w37.trans (w58.trans (w99.trans (w105.trans (w110.trans w122))))))⟩
      unfold gRem gE
      by_cases hp : z % 2 = 0
      · rw [if_pos hp, if_pos hp]
        unfold gPlay
        by_cases a0 : k = 2
        · rw [if_pos a0]; (repeat (first | rw [upr_ne (by omega)] | rw [upr_eqq (by omega)])); first | done | rfl | omega | (rw [show k = _ from by first | exact a0 | exact a0.1]) | (exfalso; omega)
        rw [if_neg a0]
        by_cases a1 : k = 4
        · rw [if_pos a1]; rw [if_neg (show ¬ z = 6 by omega)]; (repeat (first | rw [upr_ne (by omega)] | rw [upr_eqq (by omega)])); first | done | rfl | omega | (rw [show k = _ from by first | exact a1 | exact a1.1]) | (exfalso; omega)
        rw [if_neg a1]
        by_cases a2 : k = 5
        · rw [if_pos a2]; (repeat (first | rw [upr_ne (by omega)] | rw [upr_eqq (by omega)])); first | done | rfl | omega | (rw [show k = _ from by first | exact a2 | exact a2.1]) | (exfalso; omega)
        rw [if_neg a2]
        by_cases a3 : k = 6 + 2 * f 1 + f 2
        · rw [if_pos a3]; (repeat (first | rw [upr_ne (by omega)] | rw [upr_eqq (by omega)])); first | done | rfl | omega | (rw [show k = _ from by first | exact a3 | exact a3.1]) | (exfalso; omega)
        rw [if_neg a3]
        by_cases a4 : k = 14 + f 2
        · rw [if_pos a4]; rw [if_neg (show ¬ z = 6 by omega)]; (repeat (first | rw [upr_ne (by omega)] | rw [upr_eqq (by omega)])); first | done | rfl | omega | (rw [show k = _ from by first | exact a4 | exact a4.1]) | (exfalso; omega)
        rw [if_neg a4]
        by_cases a5 : k = 16 + f 2
        · rw [if_pos a5]; rw [if_neg (show ¬ z = 6 by omega)]; (repeat (first | rw [upr_ne (by omega)] | rw [upr_eqq (by omega)])); first | done | rfl | omega | (rw [show k = _ from by first | exact a5 | exact a5.1]) | (exfalso; omega)
        rw [if_neg a5]
        by_cases a6 : k = 34 + z / 2 ∧ z ≠ 6 ∧ z % 2 = 0
        · rw [if_pos a6]; (repeat (first | rw [upr_ne (by omega)] | rw [upr_eqq (by omega)])); first | done | rfl | omega | (rw [show k = _ from by first | exact a6 | exact a6.1]) | (exfalso; omega)
        rw [if_neg a6]
        by_cases a7 : k = 37 + z / 2 ∧ z ≠ 6 ∧ z % 2 = 1
        · rw [if_pos a7]; (repeat (first | rw [upr_ne (by omega)] | rw [upr_eqq (by omega)])); first | done | rfl | omega | (rw [show k = _ from by first | exact a7 | exact a7.1]) | (exfalso; omega)
        rw [if_neg a7]
        by_cases a8 : k = 136 + f 5
        · rw [if_pos a8]; (repeat (first | rw [upr_ne (by omega)] | rw [upr_eqq (by omega)])); first | done | rfl | omega | (rw [show k = _ from by first | exact a8 | exact a8.1]) | (exfalso; omega)
        rw [if_neg a8]
        by_cases a9 : k = 184 + f 5
        · rw [if_pos a9]; (repeat (first | rw [upr_ne (by omega)] | rw [upr_eqq (by omega)])); first | done | rfl | omega | (rw [show k = _ from by first | exact a9 | exact a9.1]) | (exfalso; omega)
        rw [if_neg a9]
        (repeat (first | rw [upr_ne (by omega)] | rw [upr_eqq (by omega)]))
      · rw [if_neg hp, if_neg hp]
        unfold gPlay
        by_cases a0 : k = 2
        · rw [if_pos a0]; (repeat (first | rw [upr_ne (by omega)] | rw [upr_eqq (by omega)])); first | done | rfl | omega | (rw [show k = _ from by first | exact a0 | exact a0.1]) | (exfalso; omega)
        rw [if_neg a0]
        by_cases a1 : k = 4
        · rw [if_pos a1]; rw [if_neg (show ¬ z = 6 by omega)]; (repeat (first | rw [upr_ne (by omega)] | rw [upr_eqq (by omega)])); first | done | rfl | omega | (rw [show k = _ from by first | exact a1 | exact a1.1]) | (exfalso; omega)
        rw [if_neg a1]
        by_cases a2 : k = 5
        · rw [if_pos a2]; (repeat (first | rw [upr_ne (by omega)] | rw [upr_eqq (by omega)])); first | done | rfl | omega | (rw [show k = _ from by first | exact a2 | exact a2.1]) | (exfalso; omega)
        rw [if_neg a2]
        by_cases a3 : k = 6 + 2 * f 1 + f 2
        · rw [if_pos a3]; (repeat (first | rw [upr_ne (by omega)] | rw [upr_eqq (by omega)])); first | done | rfl | omega | (rw [show k = _ from by first | exact a3 | exact a3.1]) | (exfalso; omega)
        rw [if_neg a3]
        by_cases a4 : k = 14 + f 2
        · rw [if_pos a4]; rw [if_neg (show ¬ z = 6 by omega)]; (repeat (first | rw [upr_ne (by omega)] | rw [upr_eqq (by omega)])); first | done | rfl | omega | (rw [show k = _ from by first | exact a4 | exact a4.1]) | (exfalso; omega)
        rw [if_neg a4]
        by_cases a5 : k = 16 + f 2
        · rw [if_pos a5]; rw [if_neg (show ¬ z = 6 by omega)]; (repeat (first | rw [upr_ne (by omega)] | rw [upr_eqq (by omega)])); first | done | rfl | omega | (rw [show k = _ from by first | exact a5 | exact a5.1]) | (exfalso; omega)
        rw [if_neg a5]
        by_cases a6 : k = 34 + z / 2 ∧ z ≠ 6 ∧ z % 2 = 0
        · rw [if_pos a6]; (repeat (first | rw [upr_ne (by omega)] | rw [upr_eqq (by omega)])); first | done | rfl | omega | (rw [show k = _ from by first | exact a6 | exact a6.1]) | (exfalso; omega)
        rw [if_neg a6]
        by_cases a7 : k = 37 + z / 2 ∧ z ≠ 6 ∧ z % 2 = 1
        · rw [if_pos a7]; (repeat (first | rw [upr_ne (by omega)] | rw [upr_eqq (by omega)])); first | done | rfl | omega | (rw [show k = _ from by first | exact a7 | exact a7.1]) | (exfalso; omega)
        rw [if_neg a7]
        by_cases a8 : k = 136 + f 5
        · rw [if_pos a8]; (repeat (first | rw [upr_ne (by omega)] | rw [upr_eqq (by omega)])); first | done | rfl | omega | (rw [show k = _ from by first | exact a8 | exact a8.1]) | (exfalso; omega)
        rw [if_neg a8]
        by_cases a9 : k = 184 + f 5
        · rw [if_pos a9]; (repeat (first | rw [upr_ne (by omega)] | rw [upr_eqq (by omega)])); first | done | rfl | omega | (rw [show k = _ from by first | exact a9 | exact a9.1]) | (exfalso; omega)
        rw [if_neg a9]
        (repeat (first | rw [upr_ne (by omega)] | rw [upr_eqq (by omega)])))
  · skip
    refine J.aload_n 0 dX9_makes_67 rfl rfl ?_
    refine I.bipush dX9_makes_68 (by decide) ?_
    refine J.aload_n 0 dX9_makes_70 rfl rfl ?_
    refine I.iconst dX9_makes_71 ?_
    refine I.callV1i (d' := d - 1) (mi' := mX9_get) dX9_makes_72 lX9_46 eX9_get rfl rfl (c_X9_get (d := d - 1) hl (by omega) (by first | assumption | exact MW.m (by assumption) | exact MV.th (by assumption) | exact MW.m (MW.th (by assumption))) (by first | omega | assumption)) (show d - 1 + 1 ≤ d from by omega) (Nat.le_of_ble_eq_true rfl) ?_
    refine I.sx (show _ = f 2 from by (try unfold gRem gE); (repeat (first | rw [upr_ne (by omega)] | rw [upr_eqq (by omega)])); first | done | rfl | omega | (apply congrArg; omega) | (simp only [upr]; (repeat' split) <;> first | rfl | omega | (congr 1; omega) | (congr 2; omega))) ?_
    refine I.add dX9_makes_75 ?_
    refine I.iconst dX9_makes_76 ?_
    refine I.callV2w (d' := d - 1) (mi' := mX9_adds) dX9_makes_77 lX9_97 eX9_adds rfl rfl (c_X9_adds (d := d - 1) hl (by omega) (by first | assumption | exact MW.m (by assumption) | exact MV.th (by assumption) | exact MW.m (MW.th (by assumption))) (by first | omega | assumption)) (show d - 1 + 1 ≤ d from by omega) (Nat.le_of_ble_eq_true rfl) ?_
    rintro s77 ⟨v77, w77⟩
    refine J.aload_n 0 dX9_makes_80 rfl rfl ?_
    refine I.iconst dX9_makes_81 ?_
    refine I.iconst dX9_makes_82 ?_
    refine I.callV2w (d' := d - 1) (mi' := mX9_adds) dX9_makes_83 lX9_97 eX9_adds rfl rfl (c_X9_adds (d := d - 1) hl (by omega) (by first | assumption | exact MW.m (by assumption) | exact MV.th (by assumption) | exact MW.m (MW.th (by assumption))) (by first | omega | assumption)) (show d - 1 + 1 ≤ d from by omega) (Nat.le_of_ble_eq_true rfl) ?_
    rintro s83 ⟨v83, w83⟩
    refine J.goto 113 dX9_makes_86 (by decide) ?_
    refine J.aload_n 0 dX9_makes_113 rfl rfl ?_
    refine I.iconst dX9_makes_114 ?_
    refine I.iconst dX9_makes_115 ?_
    refine J.aload_n 0 dX9_makes_116 rfl rfl ?_
    refine I.iconst dX9_makes_117 ?_
    refine I.callV1i (d' := d - 1) (mi' := mX9_get) dX9_makes_118 lX9_46 eX9_get rfl rfl (c_X9_get (d := d - 1) hl (by omega) (by first | assumption | exact MW.m (by assumption) | exact MV.th (by assumption) | exact MW.m (MW.th (by assumption))) (by first | omega | assumption)) (show d - 1 + 1 ≤ d from by omega) (Nat.le_of_ble_eq_true rfl) ?_
    refine I.sx (show _ = f 2 from by (try unfold gRem gE); (repeat (first | rw [upr_ne (by omega)] | rw [upr_eqq (by omega)])); first | done | rfl | omega | (apply congrArg; omega) | (simp only [upr]; (repeat' split) <;> first | rfl | omega | (congr 1; omega) | (congr 2; omega))) ?_
    refine I.sub dX9_makes_121 ?_
    refine I.callV2w (d' := d - 1) (mi' := mX9_set) dX9_makes_122 lX9_32 eX9_set rfl rfl (c_X9_set (d := d - 1) hl (by omega) (by first | assumption | exact MW.m (by assumption) | exact MV.th (by assumption) | exact MW.m (MW.th (by assumption))) (by first | omega | assumption)) (show d - 1 + 1 ≤ d from by omega) (Nat.le_of_ble_eq_true rfl) ?_
    rintro s122 ⟨v122, w122⟩
    exact I.vretQ dX9_makes_125 rfl (by
      refine ⟨v122.congr fun k k0 k1 => ?_, w17.trans (w31.trans (w37.trans (w58.trans (w77.trans (w83.trans w122)))))⟩
      skip
      unfold gPlay
      by_cases a0 : k = 2
      · rw [if_pos a0]; (repeat (first | rw [upr_ne (by omega)] | rw [upr_eqq (by omega)])); first | done | rfl | omega | (rw [show k = _ from by first | exact a0 | exact a0.1]) | (exfalso; omega)
      rw [if_neg a0]
      by_cases a1 : k = 4
      · rw [if_pos a1]; rw [if_pos (show z = 6 by omega)]; (repeat (first | rw [upr_ne (by omega)] | rw [upr_eqq (by omega)])); first | done | rfl | omega | (rw [show k = _ from by first | exact a1 | exact a1.1]) | (exfalso; omega)
      rw [if_neg a1]
      by_cases a2 : k = 5
      · rw [if_pos a2]; (repeat (first | rw [upr_ne (by omega)] | rw [upr_eqq (by omega)])); first | done | rfl | omega | (rw [show k = _ from by first | exact a2 | exact a2.1]) | (exfalso; omega)
      rw [if_neg a2]
      by_cases a3 : k = 6 + 2 * f 1 + f 2
      · rw [if_pos a3]; (repeat (first | rw [upr_ne (by omega)] | rw [upr_eqq (by omega)])); first | done | rfl | omega | (rw [show k = _ from by first | exact a3 | exact a3.1]) | (exfalso; omega)
      rw [if_neg a3]
      by_cases a4 : k = 14 + f 2
      · rw [if_pos a4]; rw [if_pos (show z = 6 by omega)]; (repeat (first | rw [upr_ne (by omega)] | rw [upr_eqq (by omega)])); first | done | rfl | omega | (rw [show k = _ from by first | exact a4 | exact a4.1]) | (exfalso; omega)
      rw [if_neg a4]
      by_cases a5 : k = 16 + f 2
      · rw [if_pos a5]; rw [if_pos (show z = 6 by omega)]; (repeat (first | rw [upr_ne (by omega)] | rw [upr_eqq (by omega)])); first | done | rfl | omega | (rw [show k = _ from by first | exact a5 | exact a5.1]) | (exfalso; omega)
      rw [if_neg a5]
      by_cases a6 : k = 34 + z / 2 ∧ z ≠ 6 ∧ z % 2 = 0
      · rw [if_pos a6]; (repeat (first | rw [upr_ne (by omega)] | rw [upr_eqq (by omega)])); first | done | rfl | omega | (rw [show k = _ from by first | exact a6 | exact a6.1]) | (exfalso; omega)
      rw [if_neg a6]
      by_cases a7 : k = 37 + z / 2 ∧ z ≠ 6 ∧ z % 2 = 1
      · rw [if_pos a7]; (repeat (first | rw [upr_ne (by omega)] | rw [upr_eqq (by omega)])); first | done | rfl | omega | (rw [show k = _ from by first | exact a7 | exact a7.1]) | (exfalso; omega)
      rw [if_neg a7]
      by_cases a8 : k = 136 + f 5
      · rw [if_pos a8]; (repeat (first | rw [upr_ne (by omega)] | rw [upr_eqq (by omega)])); first | done | rfl | omega | (rw [show k = _ from by first | exact a8 | exact a8.1]) | (exfalso; omega)
      rw [if_neg a8]
      by_cases a9 : k = 184 + f 5
      · rw [if_pos a9]; (repeat (first | rw [upr_ne (by omega)] | rw [upr_eqq (by omega)])); first | done | rfl | omega | (rw [show k = _ from by first | exact a9 | exact a9.1]) | (exfalso; omega)
      rw [if_neg a9]
      (repeat (first | rw [upr_ne (by omega)] | rw [upr_eqq (by omega)])))
