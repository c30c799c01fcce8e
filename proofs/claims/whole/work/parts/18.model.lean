set_option maxHeartbeats 1000000 in
theorem k_X9_copies_2 {Γ : jE} (hl : Γ.1.stackTraces = false) {s : Nat → Int → Int} {ε : jEps} {d : Nat} {a : Int} {b : Int} (hd : 0 ≤ d) (p0 : 0 ≤ a ∧ a < 12) (p1 : 0 ≤ b ∧ b < 12) (p2 : a ≠ b) {mc ms : Nat} {P : Option Value → jM → Prop} {X : String → jM → Prop} : ∀ (k : Nat) {z : Nat → Int → Int} {i : Int} (q0 : ((k : Nat) : Int) = 232 - i) (q1 : 0 ≤ i) (q2 : ∀ q i, q ≠ 138 → z q i = s q i) (q3 : ∀ j, (j < 232 * b ∨ 232 * b + 232 ≤ j) → z 138 j = s 138 j) (q4 : ∀ j, 0 ≤ j → j < i → z 138 (232 * b + j) = s 138 (232 * a + j)) (kx : ∀ s', ((∀ q i, q ≠ 138 → s' q i = s q i) ∧ (∀ j, (j < 232 * b ∨ 232 * b + 232 ≤ j) → s' 138 j = s 138 j) ∧ ∀ j, 0 ≤ j → j < 232 → s' 138 (232 * b + j) = s 138 (232 * a + j)) → J Γ (d, mc, ms) mX9_copies 39 [some (.ref 137), some (.int (iI a)), some (.int (iI b)), none] [] (jmem s' ε) P X), J Γ (d, mc, ms) mX9_copies 2 [some (.ref 137), some (.int (iI a)), some (.int (iI b)), some (.int (iI (i)))] [] (jmem z ε) P X := by
  intro k
  induction k with
  | zero =>
    intro z i q0 q1 q2 q3 q4 kx
    refine J.iload_n 3 dX9_copies_2 rfl rfl ?_
    refine I.sipush dX9_copies_3 (by decide) ?_
    refine I.icmp_ge 39 dX9_copies_6 (by decide) (by omega) (by omega) (fun h6 => ?_) (fun h6 => ?_)
    · skip
      exact J.fgt (by exact ⟨Or.inr rfl, Or.inr rfl, Or.inr rfl, Or.inl rfl, trivial⟩) (kx _ ⟨q2, q3, fun j x y => q4 j x (by omega)⟩)
    · exact absurd h6 (by omega)
  | succ k ih =>
    intro z i q0 q1 q2 q3 q4 kx
    refine J.iload_n 3 dX9_copies_2 rfl rfl ?_
    refine I.sipush dX9_copies_3 (by decide) ?_
    refine I.icmp_ge 39 dX9_copies_6 (by decide) (by omega) (by omega) (fun h6 => ?_) (fun h6 => ?_)
    · exact absurd h6 (by omega)
    · skip
      refine J.aload_n 0 dX9_copies_9 rfl rfl ?_
      refine I.getR dX9_copies_10 jcls fX9_7 rfl (by decide) rfl rfl ?_
      refine I.sipush dX9_copies_13 (by decide) ?_
      refine J.iload_n 2 dX9_copies_16 rfl rfl ?_
      refine I.mul dX9_copies_17 ?_
      refine J.iload_n 3 dX9_copies_18 rfl rfl ?_
      refine I.add dX9_copies_19 ?_
      refine J.aload_n 0 dX9_copies_20 rfl rfl ?_
      refine I.getR dX9_copies_21 jcls fX9_7 rfl (by decide) rfl rfl ?_
      refine I.sipush dX9_copies_24 (by decide) ?_
      refine J.iload_n 1 dX9_copies_27 rfl rfl ?_
      refine I.mul dX9_copies_28 ?_
      refine J.iload_n 3 dX9_copies_29 rfl rfl ?_
      refine I.add dX9_copies_30 ?_
      refine I.iald dX9_copies_31 rfl (by omega) (by omega) ?_
      refine I.sx (q3 _ (by omega)) ?_
      refine I.iast dX9_copies_32 rfl (by omega) (by omega) ?_
      refine I.iinc dX9_copies_33 rfl rfl ?_
      refine J.goto 2 dX9_copies_36 (by decide) ?_
      exact J.fgt (by exact ⟨Or.inr rfl, Or.inr rfl, Or.inr rfl, Or.inr rfl, trivial⟩) (ih (by omega) (by omega) (fun q j h => by rw [up_ne (Or.inl h)]; exact q2 q j h) (fun j h => by rw [up_ne (Or.inr (by omega))]; exact q3 j h) (fun j x y => by by_cases g : j = i; rw [up_eqq ⟨rfl, by omega⟩, g]; rw [up_ne (Or.inr (by omega))]; exact q4 j x (by omega)) kx)
set_option maxHeartbeats 1000000 in
theorem c_X9_copies {Γ : jE} (hl : Γ.1.stackTraces = false) {s : Nat → Int → Int} {ε : jEps} {d : Nat} {a : Int} {b : Int} (hd : 0 ≤ d) (p0 : 0 ≤ a ∧ a < 12) (p1 : 0 ≤ b ∧ b < 12) (p2 : a ≠ b) : Con Γ (d, 0, 0) mX9_copies [.ref 137, .int (iI a), .int (iI b)] (jmem s ε) (RW (fun s' => (∀ q i, q ≠ 138 → s' q i = s q i) ∧ (∀ j, (j < 232 * b ∨ 232 * b + 232 ≤ j) → s' 138 j = s 138 j) ∧ ∀ j, 0 ≤ j → j < 232 → s' 138 (232 * b + j) = s 138 (232 * a + j)) ε) X0 := by
  refine Con.ofJ (by decide +kernel) (by simp [Value.category]) (Nat.le_of_ble_eq_true rfl) ?_ hl
  refine I.iconst dX9_copies_0 ?_
  refine J.istore_n 3 dX9_copies_1 rfl (by decide) rfl ?_
  refine J.fgt (by exact ⟨Or.inr rfl, Or.inr rfl, Or.inr rfl, Or.inr rfl, trivial⟩) (k_X9_copies_2 hl (by omega) p0 p1 p2 (232) (by omega) (by omega) (fun _ _ _ => rfl) (fun _ _ => rfl) (fun j x y => by omega) ?_)
  rintro s2 ⟨u2, v2, w2⟩
  exact I.vretQ dX9_copies_39 rfl ⟨u2, v2, w2⟩
set_option maxHeartbeats 1000000 in
theorem c_X9_goesOn {Γ : jE} (hl : Γ.1.stackTraces = false) {s : Nat → Int → Int} {ε : jEps} {d : Nat} {f : Int → Int} (hd : 3 ≤ d) (p0 : MW s f) (p1 : f 1 + 1 < f 0) : Con Γ (d, 0, 0) mX9_goesOn [.ref 137] (jmem s ε) (RW (fun s' => MV s' (gNext f) ∧ FrM s s') ε) X0 := by
  refine Con.ofJ (by decide +kernel) (by simp [Value.category]) (Nat.le_of_ble_eq_true rfl) ?_ hl
  have hw := MW.w p0
  have r0 := FS.sr p0.l p0.v (f 1) 0 (by omega) (by omega) (by omega) (by omega)
  have r1 := FS.sr p0.l p0.v (f 1) 1 (by omega) (by omega) (by omega) (by omega)
  refine J.aload_n 0 dX9_goesOn_0 rfl rfl ?_
  refine I.iconst dX9_goesOn_1 ?_
  refine I.callV1i (d' := d - 1) (mi' := mX9_scoreNow) dX9_goesOn_2 lX9_271 eX9_scoreNow rfl rfl (c_X9_scoreNow (d := d - 1) hl (by omega) (by first | assumption | exact MW.th (by assumption)) (by first | omega | assumption)) (show d - 1 + 1 ≤ d from by omega) (Nat.le_of_ble_eq_true rfl) ?_
  refine J.aload_n 0 dX9_goesOn_5 rfl rfl ?_
  refine I.iconst dX9_goesOn_6 ?_
  refine I.callV1i (d' := d - 1) (mi' := mX9_scoreNow) dX9_goesOn_7 lX9_271 eX9_scoreNow rfl rfl (c_X9_scoreNow (d := d - 1) hl (by omega) (by first | assumption | exact MW.th (by assumption)) (by first | omega | assumption)) (show d - 1 + 1 ≤ d from by omega) (Nat.le_of_ble_eq_true rfl) ?_
  refine I.sub dX9_goesOn_10 ?_
  refine J.istore_n 1 dX9_goesOn_11 rfl (by decide) rfl ?_
  refine J.iload_n 1 dX9_goesOn_12 rfl rfl ?_
  refine I.if_ne 24 dX9_goesOn_13 (by decide) (by omega) (fun h13 => ?_) (fun h13 => ?_)
  · skip
    refine J.iload_n 1 dX9_goesOn_24 rfl rfl ?_
    refine I.if_le 32 dX9_goesOn_25 (by decide) (by omega) (fun h25 => ?_) (fun h25 => ?_)
    · skip
      refine I.iconst dX9_goesOn_32 ?_
      refine I.sx (y := gNextSt f) (by unfold gNextSt; omega) ?_
      refine J.istore_n 2 dX9_goesOn_33 rfl (by decide) rfl ?_
      refine J.aload_n 0 dX9_goesOn_34 rfl rfl ?_
      refine I.iconst dX9_goesOn_35 ?_
      refine I.iconst dX9_goesOn_36 ?_
      refine I.callV2w (d' := d - 1) (mi' := mX9_adds) dX9_goesOn_37 lX9_97 eX9_adds rfl rfl (c_X9_adds (d := d - 1) hl (by omega) (by first | assumption | exact MW.m (by assumption) | exact MV.th (by assumption) | exact MW.m (MW.th (by assumption))) (by first | omega | assumption)) (show d - 1 + 1 ≤ d from by omega) (Nat.le_of_ble_eq_true rfl) ?_
      rintro s37 ⟨v37, w37⟩
      refine J.aload_n 0 dX9_goesOn_40 rfl rfl ?_
      refine J.iload_n 2 dX9_goesOn_41 rfl rfl ?_
      refine I.callV1w (d' := d - 1) (mi' := mX9_deals) dX9_goesOn_42 lX9_36 eX9_deals rfl rfl (c_X9_deals (d := d - 1) hl (by omega) (by first | assumption | exact MW.m (by assumption) | exact MV.th (by assumption) | exact MW.m (MW.th (by assumption))) (by rw [upr_eqq rfl]; omega)) (show d - 1 + 1 ≤ d from by omega) (Nat.le_of_ble_eq_true rfl) ?_
      rintro s42 ⟨v42, w42⟩
      exact I.vretQ dX9_goesOn_45 rfl (by
        refine ⟨v42.congr fun k k0 k1 => ?_, w37.trans w42⟩
        unfold gNext gDeal
        rw [upr_eqq rfl]
        (repeat' split) <;> first | rfl | ((repeat (first | rw [upr_ne (by omega)] | rw [upr_eqq (by omega)])); first | done | rfl | omega | (apply congrArg; omega) | (simp only [upr]; (repeat' split) <;> first | rfl | omega | (congr 1; omega) | (congr 2; omega))) | (rw [upr_ne (by omega)]))
    · skip
      refine I.iconst dX9_goesOn_28 ?_
      refine J.goto 33 dX9_goesOn_29 (by decide) ?_
      refine I.sx (y := gNextSt f) (by unfold gNextSt; omega) ?_
      refine J.istore_n 2 dX9_goesOn_33 rfl (by decide) rfl ?_
      refine J.aload_n 0 dX9_goesOn_34 rfl rfl ?_
      refine I.iconst dX9_goesOn_35 ?_
      refine I.iconst dX9_goesOn_36 ?_
      refine I.callV2w (d' := d - 1) (mi' := mX9_adds) dX9_goesOn_37 lX9_97 eX9_adds rfl rfl (c_X9_adds (d := d - 1) hl (by omega) (by first | assumption | exact MW.m (by assumption) | exact MV.th (by assumption) | exact MW.m (MW.th (by assumption))) (by first | omega | assumption)) (show d - 1 + 1 ≤ d from by omega) (Nat.le_of_ble_eq_true rfl) ?_
      rintro s37 ⟨v37, w37⟩
      refine J.aload_n 0 dX9_goesOn_40 rfl rfl ?_
      refine J.iload_n 2 dX9_goesOn_41 rfl rfl ?_
      refine I.callV1w (d' := d - 1) (mi' := mX9_deals) dX9_goesOn_42 lX9_36 eX9_deals rfl rfl (c_X9_deals (d := d - 1) hl (by omega) (by first | assumption | exact MW.m (by assumption) | exact MV.th (by assumption) | exact MW.m (MW.th (by assumption))) (by rw [upr_eqq rfl]; omega)) (show d - 1 + 1 ≤ d from by omega) (Nat.le_of_ble_eq_true rfl) ?_
      rintro s42 ⟨v42, w42⟩
      exact I.vretQ dX9_goesOn_45 rfl (by
        refine ⟨v42.congr fun k k0 k1 => ?_, w37.trans w42⟩
        unfold gNext gDeal
        rw [upr_eqq rfl]
        (repeat' split) <;> first | rfl | ((repeat (first | rw [upr_ne (by omega)] | rw [upr_eqq (by omega)])); first | done | rfl | omega | (apply congrArg; omega) | (simp only [upr]; (repeat' split) <;> first | rfl | omega | (congr 1; omega) | (congr 2; omega))) | (rw [upr_ne (by omega)]))
  · skip
    refine J.aload_n 0 dX9_goesOn_16 rfl rfl ?_
    refine I.iconst dX9_goesOn_17 ?_
    refine I.callV1i (d' := d - 1) (mi' := mX9_get) dX9_goesOn_18 lX9_46 eX9_get rfl rfl (c_X9_get (d := d - 1) hl (by omega) (by first | assumption | exact MW.m (by assumption) | exact MV.th (by assumption) | exact MW.m (MW.th (by assumption))) (by first | omega | assumption)) (show d - 1 + 1 ≤ d from by omega) (Nat.le_of_ble_eq_true rfl) ?_
    refine J.goto 33 dX9_goesOn_21 (by decide) ?_
    refine I.sx (y := gNextSt f) (by unfold gNextSt; omega) ?_
    refine J.istore_n 2 dX9_goesOn_33 rfl (by decide) rfl ?_
    refine J.aload_n 0 dX9_goesOn_34 rfl rfl ?_
    refine I.iconst dX9_goesOn_35 ?_
    refine I.iconst dX9_goesOn_36 ?_
    refine I.callV2w (d' := d - 1) (mi' := mX9_adds) dX9_goesOn_37 lX9_97 eX9_adds rfl rfl (c_X9_adds (d := d - 1) hl (by omega) (by first | assumption | exact MW.m (by assumption) | exact MV.th (by assumption) | exact MW.m (MW.th (by assumption))) (by first | omega | assumption)) (show d - 1 + 1 ≤ d from by omega) (Nat.le_of_ble_eq_true rfl) ?_
    rintro s37 ⟨v37, w37⟩
    refine J.aload_n 0 dX9_goesOn_40 rfl rfl ?_
    refine J.iload_n 2 dX9_goesOn_41 rfl rfl ?_
    refine I.callV1w (d' := d - 1) (mi' := mX9_deals) dX9_goesOn_42 lX9_36 eX9_deals rfl rfl (c_X9_deals (d := d - 1) hl (by omega) (by first | assumption | exact MW.m (by assumption) | exact MV.th (by assumption) | exact MW.m (MW.th (by assumption))) (by rw [upr_eqq rfl]; omega)) (show d - 1 + 1 ≤ d from by omega) (Nat.le_of_ble_eq_true rfl) ?_
    rintro s42 ⟨v42, w42⟩
    exact I.vretQ dX9_goesOn_45 rfl (by
      refine ⟨v42.congr fun k k0 k1 => ?_, w37.trans w42⟩
      unfold gNext gDeal
      rw [upr_eqq rfl]
      (repeat' split) <;> first | rfl | ((repeat (first | rw [upr_ne (by omega)] | rw [upr_eqq (by omega)])); first | done | rfl | omega | (apply congrArg; omega) | (simp only [upr]; (repeat' split) <;> first | rfl | omega | (congr 1; omega) | (congr 2; omega))) | (rw [upr_ne (by omega)]))
set_option maxHeartbeats 1000000 in
theorem c_X9_writes {Γ : jE} (hl : Γ.1.stackTraces = false) {s : Nat → Int → Int} {ε : jEps} {d : Nat} {c : Int} (hd : 0 ≤ d) (p0 : 0 ≤ s 137 11 ∧ s 137 11 < 200) (p1 : 0 ≤ c ∧ c < 65536) : Con Γ (d, 0, 0) mX9_writes [.ref 137, .int (iI c)] (jmem s ε) (RV (up (up s 140 (s 137 11) c) 137 11 (s 137 11 + 1)) ε) X0 := by
  refine Con.ofJ (by decide +kernel) (by simp [Value.category]) (Nat.le_of_ble_eq_true rfl) ?_ hl
  refine J.aload_n 0 dX9_writes_0 rfl rfl ?_
  refine I.getR dX9_writes_1 jcls fX9_17 rfl (by decide) rfl rfl ?_
  refine J.aload_n 0 dX9_writes_4 rfl rfl ?_
  refine I.gI 11 rfl dX9_writes_5 jcls fX9_295 rfl (by decide) rfl ?_
  refine J.iload_n 1 dX9_writes_8 rfl rfl ?_
  refine I.i2c dX9_writes_9 (by omega) ?_
  refine I.cast dX9_writes_10 rfl (by omega) (by omega) (iI_chr2 p1) ?_
  refine J.aload_n 0 dX9_writes_11 rfl rfl ?_
  refine J.dupR dX9_writes_12 ?_
  refine I.gI 11 rfl dX9_writes_13 jcls fX9_295 rfl (by decide) rfl ?_
  refine I.sx (show _ = s 137 11 from up_ne (Or.inl (by decide))) ?_
  refine I.iconst dX9_writes_16 ?_
  refine I.add dX9_writes_17 ?_
  refine I.pI 11 rfl dX9_writes_18 jcls fX9_295 rfl (by decide) rfl ?_
  exact I.vret dX9_writes_21 rfl rfl
set_option maxHeartbeats 1000000 in
theorem k_X9_writesLog_7 {Γ : jE} (hl : Γ.1.stackTraces = false) {s : Nat → Int → Int} {ε : jEps} {d : Nat} {a : Int} {f : Int → Int} (hd : 1 ≤ d) (p0 : MW s f) (p1 : 0 ≤ a ∧ a ≤ f 5) {mc ms : Nat} {P : Option Value → jM → Prop} {X : String → jM → Prop} : ∀ (k : Nat) {z : Nat → Int → Int} {i : Int} {x : List Int} (q0 : ((k : Nat) : Int) = f 5 - i) (q1 : a ≤ i) (q2 : TX z 140 137 11 x) (q3 : ∀ q j, q ≠ 140 → (q ≠ 137 ∨ j ≠ 11) → z q j = s q j) (q4 : (x.length : Int) ≤ 3 * (i - a)) (kx : ∀ s', (TX s' 140 137 11 (foldF (gLogS f a) k i x) ∧ ∀ q j, q ≠ 140 → (q ≠ 137 ∨ j ≠ 11) → s' q j = s q j) → J Γ (d, mc, ms) mX9_writesLog 85 [some (.ref 137), some (.int (iI a)), none, none] [] (jmem s' ε) P X), J Γ (d, mc, ms) mX9_writesLog 7 [some (.ref 137), some (.int (iI a)), some (.int (iI (i))), none] [] (jmem z ε) P X := by
  have hm := FS.moves p0.v
  intro k
  induction k with
  | zero =>
    intro z i x q0 q1 q2 q3 q4 kx
    refine J.iload_n 2 dX9_writesLog_7 rfl rfl ?_
    refine J.aload_n 0 dX9_writesLog_8 rfl rfl ?_
    refine I.iconst dX9_writesLog_9 ?_
    refine I.callV1i (d' := d - 1) (mi' := mX9_get) dX9_writesLog_10 lX9_46 eX9_get rfl rfl (c_X9_get (d := d - 1) hl (f := f) (by omega) (by exact ⟨by rw [q3 _ _ (by decide) (by decide)]; exact p0.m.1, fun j x y => by rw [q3 137 2 (by decide) (by decide), q3 _ _ (by decide) (Or.inl (by decide))]; exact p0.m.2 j x y⟩) (by first | omega | assumption)) (show d - 1 + 1 ≤ d from by omega) (Nat.le_of_ble_eq_true rfl) ?_
    refine I.icmp_ge 85 dX9_writesLog_13 (by decide) (by omega) (by omega) (fun h13 => ?_) (fun h13 => ?_)
    · skip
      exact J.fgt (by exact ⟨Or.inr rfl, Or.inr rfl, Or.inl rfl, Or.inl rfl, trivial⟩) (kx _ ⟨q2, q3⟩)
    · exact absurd h13 (by omega)
  | succ k ih =>
    intro z i x q0 q1 q2 q3 q4 kx
    refine J.iload_n 2 dX9_writesLog_7 rfl rfl ?_
    refine J.aload_n 0 dX9_writesLog_8 rfl rfl ?_
    refine I.iconst dX9_writesLog_9 ?_
    refine I.callV1i (d' := d - 1) (mi' := mX9_get) dX9_writesLog_10 lX9_46 eX9_get rfl rfl (c_X9_get (d := d - 1) hl (f := f) (by omega) (by exact ⟨by rw [q3 _ _ (by decide) (by decide)]; exact p0.m.1, fun j x y => by rw [q3 137 2 (by decide) (by decide), q3 _ _ (by decide) (Or.inl (by decide))]; exact p0.m.2 j x y⟩) (by first | omega | assumption)) (show d - 1 + 1 ≤ d from by omega) (Nat.le_of_ble_eq_true rfl) ?_
    refine I.icmp_ge 85 dX9_writesLog_13 (by decide) (by omega) (by omega) (fun h13 => ?_) (fun h13 => ?_)
    · exact absurd h13 (by omega)
    · skip
      have hlg := FS.lg p0.v i (by omega) (by omega)
      have q21 := q2.1
      refine J.iload_n 2 dX9_writesLog_16 rfl rfl ?_
      refine J.iload_n 1 dX9_writesLog_17 rfl rfl ?_
      refine I.icmp_le 27 dX9_writesLog_18 (by decide) (by omega) (by omega) (fun h18 => ?_) (fun h18 => ?_)
      · skip
        have eA : (if a < i then x ++ [32] else x) = x := if_neg (by omega)
        refine J.aload_n 0 dX9_writesLog_27 rfl rfl ?_
        refine I.sipush dX9_writesLog_28 (by decide) ?_
        refine J.iload_n 2 dX9_writesLog_31 rfl rfl ?_
        refine I.add dX9_writesLog_32 ?_
        refine I.callV1i (d' := d - 1) (mi' := mX9_get) dX9_writesLog_33 lX9_46 eX9_get rfl rfl (c_X9_get (d := d - 1) hl (f := f) (by omega) (by refine ⟨?_, fun j x y => ?_⟩ <;> (repeat rw [up_ne (by omega)]) <;> simp only [q3 137 2 (by decide) (by decide), q3 138 _ (by decide) (Or.inl (by decide))] <;> first | exact p0.m.1 | exact p0.m.2 j x y) (by first | omega | assumption)) (show d - 1 + 1 ≤ d from by omega) (Nat.le_of_ble_eq_true rfl) ?_
        refine J.istore_n 3 dX9_writesLog_36 rfl (by decide) rfl ?_
        refine J.iload_n 3 dX9_writesLog_37 rfl rfl ?_
        refine I.bipush dX9_writesLog_38 (by decide) ?_
        refine I.icmp_ne 52 dX9_writesLog_40 (by decide) (by omega) (by omega) (fun h40 => ?_) (fun h40 => ?_)
        · skip
          refine J.aload_n 0 dX9_writesLog_52 rfl rfl ?_
          refine J.iload_n 3 dX9_writesLog_53 rfl rfl ?_
          refine I.iconst dX9_writesLog_54 ?_
          refine I.rem dX9_writesLog_55 (by omega) (by omega) ?_
          refine I.if_ne 64 dX9_writesLog_56 (by decide) (by omega) (fun h56 => ?_) (fun h56 => ?_)
          · skip
            have eP : gPiece (f (136 + i)) = [82, 48 + f (136 + i) / 2] := by unfold gPiece; rw [if_neg (by omega), if_neg (by omega)]
            refine I.bipush dX9_writesLog_64 (by decide) ?_
            refine I.callV1v (d' := d - 1) (mi' := mX9_writes) dX9_writesLog_66 lX9_298 eX9_writes rfl rfl (c_X9_writes (d := d - 1) hl (by omega) (by (repeat rw [up_eq]); omega) (by first | omega | assumption)) (show d - 1 + 1 ≤ d from by omega) (Nat.le_of_ble_eq_true rfl) ?_
            refine J.aload_n 0 dX9_writesLog_69 rfl rfl ?_
            refine I.bipush dX9_writesLog_70 (by decide) ?_
            refine J.iload_n 3 dX9_writesLog_72 rfl rfl ?_
            refine I.iconst dX9_writesLog_73 ?_
            refine I.div dX9_writesLog_74 (by omega) (by omega) ?_
            refine I.add dX9_writesLog_75 ?_
            refine I.callV1v (d' := d - 1) (mi' := mX9_writes) dX9_writesLog_76 lX9_298 eX9_writes rfl rfl (c_X9_writes (d := d - 1) hl (by omega) (by (repeat rw [up_eq]); omega) (by first | omega | assumption)) (show d - 1 + 1 ≤ d from by omega) (Nat.le_of_ble_eq_true rfl) ?_
            refine I.iinc dX9_writesLog_79 rfl rfl ?_
            refine J.goto 7 dX9_writesLog_82 (by decide) ?_
            exact J.fgt (by exact ⟨Or.inr rfl, Or.inr rfl, Or.inr rfl, Or.inl rfl, trivial⟩) (ih (x := gLogS f a i x) (by omega) (by omega) (by unfold gLogS; rw [eA, eP]; first | exact TX.add (by decide) q2 | exact TX.add (by decide) (TX.add (by decide) q2) | (rw [app2]; first | exact TX.add (by decide) (TX.add (by decide) q2) | exact TX.add (by decide) (TX.add (by decide) (TX.add (by decide) q2)))) (fun q j h1 h2 => by (repeat rw [up_ne (by omega)]); exact q3 q j h1 h2) (by have := @gLogS_len f a i x; omega) kx)
          · skip
            have eP : gPiece (f (136 + i)) = [76, 48 + f (136 + i) / 2] := by unfold gPiece; rw [if_neg (by omega), if_pos (by omega)]
            refine I.bipush dX9_writesLog_59 (by decide) ?_
            refine J.goto 66 dX9_writesLog_61 (by decide) ?_
            refine I.callV1v (d' := d - 1) (mi' := mX9_writes) dX9_writesLog_66 lX9_298 eX9_writes rfl rfl (c_X9_writes (d := d - 1) hl (by omega) (by (repeat rw [up_eq]); omega) (by first | omega | assumption)) (show d - 1 + 1 ≤ d from by omega) (Nat.le_of_ble_eq_true rfl) ?_
            refine J.aload_n 0 dX9_writesLog_69 rfl rfl ?_
            refine I.bipush dX9_writesLog_70 (by decide) ?_
            refine J.iload_n 3 dX9_writesLog_72 rfl rfl ?_
            refine I.iconst dX9_writesLog_73 ?_
            refine I.div dX9_writesLog_74 (by omega) (by omega) ?_
            refine I.add dX9_writesLog_75 ?_
            refine I.callV1v (d' := d - 1) (mi' := mX9_writes) dX9_writesLog_76 lX9_298 eX9_writes rfl rfl (c_X9_writes (d := d - 1) hl (by omega) (by (repeat rw [up_eq]); omega) (by first | omega | assumption)) (show d - 1 + 1 ≤ d from by omega) (Nat.le_of_ble_eq_true rfl) ?_
            refine I.iinc dX9_writesLog_79 rfl rfl ?_
            refine J.goto 7 dX9_writesLog_82 (by decide) ?_
            exact J.fgt (by exact ⟨Or.inr rfl, Or.inr rfl, Or.inr rfl, Or.inl rfl, trivial⟩) (ih (x := gLogS f a i x) (by omega) (by omega) (by unfold gLogS; rw [eA, eP]; first | exact TX.add (by decide) q2 | exact TX.add (by decide) (TX.add (by decide) q2) | (rw [app2]; first | exact TX.add (by decide) (TX.add (by decide) q2) | exact TX.add (by decide) (TX.add (by decide) (TX.add (by decide) q2)))) (fun q j h1 h2 => by (repeat rw [up_ne (by omega)]); exact q3 q j h1 h2) (by have := @gLogS_len f a i x; omega) kx)
        · skip
          have eP : gPiece (f (136 + i)) = [80] := if_pos (by omega)
          refine J.aload_n 0 dX9_writesLog_43 rfl rfl ?_
          refine I.bipush dX9_writesLog_44 (by decide) ?_
          refine I.callV1v (d' := d - 1) (mi' := mX9_writes) dX9_writesLog_46 lX9_298 eX9_writes rfl rfl (c_X9_writes (d := d - 1) hl (by omega) (by (repeat rw [up_eq]); omega) (by first | omega | assumption)) (show d - 1 + 1 ≤ d from by omega) (Nat.le_of_ble_eq_true rfl) ?_
          refine J.goto 79 dX9_writesLog_49 (by decide) ?_
          refine I.iinc dX9_writesLog_79 rfl rfl ?_
          refine J.goto 7 dX9_writesLog_82 (by decide) ?_
          exact J.fgt (by exact ⟨Or.inr rfl, Or.inr rfl, Or.inr rfl, Or.inl rfl, trivial⟩) (ih (x := gLogS f a i x) (by omega) (by omega) (by unfold gLogS; rw [eA, eP]; first | exact TX.add (by decide) q2 | exact TX.add (by decide) (TX.add (by decide) q2) | (rw [app2]; first | exact TX.add (by decide) (TX.add (by decide) q2) | exact TX.add (by decide) (TX.add (by decide) (TX.add (by decide) q2)))) (fun q j h1 h2 => by (repeat rw [up_ne (by omega)]); exact q3 q j h1 h2) (by have := @gLogS_len f a i x; omega) kx)
      · skip
        have eA : (if a < i then x ++ [32] else x) = x ++ [32] := if_pos (by omega)
        refine J.aload_n 0 dX9_writesLog_21 rfl rfl ?_
        refine I.bipush dX9_writesLog_22 (by decide) ?_
        refine I.callV1v (d' := d - 1) (mi' := mX9_writes) dX9_writesLog_24 lX9_298 eX9_writes rfl rfl (c_X9_writes (d := d - 1) hl (by omega) (by first | omega | assumption) (by first | omega | assumption)) (show d - 1 + 1 ≤ d from by omega) (Nat.le_of_ble_eq_true rfl) ?_
        refine J.aload_n 0 dX9_writesLog_27 rfl rfl ?_
        refine I.sipush dX9_writesLog_28 (by decide) ?_
        refine J.iload_n 2 dX9_writesLog_31 rfl rfl ?_
        refine I.add dX9_writesLog_32 ?_
        refine I.callV1i (d' := d - 1) (mi' := mX9_get) dX9_writesLog_33 lX9_46 eX9_get rfl rfl (c_X9_get (d := d - 1) hl (f := f) (by omega) (by refine ⟨?_, fun j x y => ?_⟩ <;> (repeat rw [up_ne (by omega)]) <;> simp only [q3 137 2 (by decide) (by decide), q3 138 _ (by decide) (Or.inl (by decide))] <;> first | exact p0.m.1 | exact p0.m.2 j x y) (by first | omega | assumption)) (show d - 1 + 1 ≤ d from by omega) (Nat.le_of_ble_eq_true rfl) ?_
        refine J.istore_n 3 dX9_writesLog_36 rfl (by decide) rfl ?_
        refine J.iload_n 3 dX9_writesLog_37 rfl rfl ?_
        refine I.bipush dX9_writesLog_38 (by decide) ?_
        refine I.icmp_ne 52 dX9_writesLog_40 (by decide) (by omega) (by omega) (fun h40 => ?_) (fun h40 => ?_)
        · skip
          refine J.aload_n 0 dX9_writesLog_52 rfl rfl ?_
          refine J.iload_n 3 dX9_writesLog_53 rfl rfl ?_
          refine I.iconst dX9_writesLog_54 ?_
          refine I.rem dX9_writesLog_55 (by omega) (by omega) ?_
          refine I.if_ne 64 dX9_writesLog_56 (by decide) (by omega) (fun h56 => ?_) (fun h56 => ?_)
          · skip
            have eP : gPiece (f (136 + i)) = [82, 48 + f (136 + i) / 2] := by unfold gPiece; rw [if_neg (by omega), if_neg (by omega)]
            refine I.bipush dX9_writesLog_64 (by decide) ?_
            refine I.callV1v (d' := d - 1) (mi' := mX9_writes) dX9_writesLog_66 lX9_298 eX9_writes rfl rfl (c_X9_writes (d := d - 1) hl (by omega) (by (repeat rw [up_eq]); omega) (by first | omega | assumption)) (show d - 1 + 1 ≤ d from by omega) (Nat.le_of_ble_eq_true rfl) ?_
            refine J.aload_n 0 dX9_writesLog_69 rfl rfl ?_
            refine I.bipush dX9_writesLog_70 (by decide) ?_
            refine J.iload_n 3 dX9_writesLog_72 rfl rfl ?_
            refine I.iconst dX9_writesLog_73 ?_
            refine I.div dX9_writesLog_74 (by omega) (by omega) ?_
            refine I.add dX9_writesLog_75 ?_
            refine I.callV1v (d' := d - 1) (mi' := mX9_writes) dX9_writesLog_76 lX9_298 eX9_writes rfl rfl (c_X9_writes (d := d - 1) hl (by omega) (by (repeat rw [up_eq]); omega) (by first | omega | assumption)) (show d - 1 + 1 ≤ d from by omega) (Nat.le_of_ble_eq_true rfl) ?_
            refine I.iinc dX9_writesLog_79 rfl rfl ?_
            refine J.goto 7 dX9_writesLog_82 (by decide) ?_
            exact J.fgt (by exact ⟨Or.inr rfl, Or.inr rfl, Or.inr rfl, Or.inl rfl, trivial⟩) (ih (x := gLogS f a i x) (by omega) (by omega) (by unfold gLogS; rw [eA, eP]; first | exact TX.add (by decide) q2 | exact TX.add (by decide) (TX.add (by decide) q2) | (rw [app2]; first | exact TX.add (by decide) (TX.add (by decide) q2) | exact TX.add (by decide) (TX.add (by decide) (TX.add (by decide) q2)))) (fun q j h1 h2 => by (repeat rw [up_ne (by omega)]); exact q3 q j h1 h2) (by have := @gLogS_len f a i x; omega) kx)
          · skip
            have eP : gPiece (f (136 + i)) = [76, 48 + f (136 + i) / 2] := by unfold gPiece; rw [if_neg (by omega), if_pos (by omega)]
            refine I.bipush dX9_writesLog_59 (by decide) ?_
            refine J.goto 66 dX9_writesLog_61 (by decide) ?_
            refine I.callV1v (d' := d - 1) (mi' := mX9_writes) dX9_writesLog_66 lX9_298 eX9_writes rfl rfl (c_X9_writes (d := d - 1) hl (by omega) (by (repeat rw [up_eq]); omega) (by first | omega | assumption)) (show d - 1 + 1 ≤ d from by omega) (Nat.le_of_ble_eq_true rfl) ?_
            refine J.aload_n 0 dX9_writesLog_69 rfl rfl ?_
            refine I.bipush dX9_writesLog_70 (by decide) ?_
            refine J.iload_n 3 dX9_writesLog_72 rfl rfl ?_
            refine I.iconst dX9_writesLog_73 ?_
            refine I.div dX9_writesLog_74 (by omega) (by omega) ?_
            refine I.add dX9_writesLog_75 ?_
            refine I.callV1v (d' := d - 1) (mi' := mX9_writes) dX9_writesLog_76 lX9_298 eX9_writes rfl rfl (c_X9_writes (d := d - 1) hl (by omega) (by (repeat rw [up_eq]); omega) (by first | omega | assumption)) (show d - 1 + 1 ≤ d from by omega) (Nat.le_of_ble_eq_true rfl) ?_
            refine I.iinc dX9_writesLog_79 rfl rfl ?_
            refine J.goto 7 dX9_writesLog_82 (by decide) ?_
            exact J.fgt (by exact ⟨Or.inr rfl, Or.inr rfl, Or.inr rfl, Or.inl rfl, trivial⟩) (ih (x := gLogS f a i x) (by omega) (by omega) (by unfold gLogS; rw [eA, eP]; first | exact TX.add (by decide) q2 | exact TX.add (by decide) (TX.add (by decide) q2) | (rw [app2]; first | exact TX.add (by decide) (TX.add (by decide) q2) | exact TX.add (by decide) (TX.add (by decide) (TX.add (by decide) q2)))) (fun q j h1 h2 => by (repeat rw [up_ne (by omega)]); exact q3 q j h1 h2) (by have := @gLogS_len f a i x; omega) kx)
        · skip
          have eP : gPiece (f (136 + i)) = [80] := if_pos (by omega)
          refine J.aload_n 0 dX9_writesLog_43 rfl rfl ?_
          refine I.bipush dX9_writesLog_44 (by decide) ?_
          refine I.callV1v (d' := d - 1) (mi' := mX9_writes) dX9_writesLog_46 lX9_298 eX9_writes rfl rfl (c_X9_writes (d := d - 1) hl (by omega) (by (repeat rw [up_eq]); omega) (by first | omega | assumption)) (show d - 1 + 1 ≤ d from by omega) (Nat.le_of_ble_eq_true rfl) ?_
          refine J.goto 79 dX9_writesLog_49 (by decide) ?_
          refine I.iinc dX9_writesLog_79 rfl rfl ?_
          refine J.goto 7 dX9_writesLog_82 (by decide) ?_
          exact J.fgt (by exact ⟨Or.inr rfl, Or.inr rfl, Or.inr rfl, Or.inl rfl, trivial⟩) (ih (x := gLogS f a i x) (by omega) (by omega) (by unfold gLogS; rw [eA, eP]; first | exact TX.add (by decide) q2 | exact TX.add (by decide) (TX.add (by decide) q2) | (rw [app2]; first | exact TX.add (by decide) (TX.add (by decide) q2) | exact TX.add (by decide) (TX.add (by decide) (TX.add (by decide) q2)))) (fun q j h1 h2 => by (repeat rw [up_ne (by omega)]); exact q3 q j h1 h2) (by have := @gLogS_len f a i x; omega) kx)
set_option maxHeartbeats 1000000 in
theorem c_X9_writesLog {Γ : jE} (hl : Γ.1.stackTraces = false) {s : Nat → Int → Int} {ε : jEps} {d : Nat} {a : Int} {f : Int → Int} (hd : 1 ≤ d) (p0 : MW s f) (p1 : 0 ≤ a ∧ a ≤ f 5) : Con Γ (d, 0, 0) mX9_writesLog [.ref 137, .int (iI a)] (jmem s ε) (RW (fun s' => TX s' 140 137 11 (gLogT f a) ∧ ∀ q i, q ≠ 140 → (q ≠ 137 ∨ i ≠ 11) → s' q i = s q i) ε) X0 := by
  refine Con.ofJ (by decide +kernel) (by simp [Value.category]) (Nat.le_of_ble_eq_true rfl) ?_ hl
  have hm := FS.moves p0.v
  refine J.aload_n 0 dX9_writesLog_0 rfl rfl ?_
  refine I.iconst dX9_writesLog_1 ?_
  refine I.pI 11 rfl dX9_writesLog_2 jcls fX9_295 rfl (by decide) rfl ?_
  refine J.iload_n 1 dX9_writesLog_5 rfl rfl ?_
  refine J.istore_n 2 dX9_writesLog_6 rfl (by decide) rfl ?_
  refine J.fgt (by exact ⟨Or.inr rfl, Or.inr rfl, Or.inr rfl, Or.inl rfl, trivial⟩) (k_X9_writesLog_7 hl (by omega) p0 p1 ((f 5 - a).toNat) (by omega) (by omega) (TX.nil (up_eq _ _ _ _)) (fun q j h1 h2 => up_ne (by omega)) (by simp) ?_)
  rintro s7 h7
  exact I.vretQ dX9_writesLog_85 rfl h7
