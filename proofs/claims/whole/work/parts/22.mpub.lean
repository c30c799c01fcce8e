set_option maxHeartbeats 1000000 in
theorem k_X9_greatestOf_8 {Γ : jE} (hl : Γ.1.stackTraces = false) {s : Nat → Int → Int} {ε : jEps} {d : Nat} {p : Int} {f : Int → Int} (hd : 5 ≤ d) (p0 : MW s f) (p1 : 0 ≤ p ∧ p ≤ 1) {mc ms : Nat} {P : Option Value → jM → Prop} {X : String → jM → Prop} : ∀ (k : Nat) {c a : Int} (q0 : ((k : Nat) : Int) = f (18 + f 1) - c) (q1 : 0 ≤ c) (kx : J Γ (d, mc, ms) mX9_greatestOf 43 [some (.ref 137), some (.int (iI p)), some (.int (iI (if bI (gOver f) = 1 then a else foldF (fun c a => a + (gSum f c - gLst f c)) k c a))), none] [] (jmem s ε) P X), J Γ (d, mc, ms) mX9_greatestOf 8 [some (.ref 137), some (.int (iI p)), some (.int (iI (a))), some (.int (iI (c)))] [] (jmem s ε) P X := by
  have hw := MW.w p0
  intro k
  induction k with
  | zero =>
    intro c a q0 q1 kx
    refine J.iload_n 3 dX9_greatestOf_8 rfl rfl ?_
    refine J.aload_n 0 dX9_greatestOf_9 rfl rfl ?_
    refine I.callV0i (d' := d - 1) (mi' := mX9_chains) dX9_greatestOf_10 lX9_59 eX9_chains rfl rfl (c_X9_chains (d := d - 1) hl (by omega) (by first | assumption | exact MW.th (by assumption))) (show d - 1 + 1 ≤ d from by omega) (Nat.le_of_ble_eq_true rfl) ?_
    refine I.icmp_ge 43 dX9_greatestOf_13 (by decide) (by omega) (by omega) (fun h13 => ?_) (fun h13 => ?_)
    · skip
      have e0 : (if bI (gOver f) = 1 then a else foldF (fun c a => a + (gSum f c - gLst f c)) 0 c a) = a := by split <;> rfl
      rw [e0] at kx
      exact J.fgt (by exact ⟨Or.inr rfl, Or.inr rfl, Or.inr rfl, Or.inl rfl, trivial⟩) kx
    · exact absurd h13 (by omega)
  | succ k ih =>
    intro c a q0 q1 kx
    refine J.iload_n 3 dX9_greatestOf_8 rfl rfl ?_
    refine J.aload_n 0 dX9_greatestOf_9 rfl rfl ?_
    refine I.callV0i (d' := d - 1) (mi' := mX9_chains) dX9_greatestOf_10 lX9_59 eX9_chains rfl rfl (c_X9_chains (d := d - 1) hl (by omega) (by first | assumption | exact MW.th (by assumption))) (show d - 1 + 1 ≤ d from by omega) (Nat.le_of_ble_eq_true rfl) ?_
    refine I.icmp_ge 43 dX9_greatestOf_13 (by decide) (by omega) (by omega) (fun h13 => ?_) (fun h13 => ?_)
    · exact absurd h13 (by omega)
    · skip
      refine J.aload_n 0 dX9_greatestOf_16 rfl rfl ?_
      refine I.callV0i (d' := d - 1) (mi' := mX9_isOver) dX9_greatestOf_17 lX9_88 eX9_isOver rfl rfl (c_X9_isOver (d := d - 1) hl (by omega) (by first | assumption | exact MW.th (by assumption))) (show d - 1 + 1 ≤ d from by omega) (Nat.le_of_ble_eq_true rfl) ?_
      refine I.if_neB 43 dX9_greatestOf_20 (by decide) (fun h20 => ?_) (fun h20 => ?_)
      · skip
        rw [if_pos (bI_t h20)] at kx
        exact J.fgt (by exact ⟨Or.inr rfl, Or.inr rfl, Or.inr rfl, Or.inl rfl, trivial⟩) kx
      · skip
        refine J.iload_n 2 dX9_greatestOf_23 rfl rfl ?_
        refine J.aload_n 0 dX9_greatestOf_24 rfl rfl ?_
        refine J.iload_n 3 dX9_greatestOf_25 rfl rfl ?_
        refine I.callV1i (d' := d - 1) (mi' := mX9_sumOf) dX9_greatestOf_26 lX9_259 eX9_sumOf rfl rfl (c_X9_sumOf (d := d - 1) hl (by omega) (by first | assumption | exact MW.th (by assumption)) (by first | omega | assumption)) (show d - 1 + 1 ≤ d from by omega) (Nat.le_of_ble_eq_true rfl) ?_
        refine J.aload_n 0 dX9_greatestOf_29 rfl rfl ?_
        refine J.iload_n 3 dX9_greatestOf_30 rfl rfl ?_
        refine I.callV1i (d' := d - 1) (mi' := mX9_lowestOf) dX9_greatestOf_31 lX9_274 eX9_lowestOf rfl rfl (c_X9_lowestOf (d := d - 1) hl (by omega) (by first | assumption | exact MW.th (by assumption)) (by first | omega | assumption)) (show d - 1 + 1 ≤ d from by omega) (Nat.le_of_ble_eq_true rfl) ?_
        refine I.sub dX9_greatestOf_34 ?_
        refine I.add dX9_greatestOf_35 ?_
        refine J.istore_n 2 dX9_greatestOf_36 rfl (by decide) rfl ?_
        refine I.iinc dX9_greatestOf_37 rfl rfl ?_
        refine J.goto 8 dX9_greatestOf_40 (by decide) ?_
        exact J.fgt (by exact ⟨Or.inr rfl, Or.inr rfl, Or.inr rfl, Or.inr rfl, trivial⟩) (ih (by first | omega | (dsimp only; omega)) (by first | omega | (dsimp only; omega)) (by rw [if_neg (by rw [bI_f h20]; decide)] at kx ⊢; exact kx))
set_option maxHeartbeats 1000000 in
theorem c_X9_greatestOf {Γ : jE} (hl : Γ.1.stackTraces = false) {s : Nat → Int → Int} {ε : jEps} {d : Nat} {p : Int} {f : Int → Int} (hd : 5 ≤ d) (p0 : MW s f) (p1 : 0 ≤ p ∧ p ≤ 1) : Con Γ (d, 0, 0) mX9_greatestOf [.ref 137, .int (iI p)] (jmem s ε) (RI (gGreat f p) (s) ε) X0 := by
  refine Con.ofJ (by decide +kernel) (by simp [Value.category]) (Nat.le_of_ble_eq_true rfl) ?_ hl
  have hw := MW.w p0
  refine J.aload_n 0 dX9_greatestOf_0 rfl rfl ?_
  refine J.iload_n 1 dX9_greatestOf_1 rfl rfl ?_
  refine I.callV1i (d' := d - 1) (mi' := mX9_scoreNow) dX9_greatestOf_2 lX9_271 eX9_scoreNow rfl rfl (c_X9_scoreNow (d := d - 1) hl (by omega) (by first | assumption | exact MW.th (by assumption)) (by first | omega | assumption)) (show d - 1 + 1 ≤ d from by omega) (Nat.le_of_ble_eq_true rfl) ?_
  refine J.istore_n 2 dX9_greatestOf_5 rfl (by decide) rfl ?_
  refine I.iconst dX9_greatestOf_6 ?_
  refine J.istore_n 3 dX9_greatestOf_7 rfl (by decide) rfl ?_
  refine J.fgt (by exact ⟨Or.inr rfl, Or.inr rfl, Or.inr rfl, Or.inr rfl, trivial⟩) (k_X9_greatestOf_8 hl (by omega) p0 p1 ((f (18 + f 1)).toNat) (by first | omega | (dsimp only; omega)) (by first | omega | (dsimp only; omega)) ?_)
  refine J.iload_n 2 dX9_greatestOf_43 rfl rfl ?_
  exact I.iretI dX9_greatestOf_44 rfl (by first | rfl | omega) rfl
set_option maxHeartbeats 1000000 in
theorem c_X9_greatestPossibleScore {Γ : jE} (hl : Γ.1.stackTraces = false) {s : Nat → Int → Int} {ε : jEps} {d : Nat} {p : Int} {f : Int → Int} (hd : 6 ≤ d) (p0 : MW s f) (p1 : -2147483648 ≤ p ∧ p < 2147483648) : Con Γ (d, 0, 0) mX9_greatestPossibleScore [.ref 137, .int (iI p)] (jmem s ε) (RQ (fun w s' => ((0 ≤ p ∧ p ≤ 1) ∧ gGreat f p = w ∧ s' = up s 137 0 0) ∨ (¬ (0 ≤ p ∧ p ≤ 1) ∧ s' = up s 137 0 1)) ε) X0 := by
  refine Con.ofJ (by decide +kernel) (by simp [Value.category]) (Nat.le_of_ble_eq_true rfl) ?_ hl
  have hw := MW.w p0
  refine J.aload_n 0 dX9_greatestPossibleScore_0 rfl rfl ?_
  refine I.iconst dX9_greatestPossibleScore_1 ?_
  refine I.pI 0 rfl dX9_greatestPossibleScore_2 jcls fX9_40 rfl (by decide) rfl ?_
  refine J.iload_n 1 dX9_greatestPossibleScore_5 rfl rfl ?_
  refine I.callS1i (d' := d - 1) (mi' := mX9_isPlayer) dX9_greatestPossibleScore_6 lX9_244 eX9_isPlayer rfl (c_X9_isPlayer (d := d - 1) hl (by omega) (by first | omega | assumption)) (show d - 1 + 1 ≤ d from by omega) (Nat.le_of_ble_eq_true rfl) ?_
  refine I.if_eqB 20 dX9_greatestPossibleScore_9 (by decide) (fun h9 => ?_) (fun h9 => ?_)
  · skip
    refine J.aload_n 0 dX9_greatestPossibleScore_20 rfl rfl ?_
    refine I.iconst dX9_greatestPossibleScore_21 ?_
    refine I.callV1i (d' := d - 1) (mi' := mX9_fails) dX9_greatestPossibleScore_22 lX9_219 eX9_fails rfl rfl (c_X9_fails (d := d - 1) hl (by omega) ) (show d - 1 + 1 ≤ d from by omega) (Nat.le_of_ble_eq_true rfl) ?_
    exact I.iretQ dX9_greatestPossibleScore_25 rfl (by first | exact Or.inl ⟨by first | assumption | exact ⟨by assumption, by assumption⟩ | omega, by first | rfl | assumption | omega | exact bI_t (by first | assumption | omega) | exact bI_f (by first | assumption | omega), rfl⟩ | exact Or.inr ⟨by first | assumption | omega, up_up⟩)
  · skip
    refine J.aload_n 0 dX9_greatestPossibleScore_12 rfl rfl ?_
    refine J.iload_n 1 dX9_greatestPossibleScore_13 rfl rfl ?_
    refine I.callV1i (d' := d - 1) (mi' := mX9_greatestOf) dX9_greatestPossibleScore_14 lX9_277 eX9_greatestOf rfl rfl (c_X9_greatestOf (d := d - 1) hl (by omega) (by first | assumption | exact MW.th (by assumption)) (by first | omega | assumption)) (show d - 1 + 1 ≤ d from by omega) (Nat.le_of_ble_eq_true rfl) ?_
    refine J.goto 25 dX9_greatestPossibleScore_17 (by decide) ?_
    exact I.iretQ dX9_greatestPossibleScore_25 rfl (by first | exact Or.inl ⟨by first | assumption | exact ⟨by assumption, by assumption⟩ | omega, by first | rfl | assumption | omega | exact bI_t (by first | assumption | omega) | exact bI_f (by first | assumption | omega), rfl⟩ | exact Or.inr ⟨by first | assumption | omega, up_up⟩)
set_option maxHeartbeats 1000000 in
theorem c_X9_canStillWin {Γ : jE} (hl : Γ.1.stackTraces = false) {s : Nat → Int → Int} {ε : jEps} {d : Nat} {p : Int} {f : Int → Int} (hd : 6 ≤ d) (p0 : MW s f) (p1 : -2147483648 ≤ p ∧ p < 2147483648) : Con Γ (d, 0, 0) mX9_canStillWin [.ref 137, .int (iI p)] (jmem s ε) (RQ (fun w s' => ((0 ≤ p ∧ p ≤ 1) ∧ bI (f (6 + 2 * f 1 + (1 - p)) < gGreat f p) = w ∧ s' = up s 137 0 0) ∨ (¬ (0 ≤ p ∧ p ≤ 1) ∧ s' = up s 137 0 1)) ε) X0 := by
  refine Con.ofJ (by decide +kernel) (by simp [Value.category]) (Nat.le_of_ble_eq_true rfl) ?_ hl
  have hw := MW.w p0
  refine J.aload_n 0 dX9_canStillWin_0 rfl rfl ?_
  refine I.iconst dX9_canStillWin_1 ?_
  refine I.pI 0 rfl dX9_canStillWin_2 jcls fX9_40 rfl (by decide) rfl ?_
  refine J.iload_n 1 dX9_canStillWin_5 rfl rfl ?_
  refine I.callS1i (d' := d - 1) (mi' := mX9_isPlayer) dX9_canStillWin_6 lX9_244 eX9_isPlayer rfl (c_X9_isPlayer (d := d - 1) hl (by omega) (by first | omega | assumption)) (show d - 1 + 1 ≤ d from by omega) (Nat.le_of_ble_eq_true rfl) ?_
  refine I.if_eqB 35 dX9_canStillWin_9 (by decide) (fun h9 => ?_) (fun h9 => ?_)
  · skip
    refine J.aload_n 0 dX9_canStillWin_35 rfl rfl ?_
    refine I.iconst dX9_canStillWin_36 ?_
    refine I.callV1i (d' := d - 1) (mi' := mX9_fails) dX9_canStillWin_37 lX9_219 eX9_fails rfl rfl (c_X9_fails (d := d - 1) hl (by omega) ) (show d - 1 + 1 ≤ d from by omega) (Nat.le_of_ble_eq_true rfl) ?_
    refine I.iconst dX9_canStillWin_40 ?_
    refine I.icmp_ne 48 dX9_canStillWin_41 (by decide) (by omega) (by omega) (fun h41 => ?_) (fun h41 => ?_)
    · skip
      refine I.iconst dX9_canStillWin_48 ?_
      exact I.zretQ dX9_canStillWin_49 rfl (by first | exact Or.inl rfl | exact Or.inr rfl | exact bI_01 _ | omega) (by first | exact Or.inl ⟨by first | assumption | exact ⟨by assumption, by assumption⟩ | omega, by first | rfl | assumption | omega | exact bI_t (by first | assumption | omega) | exact bI_f (by first | assumption | omega), rfl⟩ | exact Or.inr ⟨by first | assumption | omega, up_up⟩)
    · skip
      refine I.iconst dX9_canStillWin_44 ?_
      refine J.goto 49 dX9_canStillWin_45 (by decide) ?_
      exact I.zretQ dX9_canStillWin_49 rfl (by first | exact Or.inl rfl | exact Or.inr rfl | exact bI_01 _ | omega) (by first | exact Or.inl ⟨by first | assumption | exact ⟨by assumption, by assumption⟩ | omega, by first | rfl | assumption | omega | exact bI_t (by first | assumption | omega) | exact bI_f (by first | assumption | omega), rfl⟩ | exact Or.inr ⟨by first | assumption | omega, up_up⟩)
  · skip
    have hg := gGreat_rng p0.l p0.v (p := p) (by omega) (by omega)
    have hs := FS.sr p0.l p0.v (f 1) (1 - p) (by omega) (by omega) (by omega) (by omega)
    refine J.aload_n 0 dX9_canStillWin_12 rfl rfl ?_
    refine J.iload_n 1 dX9_canStillWin_13 rfl rfl ?_
    refine I.callV1i (d' := d - 1) (mi' := mX9_greatestOf) dX9_canStillWin_14 lX9_277 eX9_greatestOf rfl rfl (c_X9_greatestOf (d := d - 1) hl (by omega) (by first | assumption | exact MW.th (by assumption)) (by first | omega | assumption)) (show d - 1 + 1 ≤ d from by omega) (Nat.le_of_ble_eq_true rfl) ?_
    refine J.aload_n 0 dX9_canStillWin_17 rfl rfl ?_
    refine I.iconst dX9_canStillWin_18 ?_
    refine J.iload_n 1 dX9_canStillWin_19 rfl rfl ?_
    refine I.sub dX9_canStillWin_20 ?_
    refine I.callV1i (d' := d - 1) (mi' := mX9_scoreNow) dX9_canStillWin_21 lX9_271 eX9_scoreNow rfl rfl (c_X9_scoreNow (d := d - 1) hl (by omega) (by first | assumption | exact MW.th (by assumption)) (by first | omega | assumption)) (show d - 1 + 1 ≤ d from by omega) (Nat.le_of_ble_eq_true rfl) ?_
    refine I.icmp_le 31 dX9_canStillWin_24 (by decide) (by omega) (by omega) (fun h24 => ?_) (fun h24 => ?_)
    · skip
      refine I.iconst dX9_canStillWin_31 ?_
      refine J.goto 49 dX9_canStillWin_32 (by decide) ?_
      exact I.zretQ dX9_canStillWin_49 rfl (by first | exact Or.inl rfl | exact Or.inr rfl | exact bI_01 _ | omega) (by first | exact Or.inl ⟨by first | assumption | exact ⟨by assumption, by assumption⟩ | omega, by first | rfl | assumption | omega | exact bI_t (by first | assumption | omega) | exact bI_f (by first | assumption | omega), rfl⟩ | exact Or.inr ⟨by first | assumption | omega, up_up⟩)
    · skip
      refine I.iconst dX9_canStillWin_27 ?_
      refine J.goto 49 dX9_canStillWin_28 (by decide) ?_
      exact I.zretQ dX9_canStillWin_49 rfl (by first | exact Or.inl rfl | exact Or.inr rfl | exact bI_01 _ | omega) (by first | exact Or.inl ⟨by first | assumption | exact ⟨by assumption, by assumption⟩ | omega, by first | rfl | assumption | omega | exact bI_t (by first | assumption | omega) | exact bI_f (by first | assumption | omega), rfl⟩ | exact Or.inr ⟨by first | assumption | omega, up_up⟩)
set_option maxHeartbeats 1000000 in
theorem k_X9_burnsLeft_9 {Γ : jE} (hl : Γ.1.stackTraces = false) {s : Nat → Int → Int} {ε : jEps} {d : Nat} {f : Int → Int} (hd : 2 ≤ d) (p0 : MW s f) {mc ms : Nat} {P : Option Value → jM → Prop} {X : String → jM → Prop} : ∀ (k : Nat) {c a : Int} (q0 : ((k : Nat) : Int) = f (18 + f 1) - c) (q1 : 0 ≤ c) (kx : J Γ (d, mc, ms) mX9_burnsLeft 33 [some (.ref 137), some (.int (iI (foldF (fun c a => a + (f (37 + c) - f (34 + c) + 1 - 1)) k c a))), none] [] (jmem s ε) P X), J Γ (d, mc, ms) mX9_burnsLeft 9 [some (.ref 137), some (.int (iI (a))), some (.int (iI (c)))] [] (jmem s ε) P X := by
  have hw := MW.w p0
  have ee := MW.e p0
  intro k
  induction k with
  | zero =>
    intro c a q0 q1 kx
    refine J.iload_n 2 dX9_burnsLeft_9 rfl rfl ?_
    refine J.aload_n 0 dX9_burnsLeft_10 rfl rfl ?_
    refine I.callV0i (d' := d - 1) (mi' := mX9_chains) dX9_burnsLeft_11 lX9_59 eX9_chains rfl rfl (c_X9_chains (d := d - 1) hl (by omega) (by first | assumption | exact MW.th (by assumption))) (show d - 1 + 1 ≤ d from by omega) (Nat.le_of_ble_eq_true rfl) ?_
    refine I.icmp_ge 33 dX9_burnsLeft_14 (by decide) (by omega) (by omega) (fun h14 => ?_) (fun h14 => ?_)
    · skip
      exact J.fgt (by exact ⟨Or.inr rfl, Or.inr rfl, Or.inl rfl, trivial⟩) kx
    · exact absurd h14 (by omega)
  | succ k ih =>
    intro c a q0 q1 kx
    refine J.iload_n 2 dX9_burnsLeft_9 rfl rfl ?_
    refine J.aload_n 0 dX9_burnsLeft_10 rfl rfl ?_
    refine I.callV0i (d' := d - 1) (mi' := mX9_chains) dX9_burnsLeft_11 lX9_59 eX9_chains rfl rfl (c_X9_chains (d := d - 1) hl (by omega) (by first | assumption | exact MW.th (by assumption))) (show d - 1 + 1 ≤ d from by omega) (Nat.le_of_ble_eq_true rfl) ?_
    refine I.icmp_ge 33 dX9_burnsLeft_14 (by decide) (by omega) (by omega) (fun h14 => ?_) (fun h14 => ?_)
    · exact absurd h14 (by omega)
    · skip
      have e := ee c (by omega) (by omega)
      refine J.iload_n 1 dX9_burnsLeft_17 rfl rfl ?_
      refine J.aload_n 0 dX9_burnsLeft_18 rfl rfl ?_
      refine J.iload_n 2 dX9_burnsLeft_19 rfl rfl ?_
      refine I.callV1i (d' := d - 1) (mi' := mX9_lengthOf) dX9_burnsLeft_20 lX9_71 eX9_lengthOf rfl rfl (c_X9_lengthOf (d := d - 1) hl (by omega) (by first | assumption | exact MW.th (by assumption)) (by first | omega | assumption)) (show d - 1 + 1 ≤ d from by omega) (Nat.le_of_ble_eq_true rfl) ?_
      refine I.iconst dX9_burnsLeft_23 ?_
      refine I.sub dX9_burnsLeft_24 ?_
      refine I.add dX9_burnsLeft_25 ?_
      refine J.istore_n 1 dX9_burnsLeft_26 rfl (by decide) rfl ?_
      refine I.iinc dX9_burnsLeft_27 rfl rfl ?_
      refine J.goto 9 dX9_burnsLeft_30 (by decide) ?_
      exact J.fgt (by exact ⟨Or.inr rfl, Or.inr rfl, Or.inr rfl, trivial⟩) (ih (by first | omega | (dsimp only; omega)) (by first | omega | (dsimp only; omega)) kx)
set_option maxHeartbeats 1000000 in
theorem c_X9_burnsLeft {Γ : jE} (hl : Γ.1.stackTraces = false) {s : Nat → Int → Int} {ε : jEps} {d : Nat} {f : Int → Int} (hd : 2 ≤ d) (p0 : MW s f) : Con Γ (d, 0, 0) mX9_burnsLeft [.ref 137] (jmem s ε) (RI (gBurns f) (up s 137 0 0) ε) X0 := by
  refine Con.ofJ (by decide +kernel) (by simp [Value.category]) (Nat.le_of_ble_eq_true rfl) ?_ hl
  have hw := MW.w p0
  have ee := MW.e p0
  refine J.aload_n 0 dX9_burnsLeft_0 rfl rfl ?_
  refine I.iconst dX9_burnsLeft_1 ?_
  refine I.pI 0 rfl dX9_burnsLeft_2 jcls fX9_40 rfl (by decide) rfl ?_
  refine I.iconst dX9_burnsLeft_5 ?_
  refine J.istore_n 1 dX9_burnsLeft_6 rfl (by decide) rfl ?_
  refine I.iconst dX9_burnsLeft_7 ?_
  refine J.istore_n 2 dX9_burnsLeft_8 rfl (by decide) rfl ?_
  refine J.fgt (by exact ⟨Or.inr rfl, Or.inr rfl, Or.inr rfl, trivial⟩) (k_X9_burnsLeft_9 hl (by omega) (MW.th p0) ((f (18 + f 1)).toNat) (by first | omega | (dsimp only; omega)) (by first | omega | (dsimp only; omega)) ?_)
  refine J.iload_n 1 dX9_burnsLeft_33 rfl rfl ?_
  exact I.iretI dX9_burnsLeft_34 rfl (gBurns_fold hw.2.2.1) rfl
