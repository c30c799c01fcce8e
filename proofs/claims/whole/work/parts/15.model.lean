set_option maxHeartbeats 1000000 in
theorem c_X9_get {Γ : jE} (hl : Γ.1.stackTraces = false) {s : Nat → Int → Int} {ε : jEps} {d : Nat} {k : Int} {f : Int → Int} (hd : 0 ≤ d) (p0 : MV s f) (p1 : 0 ≤ k ∧ k < 232) : Con Γ (d, 0, 0) mX9_get [.ref 137, .int (iI k)] (jmem s ε) (RI (f k) (s) ε) X0 := by
  refine Con.ofJ (by decide +kernel) (by simp [Value.category]) (Nat.le_of_ble_eq_true rfl) ?_ hl
  have ha := MV.at p0
  refine J.aload_n 0 dX9_get_0 rfl rfl ?_
  refine I.getR dX9_get_1 jcls fX9_7 rfl (by decide) rfl rfl ?_
  refine J.aload_n 0 dX9_get_4 rfl rfl ?_
  refine I.gI 2 rfl dX9_get_5 jcls fX9_43 rfl (by decide) rfl ?_
  refine J.iload_n 1 dX9_get_8 rfl rfl ?_
  refine I.add dX9_get_9 ?_
  refine I.iald dX9_get_10 rfl (by omega) (by omega) ?_
  refine I.sx (p0.2 k p1.1 p1.2) ?_
  exact I.iretI dX9_get_11 rfl (by first | rfl | omega) rfl
set_option maxHeartbeats 1000000 in
theorem c_X9_isPlayer {Γ : jE} (hl : Γ.1.stackTraces = false) {s : Nat → Int → Int} {ε : jEps} {d : Nat} {p : Int} (hd : 0 ≤ d) (p0 : -2147483648 ≤ p ∧ p < 2147483648) : Con Γ (d, 0, 0) mX9_isPlayer [.int (iI p)] (jmem s ε) (RI (bI (p = 0 ∨ p = 1)) (s) ε) X0 := by
  refine Con.ofJ (by decide +kernel) (by simp [Value.category]) (Nat.le_of_ble_eq_true rfl) ?_ hl
  refine J.iload_n 0 dX9_isPlayer_0 rfl rfl ?_
  refine I.if_eq 9 dX9_isPlayer_1 (by decide) (by omega) (fun h1 => ?_) (fun h1 => ?_)
  · skip
    refine I.iconst dX9_isPlayer_9 ?_
    refine J.goto 14 dX9_isPlayer_10 (by decide) ?_
    exact I.zretI dX9_isPlayer_14 rfl (by first | exact Or.inl rfl | exact Or.inr rfl | exact bI_01 _ | omega) (by first | exact (bI_t (by omega)).symm | exact (bI_f (by omega)).symm | rfl) rfl
  · skip
    refine J.iload_n 0 dX9_isPlayer_4 rfl rfl ?_
    refine I.iconst dX9_isPlayer_5 ?_
    refine I.icmp_ne 13 dX9_isPlayer_6 (by decide) (by omega) (by omega) (fun h6 => ?_) (fun h6 => ?_)
    · skip
      refine I.iconst dX9_isPlayer_13 ?_
      exact I.zretI dX9_isPlayer_14 rfl (by first | exact Or.inl rfl | exact Or.inr rfl | exact bI_01 _ | omega) (by first | exact (bI_t (by omega)).symm | exact (bI_f (by omega)).symm | rfl) rfl
    · skip
      refine I.iconst dX9_isPlayer_9 ?_
      refine J.goto 14 dX9_isPlayer_10 (by decide) ?_
      exact I.zretI dX9_isPlayer_14 rfl (by first | exact Or.inl rfl | exact Or.inr rfl | exact bI_01 _ | omega) (by first | exact (bI_t (by omega)).symm | exact (bI_f (by omega)).symm | rfl) rfl
set_option maxHeartbeats 1000000 in
theorem c_X9_tilePlace {Γ : jE} (hl : Γ.1.stackTraces = false) {s : Nat → Int → Int} {ε : jEps} {d : Nat} {r : Int} {c : Int} {t : Int} (hd : 0 ≤ d) : Con Γ (d, 0, 0) mX9_tilePlace [.int (iI r), .int (iI c), .int (iI t)] (jmem s ε) (RI (40 + 8 * (3 * r + c) + t) (s) ε) X0 := by
  refine Con.ofJ (by decide +kernel) (by simp [Value.category]) (Nat.le_of_ble_eq_true rfl) ?_ hl
  refine I.bipush dX9_tilePlace_0 (by decide) ?_
  refine I.bipush dX9_tilePlace_2 (by decide) ?_
  refine I.iconst dX9_tilePlace_4 ?_
  refine J.iload_n 0 dX9_tilePlace_5 rfl rfl ?_
  refine I.mul dX9_tilePlace_6 ?_
  refine J.iload_n 1 dX9_tilePlace_7 rfl rfl ?_
  refine I.add dX9_tilePlace_8 ?_
  refine I.mul dX9_tilePlace_9 ?_
  refine I.add dX9_tilePlace_10 ?_
  refine J.iload_n 2 dX9_tilePlace_11 rfl rfl ?_
  refine I.add dX9_tilePlace_12 ?_
  exact I.iretI dX9_tilePlace_13 rfl (by first | rfl | omega) rfl
set_option maxHeartbeats 1000000 in
theorem c_X9_isDouble {Γ : jE} (hl : Γ.1.stackTraces = false) {s : Nat → Int → Int} {ε : jEps} {d : Nat} {t : Int} (hd : 0 ≤ d) (p0 : 0 ≤ t ∧ t < 2147483648) : Con Γ (d, 0, 0) mX9_isDouble [.int (iI t)] (jmem s ε) (RI (bI (t / 10 = t % 10)) (s) ε) X0 := by
  refine Con.ofJ (by decide +kernel) (by simp [Value.category]) (Nat.le_of_ble_eq_true rfl) ?_ hl
  refine J.iload_n 0 dX9_isDouble_0 rfl rfl ?_
  refine I.bipush dX9_isDouble_1 (by decide) ?_
  refine I.div dX9_isDouble_3 (by omega) (by omega) ?_
  refine J.iload_n 0 dX9_isDouble_4 rfl rfl ?_
  refine I.bipush dX9_isDouble_5 (by decide) ?_
  refine I.rem dX9_isDouble_7 (by omega) (by omega) ?_
  refine I.icmp_ne 15 dX9_isDouble_8 (by decide) (by omega) (by omega) (fun h8 => ?_) (fun h8 => ?_)
  · skip
    refine I.iconst dX9_isDouble_15 ?_
    exact I.zretI dX9_isDouble_16 rfl (by first | exact Or.inl rfl | exact Or.inr rfl | exact bI_01 _ | omega) (by first | exact (bI_t (by omega)).symm | exact (bI_f (by omega)).symm | rfl) rfl
  · skip
    refine I.iconst dX9_isDouble_11 ?_
    refine J.goto 16 dX9_isDouble_12 (by decide) ?_
    exact I.zretI dX9_isDouble_16 rfl (by first | exact Or.inl rfl | exact Or.inr rfl | exact bI_01 _ | omega) (by first | exact (bI_t (by omega)).symm | exact (bI_f (by omega)).symm | rfl) rfl
set_option maxHeartbeats 1000000 in
theorem c_X9_hasPips {Γ : jE} (hl : Γ.1.stackTraces = false) {s : Nat → Int → Int} {ε : jEps} {d : Nat} {t : Int} {p : Int} (hd : 0 ≤ d) (p0 : 0 ≤ t ∧ t < 2147483648) (p1 : 0 ≤ p ∧ p ≤ 6) : Con Γ (d, 0, 0) mX9_hasPips [.int (iI t), .int (iI p)] (jmem s ε) (RI (bI (t / 10 = p ∨ t % 10 = p)) (s) ε) X0 := by
  refine Con.ofJ (by decide +kernel) (by simp [Value.category]) (Nat.le_of_ble_eq_true rfl) ?_ hl
  refine J.iload_n 0 dX9_hasPips_0 rfl rfl ?_
  refine I.bipush dX9_hasPips_1 (by decide) ?_
  refine I.div dX9_hasPips_3 (by omega) (by omega) ?_
  refine J.iload_n 1 dX9_hasPips_4 rfl rfl ?_
  refine I.icmp_eq 16 dX9_hasPips_5 (by decide) (by omega) (by omega) (fun h5 => ?_) (fun h5 => ?_)
  · skip
    refine I.iconst dX9_hasPips_16 ?_
    refine J.goto 21 dX9_hasPips_17 (by decide) ?_
    exact I.zretI dX9_hasPips_21 rfl (by first | exact Or.inl rfl | exact Or.inr rfl | exact bI_01 _ | omega) (by first | exact (bI_t (by omega)).symm | exact (bI_f (by omega)).symm | rfl) rfl
  · skip
    refine J.iload_n 0 dX9_hasPips_8 rfl rfl ?_
    refine I.bipush dX9_hasPips_9 (by decide) ?_
    refine I.rem dX9_hasPips_11 (by omega) (by omega) ?_
    refine J.iload_n 1 dX9_hasPips_12 rfl rfl ?_
    refine I.icmp_ne 20 dX9_hasPips_13 (by decide) (by omega) (by omega) (fun h13 => ?_) (fun h13 => ?_)
    · skip
      refine I.iconst dX9_hasPips_20 ?_
      exact I.zretI dX9_hasPips_21 rfl (by first | exact Or.inl rfl | exact Or.inr rfl | exact bI_01 _ | omega) (by first | exact (bI_t (by omega)).symm | exact (bI_f (by omega)).symm | rfl) rfl
    · skip
      refine I.iconst dX9_hasPips_16 ?_
      refine J.goto 21 dX9_hasPips_17 (by decide) ?_
      exact I.zretI dX9_hasPips_21 rfl (by first | exact Or.inl rfl | exact Or.inr rfl | exact bI_01 _ | omega) (by first | exact (bI_t (by omega)).symm | exact (bI_f (by omega)).symm | rfl) rfl
set_option maxHeartbeats 1000000 in
theorem c_X9_scoreOf {Γ : jE} (hl : Γ.1.stackTraces = false) {s : Nat → Int → Int} {ε : jEps} {d : Nat} {t : Int} (hd : 1 ≤ d) (p0 : 0 ≤ t ∧ t < 2147483648) : Con Γ (d, 0, 0) mX9_scoreOf [.int (iI t)] (jmem s ε) (RI (gSc t) (s) ε) X0 := by
  refine Con.ofJ (by decide +kernel) (by simp [Value.category]) (Nat.le_of_ble_eq_true rfl) ?_ hl
  refine J.iload_n 0 dX9_scoreOf_0 rfl rfl ?_
  refine I.bipush dX9_scoreOf_1 (by decide) ?_
  refine I.div dX9_scoreOf_3 (by omega) (by omega) ?_
  refine J.iload_n 0 dX9_scoreOf_4 rfl rfl ?_
  refine I.bipush dX9_scoreOf_5 (by decide) ?_
  refine I.rem dX9_scoreOf_7 (by omega) (by omega) ?_
  refine I.add dX9_scoreOf_8 ?_
  refine J.istore_n 1 dX9_scoreOf_9 rfl (by decide) rfl ?_
  refine J.iload_n 0 dX9_scoreOf_10 rfl rfl ?_
  refine I.callS1i (d' := d - 1) (mi' := mX9_isDouble) dX9_scoreOf_11 lX9_67 eX9_isDouble rfl (c_X9_isDouble (d := d - 1) hl (by omega) (by first | omega | assumption)) (show d - 1 + 1 ≤ d from by omega) (Nat.le_of_ble_eq_true rfl) ?_
  refine I.if_eqB 23 dX9_scoreOf_14 (by decide) (fun h14 => ?_) (fun h14 => ?_)
  · skip
    refine J.iload_n 1 dX9_scoreOf_23 rfl rfl ?_
    exact I.iretI dX9_scoreOf_24 rfl (by unfold gSc; first | rw [if_pos (by assumption)] | rw [if_neg (by assumption)]) rfl
  · skip
    refine I.iconst dX9_scoreOf_17 ?_
    refine J.iload_n 1 dX9_scoreOf_18 rfl rfl ?_
    refine I.mul dX9_scoreOf_19 ?_
    refine J.goto 24 dX9_scoreOf_20 (by decide) ?_
    exact I.iretI dX9_scoreOf_24 rfl (by unfold gSc; first | rw [if_pos (by assumption)] | rw [if_neg (by assumption)]) rfl
set_option maxHeartbeats 1000000 in
theorem c_X9_chains {Γ : jE} (hl : Γ.1.stackTraces = false) {s : Nat → Int → Int} {ε : jEps} {d : Nat} {f : Int → Int} (hd : 1 ≤ d) (p0 : MW s f) : Con Γ (d, 0, 0) mX9_chains [.ref 137] (jmem s ε) (RI (f (18 + f 1)) (s) ε) X0 := by
  refine Con.ofJ (by decide +kernel) (by simp [Value.category]) (Nat.le_of_ble_eq_true rfl) ?_ hl
  have hw := MW.w p0
  refine J.aload_n 0 dX9_chains_0 rfl rfl ?_
  refine I.bipush dX9_chains_1 (by decide) ?_
  refine J.aload_n 0 dX9_chains_3 rfl rfl ?_
  refine I.iconst dX9_chains_4 ?_
  refine I.callV1i (d' := d - 1) (mi' := mX9_get) dX9_chains_5 lX9_46 eX9_get rfl rfl (c_X9_get (d := d - 1) hl (by omega) (by first | assumption | exact MW.m (by assumption) | exact MV.th (by assumption) | exact MW.m (MW.th (by assumption))) (by first | omega | assumption)) (show d - 1 + 1 ≤ d from by omega) (Nat.le_of_ble_eq_true rfl) ?_
  refine I.add dX9_chains_8 ?_
  refine I.callV1i (d' := d - 1) (mi' := mX9_get) dX9_chains_9 lX9_46 eX9_get rfl rfl (c_X9_get (d := d - 1) hl (by omega) (by first | assumption | exact MW.m (by assumption) | exact MV.th (by assumption) | exact MW.m (MW.th (by assumption))) (by first | omega | assumption)) (show d - 1 + 1 ≤ d from by omega) (Nat.le_of_ble_eq_true rfl) ?_
  exact I.iretI dX9_chains_12 rfl (by first | rfl | omega) rfl
set_option maxHeartbeats 1000000 in
theorem c_X9_isChain {Γ : jE} (hl : Γ.1.stackTraces = false) {s : Nat → Int → Int} {ε : jEps} {d : Nat} {c : Int} {f : Int → Int} (hd : 2 ≤ d) (p0 : MW s f) (p1 : -2147483648 ≤ c ∧ c < 2147483648) : Con Γ (d, 0, 0) mX9_isChain [.ref 137, .int (iI c)] (jmem s ε) (RI (bI (0 ≤ c ∧ c < f (18 + f 1))) (s) ε) X0 := by
  refine Con.ofJ (by decide +kernel) (by simp [Value.category]) (Nat.le_of_ble_eq_true rfl) ?_ hl
  have hw := MW.w p0
  refine J.iload_n 1 dX9_isChain_0 rfl rfl ?_
  refine I.if_lt 16 dX9_isChain_1 (by decide) (by omega) (fun h1 => ?_) (fun h1 => ?_)
  · skip
    refine I.iconst dX9_isChain_16 ?_
    exact I.zretI dX9_isChain_17 rfl (by first | exact Or.inl rfl | exact Or.inr rfl | exact bI_01 _ | omega) (by first | exact (bI_t (by omega)).symm | exact (bI_f (by omega)).symm | rfl) rfl
  · skip
    refine J.iload_n 1 dX9_isChain_4 rfl rfl ?_
    refine J.aload_n 0 dX9_isChain_5 rfl rfl ?_
    refine I.callV0i (d' := d - 1) (mi' := mX9_chains) dX9_isChain_6 lX9_59 eX9_chains rfl rfl (c_X9_chains (d := d - 1) hl (by omega) (by first | assumption | exact MW.th (by assumption))) (show d - 1 + 1 ≤ d from by omega) (Nat.le_of_ble_eq_true rfl) ?_
    refine I.icmp_ge 16 dX9_isChain_9 (by decide) (by omega) (by omega) (fun h9 => ?_) (fun h9 => ?_)
    · skip
      refine I.iconst dX9_isChain_16 ?_
      exact I.zretI dX9_isChain_17 rfl (by first | exact Or.inl rfl | exact Or.inr rfl | exact bI_01 _ | omega) (by first | exact (bI_t (by omega)).symm | exact (bI_f (by omega)).symm | rfl) rfl
    · skip
      refine I.iconst dX9_isChain_12 ?_
      refine J.goto 17 dX9_isChain_13 (by decide) ?_
      exact I.zretI dX9_isChain_17 rfl (by first | exact Or.inl rfl | exact Or.inr rfl | exact bI_01 _ | omega) (by first | exact (bI_t (by omega)).symm | exact (bI_f (by omega)).symm | rfl) rfl
set_option maxHeartbeats 1000000 in
theorem c_X9_isRound {Γ : jE} (hl : Γ.1.stackTraces = false) {s : Nat → Int → Int} {ε : jEps} {d : Nat} {r : Int} {f : Int → Int} (hd : 1 ≤ d) (p0 : MW s f) (p1 : -2147483648 ≤ r ∧ r < 2147483648) : Con Γ (d, 0, 0) mX9_isRound [.ref 137, .int (iI r)] (jmem s ε) (RI (bI (0 ≤ r ∧ r < f 0)) (s) ε) X0 := by
  refine Con.ofJ (by decide +kernel) (by simp [Value.category]) (Nat.le_of_ble_eq_true rfl) ?_ hl
  have hw := MW.w p0
  refine J.iload_n 1 dX9_isRound_0 rfl rfl ?_
  refine I.if_lt 17 dX9_isRound_1 (by decide) (by omega) (fun h1 => ?_) (fun h1 => ?_)
  · skip
    refine I.iconst dX9_isRound_17 ?_
    exact I.zretI dX9_isRound_18 rfl (by first | exact Or.inl rfl | exact Or.inr rfl | exact bI_01 _ | omega) (by first | exact (bI_t (by omega)).symm | exact (bI_f (by omega)).symm | rfl) rfl
  · skip
    refine J.iload_n 1 dX9_isRound_4 rfl rfl ?_
    refine J.aload_n 0 dX9_isRound_5 rfl rfl ?_
    refine I.iconst dX9_isRound_6 ?_
    refine I.callV1i (d' := d - 1) (mi' := mX9_get) dX9_isRound_7 lX9_46 eX9_get rfl rfl (c_X9_get (d := d - 1) hl (by omega) (by first | assumption | exact MW.m (by assumption) | exact MV.th (by assumption) | exact MW.m (MW.th (by assumption))) (by first | omega | assumption)) (show d - 1 + 1 ≤ d from by omega) (Nat.le_of_ble_eq_true rfl) ?_
    refine I.icmp_ge 17 dX9_isRound_10 (by decide) (by omega) (by omega) (fun h10 => ?_) (fun h10 => ?_)
    · skip
      refine I.iconst dX9_isRound_17 ?_
      exact I.zretI dX9_isRound_18 rfl (by first | exact Or.inl rfl | exact Or.inr rfl | exact bI_01 _ | omega) (by first | exact (bI_t (by omega)).symm | exact (bI_f (by omega)).symm | rfl) rfl
    · skip
      refine I.iconst dX9_isRound_13 ?_
      refine J.goto 18 dX9_isRound_14 (by decide) ?_
      exact I.zretI dX9_isRound_18 rfl (by first | exact Or.inl rfl | exact Or.inr rfl | exact bI_01 _ | omega) (by first | exact (bI_t (by omega)).symm | exact (bI_f (by omega)).symm | rfl) rfl
set_option maxHeartbeats 1000000 in
theorem c_X9_lengthOf {Γ : jE} (hl : Γ.1.stackTraces = false) {s : Nat → Int → Int} {ε : jEps} {d : Nat} {c : Int} {f : Int → Int} (hd : 1 ≤ d) (p0 : MW s f) (p1 : 0 ≤ c ∧ c < f (18 + f 1)) : Con Γ (d, 0, 0) mX9_lengthOf [.ref 137, .int (iI c)] (jmem s ε) (RI (f (37 + c) - f (34 + c) + 1) (s) ε) X0 := by
  refine Con.ofJ (by decide +kernel) (by simp [Value.category]) (Nat.le_of_ble_eq_true rfl) ?_ hl
  have hw := MW.w p0
  have e := MW.e p0 c p1.1 p1.2
  refine J.aload_n 0 dX9_lengthOf_0 rfl rfl ?_
  refine I.bipush dX9_lengthOf_1 (by decide) ?_
  refine J.iload_n 1 dX9_lengthOf_3 rfl rfl ?_
  refine I.add dX9_lengthOf_4 ?_
  refine I.callV1i (d' := d - 1) (mi' := mX9_get) dX9_lengthOf_5 lX9_46 eX9_get rfl rfl (c_X9_get (d := d - 1) hl (by omega) (by first | assumption | exact MW.m (by assumption) | exact MV.th (by assumption) | exact MW.m (MW.th (by assumption))) (by first | omega | assumption)) (show d - 1 + 1 ≤ d from by omega) (Nat.le_of_ble_eq_true rfl) ?_
  refine J.aload_n 0 dX9_lengthOf_8 rfl rfl ?_
  refine I.bipush dX9_lengthOf_9 (by decide) ?_
  refine J.iload_n 1 dX9_lengthOf_11 rfl rfl ?_
  refine I.add dX9_lengthOf_12 ?_
  refine I.callV1i (d' := d - 1) (mi' := mX9_get) dX9_lengthOf_13 lX9_46 eX9_get rfl rfl (c_X9_get (d := d - 1) hl (by omega) (by first | assumption | exact MW.m (by assumption) | exact MV.th (by assumption) | exact MW.m (MW.th (by assumption))) (by first | omega | assumption)) (show d - 1 + 1 ≤ d from by omega) (Nat.le_of_ble_eq_true rfl) ?_
  refine I.sub dX9_lengthOf_16 ?_
  refine I.iconst dX9_lengthOf_17 ?_
  refine I.add dX9_lengthOf_18 ?_
  exact I.iretI dX9_lengthOf_19 rfl (by first | rfl | omega) rfl
set_option maxHeartbeats 1000000 in
theorem c_X9_laid {Γ : jE} (hl : Γ.1.stackTraces = false) {s : Nat → Int → Int} {ε : jEps} {d : Nat} {c : Int} {p : Int} {f : Int → Int} (hd : 1 ≤ d) (p0 : MW s f) (p1 : 0 ≤ c ∧ c < f (18 + f 1)) (p2 : 0 ≤ p ∧ p < 8) : Con Γ (d, 0, 0) mX9_laid [.ref 137, .int (iI c), .int (iI p)] (jmem s ε) (RI (f (40 + 8 * (3 * f 1 + c) + p)) (s) ε) X0 := by
  refine Con.ofJ (by decide +kernel) (by simp [Value.category]) (Nat.le_of_ble_eq_true rfl) ?_ hl
  have hw := MW.w p0
  have e := MW.e p0 c p1.1 p1.2
  refine J.aload_n 0 dX9_laid_0 rfl rfl ?_
  refine J.aload_n 0 dX9_laid_1 rfl rfl ?_
  refine I.iconst dX9_laid_2 ?_
  refine I.callV1i (d' := d - 1) (mi' := mX9_get) dX9_laid_3 lX9_46 eX9_get rfl rfl (c_X9_get (d := d - 1) hl (by omega) (by first | assumption | exact MW.m (by assumption) | exact MV.th (by assumption) | exact MW.m (MW.th (by assumption))) (by first | omega | assumption)) (show d - 1 + 1 ≤ d from by omega) (Nat.le_of_ble_eq_true rfl) ?_
  refine J.iload_n 1 dX9_laid_6 rfl rfl ?_
  refine J.iload_n 2 dX9_laid_7 rfl rfl ?_
  refine I.callS3i (d' := d - 1) (mi' := mX9_tilePlace) dX9_laid_8 lX9_63 eX9_tilePlace rfl (c_X9_tilePlace (d := d - 1) hl (by omega) ) (show d - 1 + 1 ≤ d from by omega) (Nat.le_of_ble_eq_true rfl) ?_
  refine I.callV1i (d' := d - 1) (mi' := mX9_get) dX9_laid_11 lX9_46 eX9_get rfl rfl (c_X9_get (d := d - 1) hl (by omega) (by first | assumption | exact MW.m (by assumption) | exact MV.th (by assumption) | exact MW.m (MW.th (by assumption))) (by first | omega | assumption)) (show d - 1 + 1 ≤ d from by omega) (Nat.le_of_ble_eq_true rfl) ?_
  exact I.iretI dX9_laid_14 rfl (by first | rfl | omega) rfl
set_option maxHeartbeats 1000000 in
theorem c_X9_isBurnable {Γ : jE} (hl : Γ.1.stackTraces = false) {s : Nat → Int → Int} {ε : jEps} {d : Nat} {c : Int} {f : Int → Int} (hd : 2 ≤ d) (p0 : MW s f) (p1 : 0 ≤ c ∧ c < f (18 + f 1)) : Con Γ (d, 0, 0) mX9_isBurnable [.ref 137, .int (iI c)] (jmem s ε) (RI (bI (1 < f (37 + c) - f (34 + c) + 1)) (s) ε) X0 := by
  refine Con.ofJ (by decide +kernel) (by simp [Value.category]) (Nat.le_of_ble_eq_true rfl) ?_ hl
  have hw := MW.w p0
  have e := MW.e p0 c p1.1 p1.2
  refine J.aload_n 0 dX9_isBurnable_0 rfl rfl ?_
  refine J.iload_n 1 dX9_isBurnable_1 rfl rfl ?_
  refine I.callV1i (d' := d - 1) (mi' := mX9_lengthOf) dX9_isBurnable_2 lX9_71 eX9_lengthOf rfl rfl (c_X9_lengthOf (d := d - 1) hl (by omega) (by first | assumption | exact MW.th (by assumption)) (by first | omega | assumption)) (show d - 1 + 1 ≤ d from by omega) (Nat.le_of_ble_eq_true rfl) ?_
  refine I.iconst dX9_isBurnable_5 ?_
  refine I.icmp_le 13 dX9_isBurnable_6 (by decide) (by omega) (by omega) (fun h6 => ?_) (fun h6 => ?_)
  · skip
    refine I.iconst dX9_isBurnable_13 ?_
    exact I.zretI dX9_isBurnable_14 rfl (by first | exact Or.inl rfl | exact Or.inr rfl | exact bI_01 _ | omega) (by first | exact (bI_t (by omega)).symm | exact (bI_f (by omega)).symm | rfl) rfl
  · skip
    refine I.iconst dX9_isBurnable_9 ?_
    refine J.goto 14 dX9_isBurnable_10 (by decide) ?_
    exact I.zretI dX9_isBurnable_14 rfl (by first | exact Or.inl rfl | exact Or.inr rfl | exact bI_01 _ | omega) (by first | exact (bI_t (by omega)).symm | exact (bI_f (by omega)).symm | rfl) rfl
set_option maxHeartbeats 1000000 in
theorem c_X9_scoreAt {Γ : jE} (hl : Γ.1.stackTraces = false) {s : Nat → Int → Int} {ε : jEps} {d : Nat} {c : Int} {p : Int} {f : Int → Int} (hd : 2 ≤ d) (p0 : MW s f) (p1 : 0 ≤ c ∧ c < f (18 + f 1)) (p2 : 0 ≤ p ∧ p < f (22 + 3 * f 1 + c)) : Con Γ (d, 0, 0) mX9_scoreAt [.ref 137, .int (iI c), .int (iI p)] (jmem s ε) (RI (gSc (f (40 + 8 * (3 * f 1 + c) + p))) (s) ε) X0 := by
  refine Con.ofJ (by decide +kernel) (by simp [Value.category]) (Nat.le_of_ble_eq_true rfl) ?_ hl
  have hw := MW.w p0
  have e := MW.e p0 c p1.1 p1.2
  have ht := p0.l.tile (f 1) c p hw.1.1 hw.1.2 p1.1 p1.2 p2.1 p2.2
  refine J.aload_n 0 dX9_scoreAt_0 rfl rfl ?_
  refine J.iload_n 1 dX9_scoreAt_1 rfl rfl ?_
  refine J.iload_n 2 dX9_scoreAt_2 rfl rfl ?_
  refine I.callV2i (d' := d - 1) (mi' := mX9_laid) dX9_scoreAt_3 lX9_74 eX9_laid rfl rfl (c_X9_laid (d := d - 1) hl (by omega) (by first | assumption | exact MW.th (by assumption)) (by first | omega | assumption) (by first | omega | assumption)) (show d - 1 + 1 ≤ d from by omega) (Nat.le_of_ble_eq_true rfl) ?_
  refine I.callS1i (d' := d - 1) (mi' := mX9_scoreOf) dX9_scoreAt_6 lX9_78 eX9_scoreOf rfl (c_X9_scoreOf (d := d - 1) hl (by omega) (by first | omega | assumption)) (show d - 1 + 1 ≤ d from by omega) (Nat.le_of_ble_eq_true rfl) ?_
  exact I.iretI dX9_scoreAt_9 rfl (by first | rfl | omega) rfl
set_option maxHeartbeats 1000000 in
theorem k_X9_areShort_2 {Γ : jE} (hl : Γ.1.stackTraces = false) {s : Nat → Int → Int} {ε : jEps} {d : Nat} {f : Int → Int} (hd : 3 ≤ d) (p0 : MW s f) : ∀ (k : Nat) {c : Int} (q0 : ((k : Nat) : Int) = f (18 + f 1) - c) (q1 : 0 ≤ c) (q2 : ∀ x, 0 ≤ x → x < c → f (37 + x) - f (34 + x) + 1 ≤ 1), J Γ (d, 0, 0) mX9_areShort 2 [some (.ref 137), some (.int (iI (c)))] [] (jmem s ε) (RI (bI (gShort f)) (s) ε) X0 := by
  have hw := MW.w p0
  have ee := MW.e p0
  intro k
  induction k with
  | zero =>
    intro c q0 q1 q2
    refine J.iload_n 1 dX9_areShort_2 rfl rfl ?_
    refine J.aload_n 0 dX9_areShort_3 rfl rfl ?_
    refine I.callV0i (d' := d - 1) (mi' := mX9_chains) dX9_areShort_4 lX9_59 eX9_chains rfl rfl (c_X9_chains (d := d - 1) hl (by omega) (by first | assumption | exact MW.th (by assumption))) (show d - 1 + 1 ≤ d from by omega) (Nat.le_of_ble_eq_true rfl) ?_
    refine I.icmp_ge 26 dX9_areShort_7 (by decide) (by omega) (by omega) (fun h7 => ?_) (fun h7 => ?_)
    · skip
      refine I.iconst dX9_areShort_26 ?_
      exact I.zretI dX9_areShort_27 rfl (by first | exact Or.inl rfl | exact Or.inr rfl | exact bI_01 _ | omega) (bI_t (fun x a b => q2 x a (by omega))).symm rfl
    · exact absurd h7 (by omega)
  | succ k ih =>
    intro c q0 q1 q2
    refine J.iload_n 1 dX9_areShort_2 rfl rfl ?_
    refine J.aload_n 0 dX9_areShort_3 rfl rfl ?_
    refine I.callV0i (d' := d - 1) (mi' := mX9_chains) dX9_areShort_4 lX9_59 eX9_chains rfl rfl (c_X9_chains (d := d - 1) hl (by omega) (by first | assumption | exact MW.th (by assumption))) (show d - 1 + 1 ≤ d from by omega) (Nat.le_of_ble_eq_true rfl) ?_
    refine I.icmp_ge 26 dX9_areShort_7 (by decide) (by omega) (by omega) (fun h7 => ?_) (fun h7 => ?_)
    · exact absurd h7 (by omega)
    · skip
      have e := ee c (by omega) (by omega)
      refine J.aload_n 0 dX9_areShort_10 rfl rfl ?_
      refine J.iload_n 1 dX9_areShort_11 rfl rfl ?_
      refine I.callV1i (d' := d - 1) (mi' := mX9_isBurnable) dX9_areShort_12 lX9_81 eX9_isBurnable rfl rfl (c_X9_isBurnable (d := d - 1) hl (by omega) (by first | assumption | exact MW.th (by assumption)) (by first | omega | assumption)) (show d - 1 + 1 ≤ d from by omega) (Nat.le_of_ble_eq_true rfl) ?_
      refine I.if_eqB 20 dX9_areShort_15 (by decide) (fun h15 => ?_) (fun h15 => ?_)
      · skip
        refine I.iinc dX9_areShort_20 rfl rfl ?_
        refine J.goto 2 dX9_areShort_23 (by decide) ?_
        exact J.fgt (by exact ⟨Or.inr rfl, Or.inr rfl, trivial⟩) (ih (by omega) (by omega) (fun x a b => by by_cases g : x < c; exact q2 x a g; have e9 : x = c := (by omega); rw [e9]; omega))
      · skip
        refine I.iconst dX9_areShort_18 ?_
        exact I.zretI dX9_areShort_19 rfl (by first | exact Or.inl rfl | exact Or.inr rfl | exact bI_01 _ | omega) (bI_f (fun h => by have := h c (by omega) (by omega); omega)).symm rfl
set_option maxHeartbeats 1000000 in
theorem c_X9_areShort {Γ : jE} (hl : Γ.1.stackTraces = false) {s : Nat → Int → Int} {ε : jEps} {d : Nat} {f : Int → Int} (hd : 3 ≤ d) (p0 : MW s f) : Con Γ (d, 0, 0) mX9_areShort [.ref 137] (jmem s ε) (RI (bI (gShort f)) (s) ε) X0 := by
  refine Con.ofJ (by decide +kernel) (by simp [Value.category]) (Nat.le_of_ble_eq_true rfl) ?_ hl
  have hw := MW.w p0
  have ee := MW.e p0
  refine I.iconst dX9_areShort_0 ?_
  refine J.istore_n 1 dX9_areShort_1 rfl (by decide) rfl ?_
  exact J.fgt (by exact ⟨Or.inr rfl, Or.inr rfl, trivial⟩) (k_X9_areShort_2 hl (by omega) p0 ((f (18 + f 1)).toNat) (by omega) (by omega) (fun x a b => by omega))
set_option maxHeartbeats 1000000 in
theorem c_X9_isOver {Γ : jE} (hl : Γ.1.stackTraces = false) {s : Nat → Int → Int} {ε : jEps} {d : Nat} {f : Int → Int} (hd : 4 ≤ d) (p0 : MW s f) : Con Γ (d, 0, 0) mX9_isOver [.ref 137] (jmem s ε) (RI (bI (gOver f)) (s) ε) X0 := by
  refine Con.ofJ (by decide +kernel) (by simp [Value.category]) (Nat.le_of_ble_eq_true rfl) ?_ hl
  have hw := MW.w p0
  refine J.aload_n 0 dX9_isOver_0 rfl rfl ?_
  refine I.iconst dX9_isOver_1 ?_
  refine I.callV1i (d' := d - 1) (mi' := mX9_get) dX9_isOver_2 lX9_46 eX9_get rfl rfl (c_X9_get (d := d - 1) hl (by omega) (by first | assumption | exact MW.m (by assumption) | exact MV.th (by assumption) | exact MW.m (MW.th (by assumption))) (by first | omega | assumption)) (show d - 1 + 1 ≤ d from by omega) (Nat.le_of_ble_eq_true rfl) ?_
  refine I.iconst dX9_isOver_5 ?_
  refine I.icmp_eq 16 dX9_isOver_6 (by decide) (by omega) (by omega) (fun h6 => ?_) (fun h6 => ?_)
  · skip
    refine I.iconst dX9_isOver_16 ?_
    refine J.goto 21 dX9_isOver_17 (by decide) ?_
    exact I.zretI dX9_isOver_21 rfl (by first | exact Or.inl rfl | exact Or.inr rfl | exact bI_01 _ | omega) (by first | exact (bI_t (Or.inl (by assumption))).symm | exact (bI_t (Or.inr (by assumption))).symm | exact (bI_f (by rintro (g | g) <;> contradiction)).symm) rfl
  · skip
    refine J.aload_n 0 dX9_isOver_9 rfl rfl ?_
    refine I.callV0i (d' := d - 1) (mi' := mX9_areShort) dX9_isOver_10 lX9_84 eX9_areShort rfl rfl (c_X9_areShort (d := d - 1) hl (by omega) (by first | assumption | exact MW.th (by assumption))) (show d - 1 + 1 ≤ d from by omega) (Nat.le_of_ble_eq_true rfl) ?_
    refine I.if_eqB 20 dX9_isOver_13 (by decide) (fun h13 => ?_) (fun h13 => ?_)
    · skip
      refine I.iconst dX9_isOver_20 ?_
      exact I.zretI dX9_isOver_21 rfl (by first | exact Or.inl rfl | exact Or.inr rfl | exact bI_01 _ | omega) (by first | exact (bI_t (Or.inl (by assumption))).symm | exact (bI_t (Or.inr (by assumption))).symm | exact (bI_f (by rintro (g | g) <;> contradiction)).symm) rfl
    · skip
      refine I.iconst dX9_isOver_16 ?_
      refine J.goto 21 dX9_isOver_17 (by decide) ?_
      exact I.zretI dX9_isOver_21 rfl (by first | exact Or.inl rfl | exact Or.inr rfl | exact bI_01 _ | omega) (by first | exact (bI_t (Or.inl (by assumption))).symm | exact (bI_t (Or.inr (by assumption))).symm | exact (bI_f (by rintro (g | g) <;> contradiction)).symm) rfl
set_option maxHeartbeats 1000000 in
theorem k_X9_moves_13 {Γ : jE} (hl : Γ.1.stackTraces = false) {s : Nat → Int → Int} {ε : jEps} {d : Nat} {f : Int → Int} (hd : 5 ≤ d) (p0 : MW s f) {mc ms : Nat} {P : Option Value → jM → Prop} {X : String → jM → Prop} : ∀ (k : Nat) {c a : Int} (q0 : ((k : Nat) : Int) = f (18 + f 1) - c) (q1 : 0 ≤ c) (kx : J Γ (d, mc, ms) mX9_moves 38 [some (.ref 137), some (.int (iI (gMvn f k c a))), none] [] (jmem s ε) P X), J Γ (d, mc, ms) mX9_moves 13 [some (.ref 137), some (.int (iI (a))), some (.int (iI (c)))] [] (jmem s ε) P X := by
  have hw := MW.w p0
  have ee := MW.e p0
  intro k
  induction k with
  | zero =>
    intro c a q0 q1 kx
    refine J.iload_n 2 dX9_moves_13 rfl rfl ?_
    refine J.aload_n 0 dX9_moves_14 rfl rfl ?_
    refine I.callV0i (d' := d - 1) (mi' := mX9_chains) dX9_moves_15 lX9_59 eX9_chains rfl rfl (c_X9_chains (d := d - 1) hl (by omega) (by first | assumption | exact MW.th (by assumption))) (show d - 1 + 1 ≤ d from by omega) (Nat.le_of_ble_eq_true rfl) ?_
    refine I.icmp_ge 38 dX9_moves_18 (by decide) (by omega) (by omega) (fun h18 => ?_) (fun h18 => ?_)
    · skip
      exact J.fgt (by exact ⟨Or.inr rfl, Or.inr rfl, Or.inl rfl, trivial⟩) kx
    · exact absurd h18 (by omega)
  | succ k ih =>
    intro c a q0 q1 kx
    refine J.iload_n 2 dX9_moves_13 rfl rfl ?_
    refine J.aload_n 0 dX9_moves_14 rfl rfl ?_
    refine I.callV0i (d' := d - 1) (mi' := mX9_chains) dX9_moves_15 lX9_59 eX9_chains rfl rfl (c_X9_chains (d := d - 1) hl (by omega) (by first | assumption | exact MW.th (by assumption))) (show d - 1 + 1 ≤ d from by omega) (Nat.le_of_ble_eq_true rfl) ?_
    refine I.icmp_ge 38 dX9_moves_18 (by decide) (by omega) (by omega) (fun h18 => ?_) (fun h18 => ?_)
    · exact absurd h18 (by omega)
    · skip
      have e := ee c (by omega) (by omega)
      refine J.aload_n 0 dX9_moves_21 rfl rfl ?_
      refine J.iload_n 2 dX9_moves_22 rfl rfl ?_
      refine I.callV1i (d' := d - 1) (mi' := mX9_isBurnable) dX9_moves_23 lX9_81 eX9_isBurnable rfl rfl (c_X9_isBurnable (d := d - 1) hl (by omega) (by first | assumption | exact MW.th (by assumption)) (by first | omega | assumption)) (show d - 1 + 1 ≤ d from by omega) (Nat.le_of_ble_eq_true rfl) ?_
      refine I.if_eqB 32 dX9_moves_26 (by decide) (fun h26 => ?_) (fun h26 => ?_)
      · skip
        have e2 : (if 1 < f (37 + c) - f (34 + c) + 1 then a + 2 else a) = a := if_neg (by assumption)
        refine I.iinc dX9_moves_32 rfl rfl ?_
        refine J.goto 13 dX9_moves_35 (by decide) ?_
        exact J.fgt (by exact ⟨Or.inr rfl, Or.inr rfl, Or.inr rfl, trivial⟩) (ih (by first | omega | (dsimp only; omega)) (by first | omega | (dsimp only; omega)) (by unfold gMvn at kx; rw [foldF_s] at kx; rw [e2] at kx; exact kx))
      · skip
        have e2 : (if 1 < f (37 + c) - f (34 + c) + 1 then a + 2 else a) = a + 2 := if_pos (by assumption)
        refine I.iinc dX9_moves_29 rfl rfl ?_
        refine I.iinc dX9_moves_32 rfl rfl ?_
        refine J.goto 13 dX9_moves_35 (by decide) ?_
        exact J.fgt (by exact ⟨Or.inr rfl, Or.inr rfl, Or.inr rfl, trivial⟩) (ih (by first | omega | (dsimp only; omega)) (by first | omega | (dsimp only; omega)) (by unfold gMvn at kx; rw [foldF_s] at kx; rw [e2] at kx; exact kx))
set_option maxHeartbeats 1000000 in
theorem c_X9_moves {Γ : jE} (hl : Γ.1.stackTraces = false) {s : Nat → Int → Int} {ε : jEps} {d : Nat} {f : Int → Int} (hd : 5 ≤ d) (p0 : MW s f) : Con Γ (d, 0, 0) mX9_moves [.ref 137] (jmem s ε) (RI (gMoves f) (s) ε) X0 := by
  refine Con.ofJ (by decide +kernel) (by simp [Value.category]) (Nat.le_of_ble_eq_true rfl) ?_ hl
  have hw := MW.w p0
  have ee := MW.e p0
  refine J.aload_n 0 dX9_moves_0 rfl rfl ?_
  refine I.callV0i (d' := d - 1) (mi' := mX9_isOver) dX9_moves_1 lX9_88 eX9_isOver rfl rfl (c_X9_isOver (d := d - 1) hl (by omega) (by first | assumption | exact MW.th (by assumption))) (show d - 1 + 1 ≤ d from by omega) (Nat.le_of_ble_eq_true rfl) ?_
  refine I.if_eqB 9 dX9_moves_4 (by decide) (fun h4 => ?_) (fun h4 => ?_)
  · skip
    refine I.iconst dX9_moves_9 ?_
    refine J.istore_n 1 dX9_moves_10 rfl (by decide) rfl ?_
    refine I.iconst dX9_moves_11 ?_
    refine J.istore_n 2 dX9_moves_12 rfl (by decide) rfl ?_
    refine J.fgt (by exact ⟨Or.inr rfl, Or.inr rfl, Or.inr rfl, trivial⟩) (k_X9_moves_13 hl (by omega) p0 ((f (18 + f 1)).toNat) (by first | omega | (dsimp only; omega)) (by first | omega | (dsimp only; omega)) ?_)
    refine J.iload_n 1 dX9_moves_38 rfl rfl ?_
    exact I.iretI dX9_moves_39 rfl (gMoves_not h4).symm rfl
  · skip
    refine I.iconst dX9_moves_7 ?_
    exact I.iretI dX9_moves_8 rfl (gMoves_over h4).symm rfl
set_option maxHeartbeats 1000000 in
theorem k_X9_moveAt_4 {Γ : jE} (hl : Γ.1.stackTraces = false) {s : Nat → Int → Int} {ε : jEps} {d : Nat} {i : Int} {f : Int → Int} (hd : 3 ≤ d) (p0 : MW s f) (p1 : 0 ≤ i ∧ i < 2147483648) : ∀ (k : Nat) {c z : Int} (q0 : ((k : Nat) : Int) = f (18 + f 1) - c) (q1 : 0 ≤ c) (q2 : 0 ≤ z ∧ z < 2147483648), J Γ (d, 0, 0) mX9_moveAt 4 [some (.ref 137), some (.int (iI i)), some (.int (iI (z))), some (.int (iI (c)))] [] (jmem s ε) (RI (gMv f k c z) (s) ε) X0 := by
  have hw := MW.w p0
  have ee := MW.e p0
  intro k
  induction k with
  | zero =>
    intro c z q0 q1 q2
    refine J.iload_n 3 dX9_moveAt_4 rfl rfl ?_
    refine J.aload_n 0 dX9_moveAt_5 rfl rfl ?_
    refine I.callV0i (d' := d - 1) (mi' := mX9_chains) dX9_moveAt_6 lX9_59 eX9_chains rfl rfl (c_X9_chains (d := d - 1) hl (by omega) (by first | assumption | exact MW.th (by assumption))) (show d - 1 + 1 ≤ d from by omega) (Nat.le_of_ble_eq_true rfl) ?_
    refine I.icmp_ge 43 dX9_moveAt_9 (by decide) (by omega) (by omega) (fun h9 => ?_) (fun h9 => ?_)
    · skip
      refine I.bipush dX9_moveAt_43 (by decide) ?_
      exact I.iretI dX9_moveAt_45 rfl rfl rfl
    · exact absurd h9 (by omega)
  | succ k ih =>
    intro c z q0 q1 q2
    refine J.iload_n 3 dX9_moveAt_4 rfl rfl ?_
    refine J.aload_n 0 dX9_moveAt_5 rfl rfl ?_
    refine I.callV0i (d' := d - 1) (mi' := mX9_chains) dX9_moveAt_6 lX9_59 eX9_chains rfl rfl (c_X9_chains (d := d - 1) hl (by omega) (by first | assumption | exact MW.th (by assumption))) (show d - 1 + 1 ≤ d from by omega) (Nat.le_of_ble_eq_true rfl) ?_
    refine I.icmp_ge 43 dX9_moveAt_9 (by decide) (by omega) (by omega) (fun h9 => ?_) (fun h9 => ?_)
    · exact absurd h9 (by omega)
    · skip
      have e := ee c (by omega) (by omega)
      refine J.aload_n 0 dX9_moveAt_12 rfl rfl ?_
      refine J.iload_n 3 dX9_moveAt_13 rfl rfl ?_
      refine I.callV1i (d' := d - 1) (mi' := mX9_isBurnable) dX9_moveAt_14 lX9_81 eX9_isBurnable rfl rfl (c_X9_isBurnable (d := d - 1) hl (by omega) (by first | assumption | exact MW.th (by assumption)) (by first | omega | assumption)) (show d - 1 + 1 ≤ d from by omega) (Nat.le_of_ble_eq_true rfl) ?_
      refine I.if_neB 23 dX9_moveAt_17 (by decide) (fun h17 => ?_) (fun h17 => ?_)
      · skip
        refine J.iload_n 2 dX9_moveAt_23 rfl rfl ?_
        refine I.iconst dX9_moveAt_24 ?_
        refine I.icmp_ge 34 dX9_moveAt_25 (by decide) (by omega) (by omega) (fun h25 => ?_) (fun h25 => ?_)
        · skip
          refine I.iinc dX9_moveAt_34 rfl rfl ?_
          refine I.iinc dX9_moveAt_37 rfl rfl ?_
          refine J.goto 4 dX9_moveAt_40 (by decide) ?_
          exact J.fgt (by exact ⟨Or.inr rfl, Or.inr rfl, Or.inr rfl, Or.inr rfl, trivial⟩) (J.postI (by first | exact (gMv_s3 (by assumption)).symm | exact (gMv_s1 (by assumption) (by omega)).symm) (ih (by first | omega | (dsimp only; omega)) (by first | omega | (dsimp only; omega)) (by first | omega | (dsimp only; omega))))
        · skip
          refine I.iconst dX9_moveAt_28 ?_
          refine J.iload_n 3 dX9_moveAt_29 rfl rfl ?_
          refine I.mul dX9_moveAt_30 ?_
          refine J.iload_n 2 dX9_moveAt_31 rfl rfl ?_
          refine I.add dX9_moveAt_32 ?_
          exact I.iretI dX9_moveAt_33 rfl (gMv_s2 (by assumption) (by omega)).symm rfl
      · skip
        refine J.goto 37 dX9_moveAt_20 (by decide) ?_
        refine I.iinc dX9_moveAt_37 rfl rfl ?_
        refine J.goto 4 dX9_moveAt_40 (by decide) ?_
        exact J.fgt (by exact ⟨Or.inr rfl, Or.inr rfl, Or.inr rfl, Or.inr rfl, trivial⟩) (J.postI (by first | exact (gMv_s3 (by assumption)).symm | exact (gMv_s1 (by assumption) (by omega)).symm) (ih (by first | omega | (dsimp only; omega)) (by first | omega | (dsimp only; omega)) (by first | omega | (dsimp only; omega))))
set_option maxHeartbeats 1000000 in
theorem c_X9_moveAt {Γ : jE} (hl : Γ.1.stackTraces = false) {s : Nat → Int → Int} {ε : jEps} {d : Nat} {i : Int} {f : Int → Int} (hd : 3 ≤ d) (p0 : MW s f) (p1 : 0 ≤ i ∧ i < 2147483648) : Con Γ (d, 0, 0) mX9_moveAt [.ref 137, .int (iI i)] (jmem s ε) (RI (gMvAt f i) (s) ε) X0 := by
  refine Con.ofJ (by decide +kernel) (by simp [Value.category]) (Nat.le_of_ble_eq_true rfl) ?_ hl
  have hw := MW.w p0
  have ee := MW.e p0
  refine J.iload_n 1 dX9_moveAt_0 rfl rfl ?_
  refine J.istore_n 2 dX9_moveAt_1 rfl (by decide) rfl ?_
  refine I.iconst dX9_moveAt_2 ?_
  refine J.istore_n 3 dX9_moveAt_3 rfl (by decide) rfl ?_
  exact J.fgt (by exact ⟨Or.inr rfl, Or.inr rfl, Or.inr rfl, Or.inr rfl, trivial⟩) (k_X9_moveAt_4 hl (by omega) p0 p1 ((f (18 + f 1)).toNat) (by first | omega | (dsimp only; omega)) (by first | omega | (dsimp only; omega)) (by first | omega | (dsimp only; omega)))
set_option maxHeartbeats 1000000 in
theorem c_X9_scoreOfMove {Γ : jE} (hl : Γ.1.stackTraces = false) {s : Nat → Int → Int} {ε : jEps} {d : Nat} {z : Int} {f : Int → Int} (hd : 3 ≤ d) (p0 : MW s f) (p1 : gOk f z) : Con Γ (d, 0, 0) mX9_scoreOfMove [.ref 137, .int (iI z)] (jmem s ε) (RI (gPt f z) (s) ε) X0 := by
  refine Con.ofJ (by decide +kernel) (by simp [Value.category]) (Nat.le_of_ble_eq_true rfl) ?_ hl
  have hw := MW.w p0
  have hz := gLegal_rng hw.2.2.1 p1
  refine J.iload_n 1 dX9_scoreOfMove_0 rfl rfl ?_
  refine I.bipush dX9_scoreOfMove_1 (by decide) ?_
  refine I.icmp_ne 8 dX9_scoreOfMove_3 (by decide) (by omega) (by omega) (fun h3 => ?_) (fun h3 => ?_)
  · skip
    have hz2 : 0 ≤ z ∧ z / 2 < f (18 + f 1) := by rcases p1 with h | h; omega; exact h
    have e := MW.e p0 (z / 2) (by omega) (by omega)
    refine J.iload_n 1 dX9_scoreOfMove_8 rfl rfl ?_
    refine I.iconst dX9_scoreOfMove_9 ?_
    refine I.div dX9_scoreOfMove_10 (by omega) (by omega) ?_
    refine J.istore_n 2 dX9_scoreOfMove_11 rfl (by decide) rfl ?_
    refine J.aload_n 0 dX9_scoreOfMove_12 rfl rfl ?_
    refine J.iload_n 2 dX9_scoreOfMove_13 rfl rfl ?_
    refine J.aload_n 0 dX9_scoreOfMove_14 rfl rfl ?_
    refine J.iload_n 1 dX9_scoreOfMove_15 rfl rfl ?_
    refine I.iconst dX9_scoreOfMove_16 ?_
    refine I.rem dX9_scoreOfMove_17 (by omega) (by omega) ?_
    refine I.if_ne 26 dX9_scoreOfMove_18 (by decide) (by omega) (fun h18 => ?_) (fun h18 => ?_)
    · skip
      refine I.bipush dX9_scoreOfMove_26 (by decide) ?_
      refine J.iload_n 2 dX9_scoreOfMove_28 rfl rfl ?_
      refine I.add dX9_scoreOfMove_29 ?_
      refine I.callV1i (d' := d - 1) (mi' := mX9_get) dX9_scoreOfMove_30 lX9_46 eX9_get rfl rfl (c_X9_get (d := d - 1) hl (by omega) (by first | assumption | exact MW.m (by assumption) | exact MV.th (by assumption) | exact MW.m (MW.th (by assumption))) (by first | omega | assumption)) (show d - 1 + 1 ≤ d from by omega) (Nat.le_of_ble_eq_true rfl) ?_
      refine I.callV2i (d' := d - 1) (mi' := mX9_scoreAt) dX9_scoreOfMove_33 lX9_91 eX9_scoreAt rfl rfl (c_X9_scoreAt (d := d - 1) hl (by omega) (by first | assumption | exact MW.th (by assumption)) (by first | omega | assumption) (by first | omega | assumption)) (show d - 1 + 1 ≤ d from by omega) (Nat.le_of_ble_eq_true rfl) ?_
      exact I.iretI dX9_scoreOfMove_36 rfl (by first | exact (gPt_l (by omega) (by omega)).symm | exact (gPt_r (by omega) (by omega)).symm) rfl
    · skip
      refine I.bipush dX9_scoreOfMove_21 (by decide) ?_
      refine J.goto 28 dX9_scoreOfMove_23 (by decide) ?_
      refine J.iload_n 2 dX9_scoreOfMove_28 rfl rfl ?_
      refine I.add dX9_scoreOfMove_29 ?_
      refine I.callV1i (d' := d - 1) (mi' := mX9_get) dX9_scoreOfMove_30 lX9_46 eX9_get rfl rfl (c_X9_get (d := d - 1) hl (by omega) (by first | assumption | exact MW.m (by assumption) | exact MV.th (by assumption) | exact MW.m (MW.th (by assumption))) (by first | omega | assumption)) (show d - 1 + 1 ≤ d from by omega) (Nat.le_of_ble_eq_true rfl) ?_
      refine I.callV2i (d' := d - 1) (mi' := mX9_scoreAt) dX9_scoreOfMove_33 lX9_91 eX9_scoreAt rfl rfl (c_X9_scoreAt (d := d - 1) hl (by omega) (by first | assumption | exact MW.th (by assumption)) (by first | omega | assumption) (by first | omega | assumption)) (show d - 1 + 1 ≤ d from by omega) (Nat.le_of_ble_eq_true rfl) ?_
      exact I.iretI dX9_scoreOfMove_36 rfl (by first | exact (gPt_l (by omega) (by omega)).symm | exact (gPt_r (by omega) (by omega)).symm) rfl
  · skip
    refine I.iconst dX9_scoreOfMove_6 ?_
    exact I.iretI dX9_scoreOfMove_7 rfl (by rw [show z = 6 from by omega, gPt_6]) rfl
set_option maxHeartbeats 1000000 in
theorem k_X9_greedy_4 {Γ : jE} (hl : Γ.1.stackTraces = false) {s : Nat → Int → Int} {ε : jEps} {d : Nat} {f : Int → Int} (hd : 4 ≤ d) (p0 : MW s f) {mc ms : Nat} {P : Option Value → jM → Prop} {X : String → jM → Prop} : ∀ (k : Nat) {z b : Int} (q0 : ((k : Nat) : Int) = 2 * f (18 + f 1) - z) (q1 : 0 ≤ z) (q2 : b = -1 ∨ gOk f b ∧ b ≠ 6) (kx : J Γ (d, mc, ms) mX9_greedy 53 [some (.ref 137), some (.int (iI (foldF (fun z b => if 1 < f (37 + z / 2) - f (34 + z / 2) + 1 then (if b = -1 ∨ gPt f b < gPt f z then z else b) else b) k z b))), none] [] (jmem s ε) P X), J Γ (d, mc, ms) mX9_greedy 4 [some (.ref 137), some (.int (iI (b))), some (.int (iI (z)))] [] (jmem s ε) P X := by
  have hw := MW.w p0
  intro k
  induction k with
  | zero =>
    intro z b q0 q1 q2 kx
    refine J.iload_n 2 dX9_greedy_4 rfl rfl ?_
    refine I.iconst dX9_greedy_5 ?_
    refine J.aload_n 0 dX9_greedy_6 rfl rfl ?_
    refine I.callV0i (d' := d - 1) (mi' := mX9_chains) dX9_greedy_7 lX9_59 eX9_chains rfl rfl (c_X9_chains (d := d - 1) hl (by omega) (by first | assumption | exact MW.th (by assumption))) (show d - 1 + 1 ≤ d from by omega) (Nat.le_of_ble_eq_true rfl) ?_
    refine I.mul dX9_greedy_10 ?_
    refine I.icmp_ge 53 dX9_greedy_11 (by decide) (by omega) (by omega) (fun h11 => ?_) (fun h11 => ?_)
    · skip
      exact J.fgt (by exact ⟨Or.inr rfl, Or.inr rfl, Or.inl rfl, trivial⟩) kx
    · exact absurd h11 (by omega)
  | succ k ih =>
    intro z b q0 q1 q2 kx
    refine J.iload_n 2 dX9_greedy_4 rfl rfl ?_
    refine I.iconst dX9_greedy_5 ?_
    refine J.aload_n 0 dX9_greedy_6 rfl rfl ?_
    refine I.callV0i (d' := d - 1) (mi' := mX9_chains) dX9_greedy_7 lX9_59 eX9_chains rfl rfl (c_X9_chains (d := d - 1) hl (by omega) (by first | assumption | exact MW.th (by assumption))) (show d - 1 + 1 ≤ d from by omega) (Nat.le_of_ble_eq_true rfl) ?_
    refine I.mul dX9_greedy_10 ?_
    refine I.icmp_ge 53 dX9_greedy_11 (by decide) (by omega) (by omega) (fun h11 => ?_) (fun h11 => ?_)
    · exact absurd h11 (by omega)
    · skip
      have ok : gOk f z := Or.inr ⟨by omega, by omega⟩
      have pz := gPt_rng p0.l p0.v ok
      have ob : -1 ≤ b ∧ b ≤ 6 := by rcases q2 with h | h; omega; have := gLegal_rng hw.2.2.1 h.1; omega
      refine J.aload_n 0 dX9_greedy_14 rfl rfl ?_
      refine J.iload_n 2 dX9_greedy_15 rfl rfl ?_
      refine I.iconst dX9_greedy_16 ?_
      refine I.div dX9_greedy_17 (by omega) (by omega) ?_
      refine I.callV1i (d' := d - 1) (mi' := mX9_isBurnable) dX9_greedy_18 lX9_81 eX9_isBurnable rfl rfl (c_X9_isBurnable (d := d - 1) hl (by omega) (by first | assumption | exact MW.th (by assumption)) (by first | omega | assumption)) (show d - 1 + 1 ≤ d from by omega) (Nat.le_of_ble_eq_true rfl) ?_
      refine I.if_neB 27 dX9_greedy_21 (by decide) (fun h21 => ?_) (fun h21 => ?_)
      · skip
        refine J.iload_n 1 dX9_greedy_27 rfl rfl ?_
        refine I.iconst dX9_greedy_28 ?_
        refine I.icmp_eq 45 dX9_greedy_29 (by decide) (by omega) (by omega) (fun h29 => ?_) (fun h29 => ?_)
        · skip
          have ec : (if b = -1 ∨ gPt f b < gPt f z then z else b) = z := if_pos (Or.inl h29)
          refine J.iload_n 2 dX9_greedy_45 rfl rfl ?_
          refine J.istore_n 1 dX9_greedy_46 rfl (by decide) rfl ?_
          refine I.iinc dX9_greedy_47 rfl rfl ?_
          refine J.goto 4 dX9_greedy_50 (by decide) ?_
          exact J.fgt (by exact ⟨Or.inr rfl, Or.inr rfl, Or.inr rfl, trivial⟩) (ih (by omega) (by omega) (by first | exact q2 | exact Or.inr ⟨ok, by omega⟩) (by rw [foldF_s] at kx; (first | rw [if_pos h21] at kx | rw [if_neg h21] at kx); first | (rw [ec] at kx; exact kx) | exact kx))
        · skip
          have okb : gOk f b := by rcases q2 with h | h; exact absurd h h29; exact h.1
          have pb := gPt_rng p0.l p0.v okb
          refine J.aload_n 0 dX9_greedy_32 rfl rfl ?_
          refine J.iload_n 2 dX9_greedy_33 rfl rfl ?_
          refine I.callV1i (d' := d - 1) (mi' := mX9_scoreOfMove) dX9_greedy_34 lX9_94 eX9_scoreOfMove rfl rfl (c_X9_scoreOfMove (d := d - 1) hl (by omega) (by first | assumption | exact MW.th (by assumption)) ok) (show d - 1 + 1 ≤ d from by omega) (Nat.le_of_ble_eq_true rfl) ?_
          refine J.aload_n 0 dX9_greedy_37 rfl rfl ?_
          refine J.iload_n 1 dX9_greedy_38 rfl rfl ?_
          refine I.callV1i (d' := d - 1) (mi' := mX9_scoreOfMove) dX9_greedy_39 lX9_94 eX9_scoreOfMove rfl rfl (c_X9_scoreOfMove (d := d - 1) hl (by omega) (by first | assumption | exact MW.th (by assumption)) okb) (show d - 1 + 1 ≤ d from by omega) (Nat.le_of_ble_eq_true rfl) ?_
          refine I.icmp_le 47 dX9_greedy_42 (by decide) (by omega) (by omega) (fun h42 => ?_) (fun h42 => ?_)
          · skip
            have ec : (if b = -1 ∨ gPt f b < gPt f z then z else b) = b := if_neg (by rintro (g | g); exact h29 g; omega)
            refine I.iinc dX9_greedy_47 rfl rfl ?_
            refine J.goto 4 dX9_greedy_50 (by decide) ?_
            exact J.fgt (by exact ⟨Or.inr rfl, Or.inr rfl, Or.inr rfl, trivial⟩) (ih (by omega) (by omega) (by first | exact q2 | exact Or.inr ⟨ok, by omega⟩) (by rw [foldF_s] at kx; (first | rw [if_pos h21] at kx | rw [if_neg h21] at kx); first | (rw [ec] at kx; exact kx) | exact kx))
          · skip
            have ec : (if b = -1 ∨ gPt f b < gPt f z then z else b) = z := if_pos (Or.inr h42)
            refine J.iload_n 2 dX9_greedy_45 rfl rfl ?_
            refine J.istore_n 1 dX9_greedy_46 rfl (by decide) rfl ?_
            refine I.iinc dX9_greedy_47 rfl rfl ?_
            refine J.goto 4 dX9_greedy_50 (by decide) ?_
            exact J.fgt (by exact ⟨Or.inr rfl, Or.inr rfl, Or.inr rfl, trivial⟩) (ih (by omega) (by omega) (by first | exact q2 | exact Or.inr ⟨ok, by omega⟩) (by rw [foldF_s] at kx; (first | rw [if_pos h21] at kx | rw [if_neg h21] at kx); first | (rw [ec] at kx; exact kx) | exact kx))
      · skip
        refine J.goto 47 dX9_greedy_24 (by decide) ?_
        refine I.iinc dX9_greedy_47 rfl rfl ?_
        refine J.goto 4 dX9_greedy_50 (by decide) ?_
        exact J.fgt (by exact ⟨Or.inr rfl, Or.inr rfl, Or.inr rfl, trivial⟩) (ih (by omega) (by omega) (by first | exact q2 | exact Or.inr ⟨ok, by omega⟩) (by rw [foldF_s] at kx; (first | rw [if_pos h21] at kx | rw [if_neg h21] at kx); first | (rw [ec] at kx; exact kx) | exact kx))
set_option maxHeartbeats 1000000 in
theorem c_X9_greedy {Γ : jE} (hl : Γ.1.stackTraces = false) {s : Nat → Int → Int} {ε : jEps} {d : Nat} {f : Int → Int} (hd : 4 ≤ d) (p0 : MW s f) : Con Γ (d, 0, 0) mX9_greedy [.ref 137] (jmem s ε) (RI (gGr f) (s) ε) X0 := by
  refine Con.ofJ (by decide +kernel) (by simp [Value.category]) (Nat.le_of_ble_eq_true rfl) ?_ hl
  have hw := MW.w p0
  refine I.iconst dX9_greedy_0 ?_
  refine J.istore_n 1 dX9_greedy_1 rfl (by decide) rfl ?_
  refine I.iconst dX9_greedy_2 ?_
  refine J.istore_n 2 dX9_greedy_3 rfl (by decide) rfl ?_
  refine J.fgt (by exact ⟨Or.inr rfl, Or.inr rfl, Or.inr rfl, trivial⟩) (k_X9_greedy_4 hl (by omega) p0 ((2 * f (18 + f 1)).toNat) (by omega) (by omega) (Or.inl rfl) ?_)
  refine J.iload_n 1 dX9_greedy_53 rfl rfl ?_
  exact I.iretI dX9_greedy_54 rfl (by first | rfl | omega) rfl
set_option maxHeartbeats 1000000 in
theorem c_X9_scoreIn {Γ : jE} (hl : Γ.1.stackTraces = false) {s : Nat → Int → Int} {ε : jEps} {d : Nat} {r : Int} {p : Int} {f : Int → Int} (hd : 1 ≤ d) (p0 : MW s f) (p1 : 0 ≤ r ∧ r < 4) (p2 : 0 ≤ p ∧ p ≤ 1) : Con Γ (d, 0, 0) mX9_scoreIn [.ref 137, .int (iI r), .int (iI p)] (jmem s ε) (RI (f (6 + 2 * r + p)) (s) ε) X0 := by
  refine Con.ofJ (by decide +kernel) (by simp [Value.category]) (Nat.le_of_ble_eq_true rfl) ?_ hl
  have hw := MW.w p0
  refine J.aload_n 0 dX9_scoreIn_0 rfl rfl ?_
  refine I.bipush dX9_scoreIn_1 (by decide) ?_
  refine I.iconst dX9_scoreIn_3 ?_
  refine J.iload_n 1 dX9_scoreIn_4 rfl rfl ?_
  refine I.mul dX9_scoreIn_5 ?_
  refine I.add dX9_scoreIn_6 ?_
  refine J.iload_n 2 dX9_scoreIn_7 rfl rfl ?_
  refine I.add dX9_scoreIn_8 ?_
  refine I.callV1i (d' := d - 1) (mi' := mX9_get) dX9_scoreIn_9 lX9_46 eX9_get rfl rfl (c_X9_get (d := d - 1) hl (by omega) (by first | assumption | exact MW.m (by assumption) | exact MV.th (by assumption) | exact MW.m (MW.th (by assumption))) (by first | omega | assumption)) (show d - 1 + 1 ≤ d from by omega) (Nat.le_of_ble_eq_true rfl) ?_
  exact I.iretI dX9_scoreIn_12 rfl (by first | rfl | omega) rfl
set_option maxHeartbeats 1000000 in
theorem c_X9_scoreNow {Γ : jE} (hl : Γ.1.stackTraces = false) {s : Nat → Int → Int} {ε : jEps} {d : Nat} {p : Int} {f : Int → Int} (hd : 2 ≤ d) (p0 : MW s f) (p1 : 0 ≤ p ∧ p ≤ 1) : Con Γ (d, 0, 0) mX9_scoreNow [.ref 137, .int (iI p)] (jmem s ε) (RI (f (6 + 2 * f 1 + p)) (s) ε) X0 := by
  refine Con.ofJ (by decide +kernel) (by simp [Value.category]) (Nat.le_of_ble_eq_true rfl) ?_ hl
  have hw := MW.w p0
  refine J.aload_n 0 dX9_scoreNow_0 rfl rfl ?_
  refine J.aload_n 0 dX9_scoreNow_1 rfl rfl ?_
  refine I.iconst dX9_scoreNow_2 ?_
  refine I.callV1i (d' := d - 1) (mi' := mX9_get) dX9_scoreNow_3 lX9_46 eX9_get rfl rfl (c_X9_get (d := d - 1) hl (by omega) (by first | assumption | exact MW.m (by assumption) | exact MV.th (by assumption) | exact MW.m (MW.th (by assumption))) (by first | omega | assumption)) (show d - 1 + 1 ≤ d from by omega) (Nat.le_of_ble_eq_true rfl) ?_
  refine J.iload_n 1 dX9_scoreNow_6 rfl rfl ?_
  refine I.callV2i (d' := d - 1) (mi' := mX9_scoreIn) dX9_scoreNow_7 lX9_235 eX9_scoreIn rfl rfl (c_X9_scoreIn (d := d - 1) hl (by omega) (by first | assumption | exact MW.th (by assumption)) (by first | omega | assumption) (by first | omega | assumption)) (show d - 1 + 1 ≤ d from by omega) (Nat.le_of_ble_eq_true rfl) ?_
  exact I.iretI dX9_scoreNow_10 rfl (by first | rfl | omega) rfl
set_option maxHeartbeats 1000000 in
theorem k_X9_totalOf_4 {Γ : jE} (hl : Γ.1.stackTraces = false) {s : Nat → Int → Int} {ε : jEps} {d : Nat} {p : Int} {f : Int → Int} (hd : 2 ≤ d) (p0 : MW s f) (p1 : 0 ≤ p ∧ p ≤ 1) {mc ms : Nat} {P : Option Value → jM → Prop} {X : String → jM → Prop} : ∀ (k : Nat) {r a : Int} (q0 : ((k : Nat) : Int) = f 0 - r) (q1 : 0 ≤ r) (kx : J Γ (d, mc, ms) mX9_totalOf 28 [some (.ref 137), some (.int (iI p)), some (.int (iI (foldF (fun r a => a + f (6 + 2 * r + p)) k r a))), none] [] (jmem s ε) P X), J Γ (d, mc, ms) mX9_totalOf 4 [some (.ref 137), some (.int (iI p)), some (.int (iI (a))), some (.int (iI (r)))] [] (jmem s ε) P X := by
  have hw := MW.w p0
  intro k
  induction k with
  | zero =>
    intro r a q0 q1 kx
    refine J.iload_n 3 dX9_totalOf_4 rfl rfl ?_
    refine J.aload_n 0 dX9_totalOf_5 rfl rfl ?_
    refine I.iconst dX9_totalOf_6 ?_
    refine I.callV1i (d' := d - 1) (mi' := mX9_get) dX9_totalOf_7 lX9_46 eX9_get rfl rfl (c_X9_get (d := d - 1) hl (by omega) (by first | assumption | exact MW.m (by assumption) | exact MV.th (by assumption) | exact MW.m (MW.th (by assumption))) (by first | omega | assumption)) (show d - 1 + 1 ≤ d from by omega) (Nat.le_of_ble_eq_true rfl) ?_
    refine I.icmp_ge 28 dX9_totalOf_10 (by decide) (by omega) (by omega) (fun h10 => ?_) (fun h10 => ?_)
    · skip
      exact J.fgt (by exact ⟨Or.inr rfl, Or.inr rfl, Or.inr rfl, Or.inl rfl, trivial⟩) kx
    · exact absurd h10 (by omega)
  | succ k ih =>
    intro r a q0 q1 kx
    refine J.iload_n 3 dX9_totalOf_4 rfl rfl ?_
    refine J.aload_n 0 dX9_totalOf_5 rfl rfl ?_
    refine I.iconst dX9_totalOf_6 ?_
    refine I.callV1i (d' := d - 1) (mi' := mX9_get) dX9_totalOf_7 lX9_46 eX9_get rfl rfl (c_X9_get (d := d - 1) hl (by omega) (by first | assumption | exact MW.m (by assumption) | exact MV.th (by assumption) | exact MW.m (MW.th (by assumption))) (by first | omega | assumption)) (show d - 1 + 1 ≤ d from by omega) (Nat.le_of_ble_eq_true rfl) ?_
    refine I.icmp_ge 28 dX9_totalOf_10 (by decide) (by omega) (by omega) (fun h10 => ?_) (fun h10 => ?_)
    · exact absurd h10 (by omega)
    · skip
      refine J.iload_n 2 dX9_totalOf_13 rfl rfl ?_
      refine J.aload_n 0 dX9_totalOf_14 rfl rfl ?_
      refine J.iload_n 3 dX9_totalOf_15 rfl rfl ?_
      refine J.iload_n 1 dX9_totalOf_16 rfl rfl ?_
      refine I.callV2i (d' := d - 1) (mi' := mX9_scoreIn) dX9_totalOf_17 lX9_235 eX9_scoreIn rfl rfl (c_X9_scoreIn (d := d - 1) hl (by omega) (by first | assumption | exact MW.th (by assumption)) (by first | omega | assumption) (by first | omega | assumption)) (show d - 1 + 1 ≤ d from by omega) (Nat.le_of_ble_eq_true rfl) ?_
      refine I.add dX9_totalOf_20 ?_
      refine J.istore_n 2 dX9_totalOf_21 rfl (by decide) rfl ?_
      refine I.iinc dX9_totalOf_22 rfl rfl ?_
      refine J.goto 4 dX9_totalOf_25 (by decide) ?_
      exact J.fgt (by exact ⟨Or.inr rfl, Or.inr rfl, Or.inr rfl, Or.inr rfl, trivial⟩) (ih (by first | omega | (dsimp only; omega)) (by first | omega | (dsimp only; omega)) kx)
set_option maxHeartbeats 1000000 in
theorem c_X9_totalOf {Γ : jE} (hl : Γ.1.stackTraces = false) {s : Nat → Int → Int} {ε : jEps} {d : Nat} {p : Int} {f : Int → Int} (hd : 2 ≤ d) (p0 : MW s f) (p1 : 0 ≤ p ∧ p ≤ 1) : Con Γ (d, 0, 0) mX9_totalOf [.ref 137, .int (iI p)] (jmem s ε) (RI (gTot f p) (s) ε) X0 := by
  refine Con.ofJ (by decide +kernel) (by simp [Value.category]) (Nat.le_of_ble_eq_true rfl) ?_ hl
  have hw := MW.w p0
  refine I.iconst dX9_totalOf_0 ?_
  refine J.istore_n 2 dX9_totalOf_1 rfl (by decide) rfl ?_
  refine I.iconst dX9_totalOf_2 ?_
  refine J.istore_n 3 dX9_totalOf_3 rfl (by decide) rfl ?_
  refine J.fgt (by exact ⟨Or.inr rfl, Or.inr rfl, Or.inr rfl, Or.inr rfl, trivial⟩) (k_X9_totalOf_4 hl (by omega) p0 p1 ((f 0).toNat) (by first | omega | (dsimp only; omega)) (by first | omega | (dsimp only; omega)) ?_)
  refine J.iload_n 2 dX9_totalOf_28 rfl rfl ?_
  exact I.iretI dX9_totalOf_29 rfl (by first | rfl | omega) rfl
set_option maxHeartbeats 1000000 in
theorem c_X9_winnerOf {Γ : jE} (hl : Γ.1.stackTraces = false) {s : Nat → Int → Int} {ε : jEps} {d : Nat} {r : Int} {f : Int → Int} (hd : 5 ≤ d) (p0 : MW s f) (p1 : 0 ≤ r ∧ r < f 0) : Con Γ (d, 0, 0) mX9_winnerOf [.ref 137, .int (iI r)] (jmem s ε) (RI (gWin f r) (s) ε) X0 := by
  refine Con.ofJ (by decide +kernel) (by simp [Value.category]) (Nat.le_of_ble_eq_true rfl) ?_ hl
  have hw := MW.w p0
  have r0 := FS.sr p0.l p0.v r 0 (by omega) (by omega) (by omega) (by omega)
  have r1 := FS.sr p0.l p0.v r 1 (by omega) (by omega) (by omega) (by omega)
  refine J.iload_n 1 dX9_winnerOf_0 rfl rfl ?_
  refine J.aload_n 0 dX9_winnerOf_1 rfl rfl ?_
  refine I.iconst dX9_winnerOf_2 ?_
  refine I.callV1i (d' := d - 1) (mi' := mX9_get) dX9_winnerOf_3 lX9_46 eX9_get rfl rfl (c_X9_get (d := d - 1) hl (by omega) (by first | assumption | exact MW.m (by assumption) | exact MV.th (by assumption) | exact MW.m (MW.th (by assumption))) (by first | omega | assumption)) (show d - 1 + 1 ≤ d from by omega) (Nat.le_of_ble_eq_true rfl) ?_
  refine I.icmp_lt 25 dX9_winnerOf_6 (by decide) (by omega) (by omega) (fun h6 => ?_) (fun h6 => ?_)
  · skip
    have hb : bI (r < f 1 ∨ r = f 1 ∧ gOver f) = 1 := bI_t (Or.inl (by omega))
    refine I.iconst dX9_winnerOf_25 ?_
    refine J.goto 30 dX9_winnerOf_26 (by decide) ?_
    refine J.istore_n 2 dX9_winnerOf_30 rfl (by decide) rfl ?_
    refine J.iload_n 2 dX9_winnerOf_31 rfl rfl ?_
    refine I.if_eq 50 dX9_winnerOf_32 (by decide) (by omega) (fun h32 => ?_) (fun h32 => ?_)
    · exact absurd h32 (by omega)
    · skip
      refine J.aload_n 0 dX9_winnerOf_35 rfl rfl ?_
      refine J.iload_n 1 dX9_winnerOf_36 rfl rfl ?_
      refine I.iconst dX9_winnerOf_37 ?_
      refine I.callV2i (d' := d - 1) (mi' := mX9_scoreIn) dX9_winnerOf_38 lX9_235 eX9_scoreIn rfl rfl (c_X9_scoreIn (d := d - 1) hl (by omega) (by first | assumption | exact MW.th (by assumption)) (by first | omega | assumption) (by first | omega | assumption)) (show d - 1 + 1 ≤ d from by omega) (Nat.le_of_ble_eq_true rfl) ?_
      refine J.aload_n 0 dX9_winnerOf_41 rfl rfl ?_
      refine J.iload_n 1 dX9_winnerOf_42 rfl rfl ?_
      refine I.iconst dX9_winnerOf_43 ?_
      refine I.callV2i (d' := d - 1) (mi' := mX9_scoreIn) dX9_winnerOf_44 lX9_235 eX9_scoreIn rfl rfl (c_X9_scoreIn (d := d - 1) hl (by omega) (by first | assumption | exact MW.th (by assumption)) (by first | omega | assumption) (by first | omega | assumption)) (show d - 1 + 1 ≤ d from by omega) (Nat.le_of_ble_eq_true rfl) ?_
      refine I.icmp_ne 52 dX9_winnerOf_47 (by decide) (by omega) (by omega) (fun h47 => ?_) (fun h47 => ?_)
      · skip
        refine J.aload_n 0 dX9_winnerOf_52 rfl rfl ?_
        refine J.iload_n 1 dX9_winnerOf_53 rfl rfl ?_
        refine I.iconst dX9_winnerOf_54 ?_
        refine I.callV2i (d' := d - 1) (mi' := mX9_scoreIn) dX9_winnerOf_55 lX9_235 eX9_scoreIn rfl rfl (c_X9_scoreIn (d := d - 1) hl (by omega) (by first | assumption | exact MW.th (by assumption)) (by first | omega | assumption) (by first | omega | assumption)) (show d - 1 + 1 ≤ d from by omega) (Nat.le_of_ble_eq_true rfl) ?_
        refine J.aload_n 0 dX9_winnerOf_58 rfl rfl ?_
        refine J.iload_n 1 dX9_winnerOf_59 rfl rfl ?_
        refine I.iconst dX9_winnerOf_60 ?_
        refine I.callV2i (d' := d - 1) (mi' := mX9_scoreIn) dX9_winnerOf_61 lX9_235 eX9_scoreIn rfl rfl (c_X9_scoreIn (d := d - 1) hl (by omega) (by first | assumption | exact MW.th (by assumption)) (by first | omega | assumption) (by first | omega | assumption)) (show d - 1 + 1 ≤ d from by omega) (Nat.le_of_ble_eq_true rfl) ?_
        refine I.icmp_le 71 dX9_winnerOf_64 (by decide) (by omega) (by omega) (fun h64 => ?_) (fun h64 => ?_)
        · skip
          refine I.iconst dX9_winnerOf_71 ?_
          exact I.iretI dX9_winnerOf_72 rfl (by unfold gWin gLead; first | (rw [if_neg hb]) | (rw [if_pos hb]; omega)) rfl
        · skip
          refine I.iconst dX9_winnerOf_67 ?_
          refine J.goto 72 dX9_winnerOf_68 (by decide) ?_
          exact I.iretI dX9_winnerOf_72 rfl (by unfold gWin gLead; first | (rw [if_neg hb]) | (rw [if_pos hb]; omega)) rfl
      · skip
        refine I.iconst dX9_winnerOf_50 ?_
        exact I.iretI dX9_winnerOf_51 rfl (by unfold gWin gLead; first | (rw [if_neg hb]) | (rw [if_pos hb]; omega)) rfl
  · skip
    refine J.iload_n 1 dX9_winnerOf_9 rfl rfl ?_
    refine J.aload_n 0 dX9_winnerOf_10 rfl rfl ?_
    refine I.iconst dX9_winnerOf_11 ?_
    refine I.callV1i (d' := d - 1) (mi' := mX9_get) dX9_winnerOf_12 lX9_46 eX9_get rfl rfl (c_X9_get (d := d - 1) hl (by omega) (by first | assumption | exact MW.m (by assumption) | exact MV.th (by assumption) | exact MW.m (MW.th (by assumption))) (by first | omega | assumption)) (show d - 1 + 1 ≤ d from by omega) (Nat.le_of_ble_eq_true rfl) ?_
    refine I.icmp_ne 29 dX9_winnerOf_15 (by decide) (by omega) (by omega) (fun h15 => ?_) (fun h15 => ?_)
    · skip
      have hb : ¬ bI (r < f 1 ∨ r = f 1 ∧ gOver f) = 1 := by rw [bI_f (by omega)]; decide
      refine I.iconst dX9_winnerOf_29 ?_
      refine J.istore_n 2 dX9_winnerOf_30 rfl (by decide) rfl ?_
      refine J.iload_n 2 dX9_winnerOf_31 rfl rfl ?_
      refine I.if_eq 50 dX9_winnerOf_32 (by decide) (by omega) (fun h32 => ?_) (fun h32 => ?_)
      · skip
        refine I.iconst dX9_winnerOf_50 ?_
        exact I.iretI dX9_winnerOf_51 rfl (by unfold gWin gLead; first | (rw [if_neg hb]) | (rw [if_pos hb]; omega)) rfl
      · exact absurd h32 (by omega)
    · skip
      refine J.aload_n 0 dX9_winnerOf_18 rfl rfl ?_
      refine I.callV0i (d' := d - 1) (mi' := mX9_isOver) dX9_winnerOf_19 lX9_88 eX9_isOver rfl rfl (c_X9_isOver (d := d - 1) hl (by omega) (by first | assumption | exact MW.th (by assumption))) (show d - 1 + 1 ≤ d from by omega) (Nat.le_of_ble_eq_true rfl) ?_
      refine I.if_eqB 29 dX9_winnerOf_22 (by decide) (fun h22 => ?_) (fun h22 => ?_)
      · skip
        have hb : ¬ bI (r < f 1 ∨ r = f 1 ∧ gOver f) = 1 := by rw [bI_f (by rintro (h | h); omega; exact h22 h.2)]; decide
        refine I.iconst dX9_winnerOf_29 ?_
        refine J.istore_n 2 dX9_winnerOf_30 rfl (by decide) rfl ?_
        refine J.iload_n 2 dX9_winnerOf_31 rfl rfl ?_
        refine I.if_eq 50 dX9_winnerOf_32 (by decide) (by omega) (fun h32 => ?_) (fun h32 => ?_)
        · skip
          refine I.iconst dX9_winnerOf_50 ?_
          exact I.iretI dX9_winnerOf_51 rfl (by unfold gWin gLead; first | (rw [if_neg hb]) | (rw [if_pos hb]; omega)) rfl
        · exact absurd h32 (by omega)
      · skip
        have hb : bI (r < f 1 ∨ r = f 1 ∧ gOver f) = 1 := bI_t (Or.inr ⟨by omega, h22⟩)
        refine I.iconst dX9_winnerOf_25 ?_
        refine J.goto 30 dX9_winnerOf_26 (by decide) ?_
        refine J.istore_n 2 dX9_winnerOf_30 rfl (by decide) rfl ?_
        refine J.iload_n 2 dX9_winnerOf_31 rfl rfl ?_
        refine I.if_eq 50 dX9_winnerOf_32 (by decide) (by omega) (fun h32 => ?_) (fun h32 => ?_)
        · exact absurd h32 (by omega)
        · skip
          refine J.aload_n 0 dX9_winnerOf_35 rfl rfl ?_
          refine J.iload_n 1 dX9_winnerOf_36 rfl rfl ?_
          refine I.iconst dX9_winnerOf_37 ?_
          refine I.callV2i (d' := d - 1) (mi' := mX9_scoreIn) dX9_winnerOf_38 lX9_235 eX9_scoreIn rfl rfl (c_X9_scoreIn (d := d - 1) hl (by omega) (by first | assumption | exact MW.th (by assumption)) (by first | omega | assumption) (by first | omega | assumption)) (show d - 1 + 1 ≤ d from by omega) (Nat.le_of_ble_eq_true rfl) ?_
          refine J.aload_n 0 dX9_winnerOf_41 rfl rfl ?_
          refine J.iload_n 1 dX9_winnerOf_42 rfl rfl ?_
          refine I.iconst dX9_winnerOf_43 ?_
          refine I.callV2i (d' := d - 1) (mi' := mX9_scoreIn) dX9_winnerOf_44 lX9_235 eX9_scoreIn rfl rfl (c_X9_scoreIn (d := d - 1) hl (by omega) (by first | assumption | exact MW.th (by assumption)) (by first | omega | assumption) (by first | omega | assumption)) (show d - 1 + 1 ≤ d from by omega) (Nat.le_of_ble_eq_true rfl) ?_
          refine I.icmp_ne 52 dX9_winnerOf_47 (by decide) (by omega) (by omega) (fun h47 => ?_) (fun h47 => ?_)
          · skip
            refine J.aload_n 0 dX9_winnerOf_52 rfl rfl ?_
            refine J.iload_n 1 dX9_winnerOf_53 rfl rfl ?_
            refine I.iconst dX9_winnerOf_54 ?_
            refine I.callV2i (d' := d - 1) (mi' := mX9_scoreIn) dX9_winnerOf_55 lX9_235 eX9_scoreIn rfl rfl (c_X9_scoreIn (d := d - 1) hl (by omega) (by first | assumption | exact MW.th (by assumption)) (by first | omega | assumption) (by first | omega | assumption)) (show d - 1 + 1 ≤ d from by omega) (Nat.le_of_ble_eq_true rfl) ?_
            refine J.aload_n 0 dX9_winnerOf_58 rfl rfl ?_
            refine J.iload_n 1 dX9_winnerOf_59 rfl rfl ?_
            refine I.iconst dX9_winnerOf_60 ?_
            refine I.callV2i (d' := d - 1) (mi' := mX9_scoreIn) dX9_winnerOf_61 lX9_235 eX9_scoreIn rfl rfl (c_X9_scoreIn (d := d - 1) hl (by omega) (by first | assumption | exact MW.th (by assumption)) (by first | omega | assumption) (by first | omega | assumption)) (show d - 1 + 1 ≤ d from by omega) (Nat.le_of_ble_eq_true rfl) ?_
            refine I.icmp_le 71 dX9_winnerOf_64 (by decide) (by omega) (by omega) (fun h64 => ?_) (fun h64 => ?_)
            · skip
              refine I.iconst dX9_winnerOf_71 ?_
              exact I.iretI dX9_winnerOf_72 rfl (by unfold gWin gLead; first | (rw [if_neg hb]) | (rw [if_pos hb]; omega)) rfl
            · skip
              refine I.iconst dX9_winnerOf_67 ?_
              refine J.goto 72 dX9_winnerOf_68 (by decide) ?_
              exact I.iretI dX9_winnerOf_72 rfl (by unfold gWin gLead; first | (rw [if_neg hb]) | (rw [if_pos hb]; omega)) rfl
          · skip
            refine I.iconst dX9_winnerOf_50 ?_
            exact I.iretI dX9_winnerOf_51 rfl (by unfold gWin gLead; first | (rw [if_neg hb]) | (rw [if_pos hb]; omega)) rfl
set_option maxHeartbeats 1000000 in
theorem k_X9_wonBy_4 {Γ : jE} (hl : Γ.1.stackTraces = false) {s : Nat → Int → Int} {ε : jEps} {d : Nat} {p : Int} {f : Int → Int} (hd : 6 ≤ d) (p0 : MW s f) (p1 : 0 ≤ p ∧ p ≤ 1) {mc ms : Nat} {P : Option Value → jM → Prop} {X : String → jM → Prop} : ∀ (k : Nat) {r a : Int} (q0 : ((k : Nat) : Int) = f 0 - r) (q1 : 0 ≤ r) (kx : J Γ (d, mc, ms) mX9_wonBy 31 [some (.ref 137), some (.int (iI p)), some (.int (iI (foldF (fun r a => if gWin f r = p then a + 1 else a) k r a))), none] [] (jmem s ε) P X), J Γ (d, mc, ms) mX9_wonBy 4 [some (.ref 137), some (.int (iI p)), some (.int (iI (a))), some (.int (iI (r)))] [] (jmem s ε) P X := by
  have hw := MW.w p0
  intro k
  induction k with
  | zero =>
    intro r a q0 q1 kx
    refine J.iload_n 3 dX9_wonBy_4 rfl rfl ?_
    refine J.aload_n 0 dX9_wonBy_5 rfl rfl ?_
    refine I.iconst dX9_wonBy_6 ?_
    refine I.callV1i (d' := d - 1) (mi' := mX9_get) dX9_wonBy_7 lX9_46 eX9_get rfl rfl (c_X9_get (d := d - 1) hl (by omega) (by first | assumption | exact MW.m (by assumption) | exact MV.th (by assumption) | exact MW.m (MW.th (by assumption))) (by first | omega | assumption)) (show d - 1 + 1 ≤ d from by omega) (Nat.le_of_ble_eq_true rfl) ?_
    refine I.icmp_ge 31 dX9_wonBy_10 (by decide) (by omega) (by omega) (fun h10 => ?_) (fun h10 => ?_)
    · skip
      exact J.fgt (by exact ⟨Or.inr rfl, Or.inr rfl, Or.inr rfl, Or.inl rfl, trivial⟩) kx
    · exact absurd h10 (by omega)
  | succ k ih =>
    intro r a q0 q1 kx
    refine J.iload_n 3 dX9_wonBy_4 rfl rfl ?_
    refine J.aload_n 0 dX9_wonBy_5 rfl rfl ?_
    refine I.iconst dX9_wonBy_6 ?_
    refine I.callV1i (d' := d - 1) (mi' := mX9_get) dX9_wonBy_7 lX9_46 eX9_get rfl rfl (c_X9_get (d := d - 1) hl (by omega) (by first | assumption | exact MW.m (by assumption) | exact MV.th (by assumption) | exact MW.m (MW.th (by assumption))) (by first | omega | assumption)) (show d - 1 + 1 ≤ d from by omega) (Nat.le_of_ble_eq_true rfl) ?_
    refine I.icmp_ge 31 dX9_wonBy_10 (by decide) (by omega) (by omega) (fun h10 => ?_) (fun h10 => ?_)
    · exact absurd h10 (by omega)
    · skip
      refine J.aload_n 0 dX9_wonBy_13 rfl rfl ?_
      refine J.iload_n 3 dX9_wonBy_14 rfl rfl ?_
      refine I.callV1i (d' := d - 1) (mi' := mX9_winnerOf) dX9_wonBy_15 lX9_241 eX9_winnerOf rfl rfl (c_X9_winnerOf (d := d - 1) hl (by omega) (by first | assumption | exact MW.th (by assumption)) (by first | omega | assumption)) (show d - 1 + 1 ≤ d from by omega) (Nat.le_of_ble_eq_true rfl) ?_
      refine J.iload_n 1 dX9_wonBy_18 rfl rfl ?_
      refine I.icmp_ne 25 dX9_wonBy_19 (by decide) (gWin_rng _ _) (by omega) (fun h19 => ?_) (fun h19 => ?_)
      · skip
        have e : (if gWin f r = p then a + 1 else a) = a := if_neg h19
        refine I.iinc dX9_wonBy_25 rfl rfl ?_
        refine J.goto 4 dX9_wonBy_28 (by decide) ?_
        exact J.fgt (by exact ⟨Or.inr rfl, Or.inr rfl, Or.inr rfl, Or.inr rfl, trivial⟩) (ih (by first | omega | (dsimp only; omega)) (by first | omega | (dsimp only; omega)) (by rw [foldF_s] at kx; rw [e] at kx; exact kx))
      · skip
        have e : (if gWin f r = p then a + 1 else a) = a + 1 := if_pos h19
        refine I.iinc dX9_wonBy_22 rfl rfl ?_
        refine I.iinc dX9_wonBy_25 rfl rfl ?_
        refine J.goto 4 dX9_wonBy_28 (by decide) ?_
        exact J.fgt (by exact ⟨Or.inr rfl, Or.inr rfl, Or.inr rfl, Or.inr rfl, trivial⟩) (ih (by first | omega | (dsimp only; omega)) (by first | omega | (dsimp only; omega)) (by rw [foldF_s] at kx; rw [e] at kx; exact kx))
set_option maxHeartbeats 1000000 in
theorem c_X9_wonBy {Γ : jE} (hl : Γ.1.stackTraces = false) {s : Nat → Int → Int} {ε : jEps} {d : Nat} {p : Int} {f : Int → Int} (hd : 6 ≤ d) (p0 : MW s f) (p1 : 0 ≤ p ∧ p ≤ 1) : Con Γ (d, 0, 0) mX9_wonBy [.ref 137, .int (iI p)] (jmem s ε) (RI (gWins f p) (s) ε) X0 := by
  refine Con.ofJ (by decide +kernel) (by simp [Value.category]) (Nat.le_of_ble_eq_true rfl) ?_ hl
  have hw := MW.w p0
  refine I.iconst dX9_wonBy_0 ?_
  refine J.istore_n 2 dX9_wonBy_1 rfl (by decide) rfl ?_
  refine I.iconst dX9_wonBy_2 ?_
  refine J.istore_n 3 dX9_wonBy_3 rfl (by decide) rfl ?_
  refine J.fgt (by exact ⟨Or.inr rfl, Or.inr rfl, Or.inr rfl, Or.inr rfl, trivial⟩) (k_X9_wonBy_4 hl (by omega) p0 p1 ((f 0).toNat) (by first | omega | (dsimp only; omega)) (by first | omega | (dsimp only; omega)) ?_)
  refine J.iload_n 2 dX9_wonBy_31 rfl rfl ?_
  exact I.iretI dX9_wonBy_32 rfl (by first | rfl | omega) rfl
set_option maxHeartbeats 1000000 in
theorem c_X9_tileOf {Γ : jE} (hl : Γ.1.stackTraces = false) {s : Nat → Int → Int} {ε : jEps} {d : Nat} {c : Int} {t : Int} {f : Int → Int} (hd : 2 ≤ d) (p0 : MW s f) (p1 : 0 ≤ c ∧ c < f (18 + f 1)) (p2 : 0 ≤ t ∧ t < f (37 + c) - f (34 + c) + 1) : Con Γ (d, 0, 0) mX9_tileOf [.ref 137, .int (iI c), .int (iI t)] (jmem s ε) (RI (gT f c t) (s) ε) X0 := by
  refine Con.ofJ (by decide +kernel) (by simp [Value.category]) (Nat.le_of_ble_eq_true rfl) ?_ hl
  have hw := MW.w p0
  have e := MW.e p0 c p1.1 p1.2
  refine J.aload_n 0 dX9_tileOf_0 rfl rfl ?_
  refine J.iload_n 1 dX9_tileOf_1 rfl rfl ?_
  refine J.aload_n 0 dX9_tileOf_2 rfl rfl ?_
  refine I.bipush dX9_tileOf_3 (by decide) ?_
  refine J.iload_n 1 dX9_tileOf_5 rfl rfl ?_
  refine I.add dX9_tileOf_6 ?_
  refine I.callV1i (d' := d - 1) (mi' := mX9_get) dX9_tileOf_7 lX9_46 eX9_get rfl rfl (c_X9_get (d := d - 1) hl (by omega) (by first | assumption | exact MW.m (by assumption) | exact MV.th (by assumption) | exact MW.m (MW.th (by assumption))) (by first | omega | assumption)) (show d - 1 + 1 ≤ d from by omega) (Nat.le_of_ble_eq_true rfl) ?_
  refine J.iload_n 2 dX9_tileOf_10 rfl rfl ?_
  refine I.add dX9_tileOf_11 ?_
  refine I.callV2i (d' := d - 1) (mi' := mX9_laid) dX9_tileOf_12 lX9_74 eX9_laid rfl rfl (c_X9_laid (d := d - 1) hl (by omega) (by first | assumption | exact MW.th (by assumption)) (by first | omega | assumption) (by first | omega | assumption)) (show d - 1 + 1 ≤ d from by omega) (Nat.le_of_ble_eq_true rfl) ?_
  exact I.iretI dX9_tileOf_15 rfl (by first | rfl | omega) rfl
set_option maxHeartbeats 1000000 in
theorem c_X9_isTile {Γ : jE} (hl : Γ.1.stackTraces = false) {s : Nat → Int → Int} {ε : jEps} {d : Nat} {c : Int} {t : Int} {f : Int → Int} (hd : 3 ≤ d) (p0 : MW s f) (p1 : -2147483648 ≤ c ∧ c < 2147483648) (p2 : -2147483648 ≤ t ∧ t < 2147483648) : Con Γ (d, 0, 0) mX9_isTile [.ref 137, .int (iI c), .int (iI t)] (jmem s ε) (RI (bI ((0 ≤ c ∧ c < f (18 + f 1)) ∧ 0 ≤ t ∧ t < f (37 + c) - f (34 + c) + 1)) (s) ε) X0 := by
  refine Con.ofJ (by decide +kernel) (by simp [Value.category]) (Nat.le_of_ble_eq_true rfl) ?_ hl
  have hw := MW.w p0
  refine J.aload_n 0 dX9_isTile_0 rfl rfl ?_
  refine J.iload_n 1 dX9_isTile_1 rfl rfl ?_
  refine I.callV1i (d' := d - 1) (mi' := mX9_isChain) dX9_isTile_2 lX9_216 eX9_isChain rfl rfl (c_X9_isChain (d := d - 1) hl (by omega) (by first | assumption | exact MW.th (by assumption)) (by first | omega | assumption)) (show d - 1 + 1 ≤ d from by omega) (Nat.le_of_ble_eq_true rfl) ?_
  refine I.if_eqB 25 dX9_isTile_5 (by decide) (fun h5 => ?_) (fun h5 => ?_)
  · skip
    refine I.iconst dX9_isTile_25 ?_
    exact I.zretI dX9_isTile_26 rfl (by first | exact Or.inl rfl | exact Or.inr rfl | exact bI_01 _ | omega) (by first | exact (bI_t (by omega)).symm | exact (bI_f (by omega)).symm | rfl) rfl
  · skip
    have e := MW.e p0 c h5.1 h5.2
    refine J.iload_n 2 dX9_isTile_8 rfl rfl ?_
    refine I.if_lt 25 dX9_isTile_9 (by decide) (by omega) (fun h9 => ?_) (fun h9 => ?_)
    · skip
      refine I.iconst dX9_isTile_25 ?_
      exact I.zretI dX9_isTile_26 rfl (by first | exact Or.inl rfl | exact Or.inr rfl | exact bI_01 _ | omega) (by first | exact (bI_t (by omega)).symm | exact (bI_f (by omega)).symm | rfl) rfl
    · skip
      refine J.iload_n 2 dX9_isTile_12 rfl rfl ?_
      refine J.aload_n 0 dX9_isTile_13 rfl rfl ?_
      refine J.iload_n 1 dX9_isTile_14 rfl rfl ?_
      refine I.callV1i (d' := d - 1) (mi' := mX9_lengthOf) dX9_isTile_15 lX9_71 eX9_lengthOf rfl rfl (c_X9_lengthOf (d := d - 1) hl (by omega) (by first | assumption | exact MW.th (by assumption)) (by first | omega | assumption)) (show d - 1 + 1 ≤ d from by omega) (Nat.le_of_ble_eq_true rfl) ?_
      refine I.icmp_ge 25 dX9_isTile_18 (by decide) (by omega) (by omega) (fun h18 => ?_) (fun h18 => ?_)
      · skip
        refine I.iconst dX9_isTile_25 ?_
        exact I.zretI dX9_isTile_26 rfl (by first | exact Or.inl rfl | exact Or.inr rfl | exact bI_01 _ | omega) (by first | exact (bI_t (by omega)).symm | exact (bI_f (by omega)).symm | rfl) rfl
      · skip
        refine I.iconst dX9_isTile_21 ?_
        refine J.goto 26 dX9_isTile_22 (by decide) ?_
        exact I.zretI dX9_isTile_26 rfl (by first | exact Or.inl rfl | exact Or.inr rfl | exact bI_01 _ | omega) (by first | exact (bI_t (by omega)).symm | exact (bI_f (by omega)).symm | rfl) rfl
set_option maxHeartbeats 1000000 in
theorem k_X9_sumOf_4 {Γ : jE} (hl : Γ.1.stackTraces = false) {s : Nat → Int → Int} {ε : jEps} {d : Nat} {c : Int} {f : Int → Int} (hd : 3 ≤ d) (p0 : MW s f) (p1 : 0 ≤ c ∧ c < f (18 + f 1)) {mc ms : Nat} {P : Option Value → jM → Prop} {X : String → jM → Prop} : ∀ (k : Nat) {t a : Int} (q0 : ((k : Nat) : Int) = f (37 + c) - f (34 + c) + 1 - t) (q1 : 0 ≤ t) (kx : J Γ (d, mc, ms) mX9_sumOf 31 [some (.ref 137), some (.int (iI c)), some (.int (iI (foldF (fun t a => a + gSc (gT f c t)) k t a))), none] [] (jmem s ε) P X), J Γ (d, mc, ms) mX9_sumOf 4 [some (.ref 137), some (.int (iI c)), some (.int (iI (a))), some (.int (iI (t)))] [] (jmem s ε) P X := by
  have hw := MW.w p0
  have e := MW.e p0 c p1.1 p1.2
  have g0 := @gT_rng f p0.l p0.v c
  intro k
  induction k with
  | zero =>
    intro t a q0 q1 kx
    refine J.iload_n 3 dX9_sumOf_4 rfl rfl ?_
    refine J.aload_n 0 dX9_sumOf_5 rfl rfl ?_
    refine J.iload_n 1 dX9_sumOf_6 rfl rfl ?_
    refine I.callV1i (d' := d - 1) (mi' := mX9_lengthOf) dX9_sumOf_7 lX9_71 eX9_lengthOf rfl rfl (c_X9_lengthOf (d := d - 1) hl (by omega) (by first | assumption | exact MW.th (by assumption)) (by first | omega | assumption)) (show d - 1 + 1 ≤ d from by omega) (Nat.le_of_ble_eq_true rfl) ?_
    refine I.icmp_ge 31 dX9_sumOf_10 (by decide) (by omega) (by omega) (fun h10 => ?_) (fun h10 => ?_)
    · skip
      exact J.fgt (by exact ⟨Or.inr rfl, Or.inr rfl, Or.inr rfl, Or.inl rfl, trivial⟩) kx
    · exact absurd h10 (by omega)
  | succ k ih =>
    intro t a q0 q1 kx
    refine J.iload_n 3 dX9_sumOf_4 rfl rfl ?_
    refine J.aload_n 0 dX9_sumOf_5 rfl rfl ?_
    refine J.iload_n 1 dX9_sumOf_6 rfl rfl ?_
    refine I.callV1i (d' := d - 1) (mi' := mX9_lengthOf) dX9_sumOf_7 lX9_71 eX9_lengthOf rfl rfl (c_X9_lengthOf (d := d - 1) hl (by omega) (by first | assumption | exact MW.th (by assumption)) (by first | omega | assumption)) (show d - 1 + 1 ≤ d from by omega) (Nat.le_of_ble_eq_true rfl) ?_
    refine I.icmp_ge 31 dX9_sumOf_10 (by decide) (by omega) (by omega) (fun h10 => ?_) (fun h10 => ?_)
    · exact absurd h10 (by omega)
    · skip
      have g1 := @g0 t (by omega) (by omega) (by omega) (by omega)
      refine J.iload_n 2 dX9_sumOf_13 rfl rfl ?_
      refine J.aload_n 0 dX9_sumOf_14 rfl rfl ?_
      refine J.iload_n 1 dX9_sumOf_15 rfl rfl ?_
      refine J.iload_n 3 dX9_sumOf_16 rfl rfl ?_
      refine I.callV2i (d' := d - 1) (mi' := mX9_tileOf) dX9_sumOf_17 lX9_256 eX9_tileOf rfl rfl (c_X9_tileOf (d := d - 1) hl (by omega) (by first | assumption | exact MW.th (by assumption)) (by first | omega | assumption) (by first | omega | assumption)) (show d - 1 + 1 ≤ d from by omega) (Nat.le_of_ble_eq_true rfl) ?_
      refine I.callS1i (d' := d - 1) (mi' := mX9_scoreOf) dX9_sumOf_20 lX9_78 eX9_scoreOf rfl (c_X9_scoreOf (d := d - 1) hl (by omega) (by first | omega | assumption)) (show d - 1 + 1 ≤ d from by omega) (Nat.le_of_ble_eq_true rfl) ?_
      refine I.add dX9_sumOf_23 ?_
      refine J.istore_n 2 dX9_sumOf_24 rfl (by decide) rfl ?_
      refine I.iinc dX9_sumOf_25 rfl rfl ?_
      refine J.goto 4 dX9_sumOf_28 (by decide) ?_
      exact J.fgt (by exact ⟨Or.inr rfl, Or.inr rfl, Or.inr rfl, Or.inr rfl, trivial⟩) (ih (by first | omega | (dsimp only; omega)) (by first | omega | (dsimp only; omega)) kx)
set_option maxHeartbeats 1000000 in
theorem c_X9_sumOf {Γ : jE} (hl : Γ.1.stackTraces = false) {s : Nat → Int → Int} {ε : jEps} {d : Nat} {c : Int} {f : Int → Int} (hd : 3 ≤ d) (p0 : MW s f) (p1 : 0 ≤ c ∧ c < f (18 + f 1)) : Con Γ (d, 0, 0) mX9_sumOf [.ref 137, .int (iI c)] (jmem s ε) (RI (gSum f c) (s) ε) X0 := by
  refine Con.ofJ (by decide +kernel) (by simp [Value.category]) (Nat.le_of_ble_eq_true rfl) ?_ hl
  have hw := MW.w p0
  have e := MW.e p0 c p1.1 p1.2
  have g0 := @gT_rng f p0.l p0.v c
  refine I.iconst dX9_sumOf_0 ?_
  refine J.istore_n 2 dX9_sumOf_1 rfl (by decide) rfl ?_
  refine I.iconst dX9_sumOf_2 ?_
  refine J.istore_n 3 dX9_sumOf_3 rfl (by decide) rfl ?_
  refine J.fgt (by exact ⟨Or.inr rfl, Or.inr rfl, Or.inr rfl, Or.inr rfl, trivial⟩) (k_X9_sumOf_4 hl (by omega) p0 p1 ((f (37 + c) - f (34 + c) + 1).toNat) (by first | omega | (dsimp only; omega)) (by first | omega | (dsimp only; omega)) ?_)
  refine J.iload_n 2 dX9_sumOf_31 rfl rfl ?_
  exact I.iretI dX9_sumOf_32 rfl (by first | rfl | omega) rfl
set_option maxHeartbeats 1000000 in
theorem k_X9_lowestOf_12 {Γ : jE} (hl : Γ.1.stackTraces = false) {s : Nat → Int → Int} {ε : jEps} {d : Nat} {c : Int} {f : Int → Int} (hd : 3 ≤ d) (p0 : MW s f) (p1 : 0 ≤ c ∧ c < f (18 + f 1)) {mc ms : Nat} {P : Option Value → jM → Prop} {X : String → jM → Prop} : ∀ (k : Nat) {t a : Int} (q0 : ((k : Nat) : Int) = f (37 + c) - f (34 + c) + 1 - t) (q1 : 0 ≤ t) (q2 : 0 ≤ a ∧ a ≤ 24) (kx : J Γ (d, mc, ms) mX9_lowestOf 41 [some (.ref 137), some (.int (iI c)), some (.int (iI (foldF (fun t a => min a (gSc (gT f c t))) k t a))), none] [] (jmem s ε) P X), J Γ (d, mc, ms) mX9_lowestOf 12 [some (.ref 137), some (.int (iI c)), some (.int (iI (a))), some (.int (iI (t)))] [] (jmem s ε) P X := by
  have hw := MW.w p0
  have e := MW.e p0 c p1.1 p1.2
  have g0 := @gTs_rng f p0.l p0.v c
  have g00 := @gTs_rng f p0.l p0.v c 0 (by omega) (by omega) (by omega) (by omega)
  have t0 := @gT_rng f p0.l p0.v c
  have t00 := @gT_rng f p0.l p0.v c 0 (by omega) (by omega) (by omega) (by omega)
  intro k
  induction k with
  | zero =>
    intro t a q0 q1 q2 kx
    refine J.iload_n 3 dX9_lowestOf_12 rfl rfl ?_
    refine J.aload_n 0 dX9_lowestOf_13 rfl rfl ?_
    refine J.iload_n 1 dX9_lowestOf_14 rfl rfl ?_
    refine I.callV1i (d' := d - 1) (mi' := mX9_lengthOf) dX9_lowestOf_15 lX9_71 eX9_lengthOf rfl rfl (c_X9_lengthOf (d := d - 1) hl (by omega) (by first | assumption | exact MW.th (by assumption)) (by first | omega | assumption)) (show d - 1 + 1 ≤ d from by omega) (Nat.le_of_ble_eq_true rfl) ?_
    refine I.icmp_ge 41 dX9_lowestOf_18 (by decide) (by omega) (by omega) (fun h18 => ?_) (fun h18 => ?_)
    · skip
      exact J.fgt (by exact ⟨Or.inr rfl, Or.inr rfl, Or.inr rfl, Or.inl rfl, trivial⟩) kx
    · exact absurd h18 (by omega)
  | succ k ih =>
    intro t a q0 q1 q2 kx
    refine J.iload_n 3 dX9_lowestOf_12 rfl rfl ?_
    refine J.aload_n 0 dX9_lowestOf_13 rfl rfl ?_
    refine J.iload_n 1 dX9_lowestOf_14 rfl rfl ?_
    refine I.callV1i (d' := d - 1) (mi' := mX9_lengthOf) dX9_lowestOf_15 lX9_71 eX9_lengthOf rfl rfl (c_X9_lengthOf (d := d - 1) hl (by omega) (by first | assumption | exact MW.th (by assumption)) (by first | omega | assumption)) (show d - 1 + 1 ≤ d from by omega) (Nat.le_of_ble_eq_true rfl) ?_
    refine I.icmp_ge 41 dX9_lowestOf_18 (by decide) (by omega) (by omega) (fun h18 => ?_) (fun h18 => ?_)
    · exact absurd h18 (by omega)
    · skip
      have g1 := @g0 t (by omega) (by omega) (by omega) (by omega)
      have t1 := @t0 t (by omega) (by omega) (by omega) (by omega)
      refine J.iload_n 2 dX9_lowestOf_21 rfl rfl ?_
      refine J.aload_n 0 dX9_lowestOf_22 rfl rfl ?_
      refine J.iload_n 1 dX9_lowestOf_23 rfl rfl ?_
      refine J.iload_n 3 dX9_lowestOf_24 rfl rfl ?_
      refine I.callV2i (d' := d - 1) (mi' := mX9_tileOf) dX9_lowestOf_25 lX9_256 eX9_tileOf rfl rfl (c_X9_tileOf (d := d - 1) hl (by omega) (by first | assumption | exact MW.th (by assumption)) (by first | omega | assumption) (by first | omega | assumption)) (show d - 1 + 1 ≤ d from by omega) (Nat.le_of_ble_eq_true rfl) ?_
      refine I.callS1i (d' := d - 1) (mi' := mX9_scoreOf) dX9_lowestOf_28 lX9_78 eX9_scoreOf rfl (c_X9_scoreOf (d := d - 1) hl (by omega) (by first | omega | assumption)) (show d - 1 + 1 ≤ d from by omega) (Nat.le_of_ble_eq_true rfl) ?_
      refine I.mmin dX9_lowestOf_31 lX9_268 (by omega) (by omega) (Nat.le_of_ble_eq_true rfl) ?_
      refine J.istore_n 2 dX9_lowestOf_34 rfl (by decide) rfl ?_
      refine I.iinc dX9_lowestOf_35 rfl rfl ?_
      refine J.goto 12 dX9_lowestOf_38 (by decide) ?_
      exact J.fgt (by exact ⟨Or.inr rfl, Or.inr rfl, Or.inr rfl, Or.inr rfl, trivial⟩) (ih (by first | omega | (dsimp only; omega)) (by first | omega | (dsimp only; omega)) (by first | omega | (dsimp only; omega)) kx)
set_option maxHeartbeats 1000000 in
theorem c_X9_lowestOf {Γ : jE} (hl : Γ.1.stackTraces = false) {s : Nat → Int → Int} {ε : jEps} {d : Nat} {c : Int} {f : Int → Int} (hd : 3 ≤ d) (p0 : MW s f) (p1 : 0 ≤ c ∧ c < f (18 + f 1)) : Con Γ (d, 0, 0) mX9_lowestOf [.ref 137, .int (iI c)] (jmem s ε) (RI (gLst f c) (s) ε) X0 := by
  refine Con.ofJ (by decide +kernel) (by simp [Value.category]) (Nat.le_of_ble_eq_true rfl) ?_ hl
  have hw := MW.w p0
  have e := MW.e p0 c p1.1 p1.2
  have g0 := @gTs_rng f p0.l p0.v c
  have g00 := @gTs_rng f p0.l p0.v c 0 (by omega) (by omega) (by omega) (by omega)
  have t0 := @gT_rng f p0.l p0.v c
  have t00 := @gT_rng f p0.l p0.v c 0 (by omega) (by omega) (by omega) (by omega)
  refine J.aload_n 0 dX9_lowestOf_0 rfl rfl ?_
  refine J.iload_n 1 dX9_lowestOf_1 rfl rfl ?_
  refine I.iconst dX9_lowestOf_2 ?_
  refine I.callV2i (d' := d - 1) (mi' := mX9_tileOf) dX9_lowestOf_3 lX9_256 eX9_tileOf rfl rfl (c_X9_tileOf (d := d - 1) hl (by omega) (by first | assumption | exact MW.th (by assumption)) (by first | omega | assumption) (by first | omega | assumption)) (show d - 1 + 1 ≤ d from by omega) (Nat.le_of_ble_eq_true rfl) ?_
  refine I.callS1i (d' := d - 1) (mi' := mX9_scoreOf) dX9_lowestOf_6 lX9_78 eX9_scoreOf rfl (c_X9_scoreOf (d := d - 1) hl (by omega) (by first | omega | assumption)) (show d - 1 + 1 ≤ d from by omega) (Nat.le_of_ble_eq_true rfl) ?_
  refine J.istore_n 2 dX9_lowestOf_9 rfl (by decide) rfl ?_
  refine I.iconst dX9_lowestOf_10 ?_
  refine J.istore_n 3 dX9_lowestOf_11 rfl (by decide) rfl ?_
  refine J.fgt (by exact ⟨Or.inr rfl, Or.inr rfl, Or.inr rfl, Or.inr rfl, trivial⟩) (k_X9_lowestOf_12 hl (by omega) p0 p1 ((f (37 + c) - f (34 + c)).toNat) (by first | omega | (dsimp only; omega)) (by first | omega | (dsimp only; omega)) (by first | omega | (dsimp only; omega)) ?_)
  refine J.iload_n 2 dX9_lowestOf_41 rfl rfl ?_
  exact I.iretI dX9_lowestOf_42 rfl (by first | rfl | omega) rfl
set_option maxHeartbeats 1000000 in
theorem c_X9_isMove {Γ : jE} (hl : Γ.1.stackTraces = false) {s : Nat → Int → Int} {ε : jEps} {d : Nat} {i : Int} {f : Int → Int} (hd : 6 ≤ d) (p0 : MW s f) (p1 : -2147483648 ≤ i ∧ i < 2147483648) : Con Γ (d, 0, 0) mX9_isMove [.ref 137, .int (iI i)] (jmem s ε) (RI (bI (0 ≤ i ∧ i < gMoves f)) (s) ε) X0 := by
  refine Con.ofJ (by decide +kernel) (by simp [Value.category]) (Nat.le_of_ble_eq_true rfl) ?_ hl
  have hw := MW.w p0
  have hm7 := gMoves_rng hw.2.2.1
  refine J.iload_n 1 dX9_isMove_0 rfl rfl ?_
  refine I.if_lt 16 dX9_isMove_1 (by decide) (by omega) (fun h1 => ?_) (fun h1 => ?_)
  · skip
    refine I.iconst dX9_isMove_16 ?_
    exact I.zretI dX9_isMove_17 rfl (by first | exact Or.inl rfl | exact Or.inr rfl | exact bI_01 _ | omega) (by first | exact (bI_t (by omega)).symm | exact (bI_f (by omega)).symm | rfl) rfl
  · skip
    refine J.iload_n 1 dX9_isMove_4 rfl rfl ?_
    refine J.aload_n 0 dX9_isMove_5 rfl rfl ?_
    refine I.callV0i (d' := d - 1) (mi' := mX9_moves) dX9_isMove_6 lX9_129 eX9_moves rfl rfl (c_X9_moves (d := d - 1) hl (by omega) (by first | assumption | exact MW.th (by assumption))) (show d - 1 + 1 ≤ d from by omega) (Nat.le_of_ble_eq_true rfl) ?_
    refine I.icmp_ge 16 dX9_isMove_9 (by decide) (by omega) (by omega) (fun h9 => ?_) (fun h9 => ?_)
    · skip
      refine I.iconst dX9_isMove_16 ?_
      exact I.zretI dX9_isMove_17 rfl (by first | exact Or.inl rfl | exact Or.inr rfl | exact bI_01 _ | omega) (by first | exact (bI_t (by omega)).symm | exact (bI_f (by omega)).symm | rfl) rfl
    · skip
      refine I.iconst dX9_isMove_12 ?_
      refine J.goto 17 dX9_isMove_13 (by decide) ?_
      exact I.zretI dX9_isMove_17 rfl (by first | exact Or.inl rfl | exact Or.inr rfl | exact bI_01 _ | omega) (by first | exact (bI_t (by omega)).symm | exact (bI_f (by omega)).symm | rfl) rfl
set_option maxHeartbeats 1000000 in
theorem c_X9_isLast {Γ : jE} (hl : Γ.1.stackTraces = false) {s : Nat → Int → Int} {ε : jEps} {d : Nat} {f : Int → Int} (hd : 1 ≤ d) (p0 : MW s f) : Con Γ (d, 0, 0) mX9_isLast [.ref 137] (jmem s ε) (RI (bI (f 1 = f 0 - 1)) (s) ε) X0 := by
  refine Con.ofJ (by decide +kernel) (by simp [Value.category]) (Nat.le_of_ble_eq_true rfl) ?_ hl
  have hw := MW.w p0
  refine J.aload_n 0 dX9_isLast_0 rfl rfl ?_
  refine I.iconst dX9_isLast_1 ?_
  refine I.callV1i (d' := d - 1) (mi' := mX9_get) dX9_isLast_2 lX9_46 eX9_get rfl rfl (c_X9_get (d := d - 1) hl (by omega) (by first | assumption | exact MW.m (by assumption) | exact MV.th (by assumption) | exact MW.m (MW.th (by assumption))) (by first | omega | assumption)) (show d - 1 + 1 ≤ d from by omega) (Nat.le_of_ble_eq_true rfl) ?_
  refine J.aload_n 0 dX9_isLast_5 rfl rfl ?_
  refine I.iconst dX9_isLast_6 ?_
  refine I.callV1i (d' := d - 1) (mi' := mX9_get) dX9_isLast_7 lX9_46 eX9_get rfl rfl (c_X9_get (d := d - 1) hl (by omega) (by first | assumption | exact MW.m (by assumption) | exact MV.th (by assumption) | exact MW.m (MW.th (by assumption))) (by first | omega | assumption)) (show d - 1 + 1 ≤ d from by omega) (Nat.le_of_ble_eq_true rfl) ?_
  refine I.iconst dX9_isLast_10 ?_
  refine I.sub dX9_isLast_11 ?_
  refine I.icmp_ne 19 dX9_isLast_12 (by decide) (by omega) (by omega) (fun h12 => ?_) (fun h12 => ?_)
  · skip
    refine I.iconst dX9_isLast_19 ?_
    exact I.zretI dX9_isLast_20 rfl (by first | exact Or.inl rfl | exact Or.inr rfl | exact bI_01 _ | omega) (by first | exact (bI_t (by omega)).symm | exact (bI_f (by omega)).symm | rfl) rfl
  · skip
    refine I.iconst dX9_isLast_15 ?_
    refine J.goto 20 dX9_isLast_16 (by decide) ?_
    exact I.zretI dX9_isLast_20 rfl (by first | exact Or.inl rfl | exact Or.inr rfl | exact bI_01 _ | omega) (by first | exact (bI_t (by omega)).symm | exact (bI_f (by omega)).symm | rfl) rfl
