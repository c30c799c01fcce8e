set_option maxHeartbeats 1000000 in
theorem c_X9_fails {Γ : jE} (hl : Γ.1.stackTraces = false) {s : Nat → Int → Int} {ε : jEps} {d : Nat} {x : Int} (hd : 0 ≤ d) : Con Γ (d, 0, 0) mX9_fails [.ref 137, .int (iI x)] (jmem s ε) (RI (0) (up s 137 0 x) ε) X0 := by
  refine Con.ofJ (by decide +kernel) (by simp [Value.category]) (Nat.le_of_ble_eq_true rfl) ?_ hl
  refine J.aload_n 0 dX9_fails_0 rfl rfl ?_
  refine J.iload_n 1 dX9_fails_1 rfl rfl ?_
  refine I.pI 0 rfl dX9_fails_2 jcls fX9_40 rfl (by decide) rfl ?_
  refine I.iconst dX9_fails_5 ?_
  exact I.iretI dX9_fails_6 rfl (by first | rfl | omega) rfl
set_option maxHeartbeats 1000000 in
theorem c_X9_thrown {Γ : jE} (hl : Γ.1.stackTraces = false) {s : Nat → Int → Int} {ε : jEps} {d : Nat} (hd : 0 ≤ d) : Con Γ (d, 0, 0) mX9_thrown [.ref 137] (jmem s ε) (RI (s 137 0) (s) ε) X0 := by
  refine Con.ofJ (by decide +kernel) (by simp [Value.category]) (Nat.le_of_ble_eq_true rfl) ?_ hl
  refine J.aload_n 0 dX9_thrown_0 rfl rfl ?_
  refine I.gI 0 rfl dX9_thrown_1 jcls fX9_40 rfl (by decide) rfl ?_
  exact I.iretI dX9_thrown_4 rfl (by first | rfl | omega) rfl
set_option maxHeartbeats 1000000 in
theorem c_X9_roundCount {Γ : jE} (hl : Γ.1.stackTraces = false) {s : Nat → Int → Int} {ε : jEps} {d : Nat} {f : Int → Int} (hd : 1 ≤ d) (p0 : MW s f) : Con Γ (d, 0, 0) mX9_roundCount [.ref 137] (jmem s ε) (RI (f 0) (up s 137 0 0) ε) X0 := by
  refine Con.ofJ (by decide +kernel) (by simp [Value.category]) (Nat.le_of_ble_eq_true rfl) ?_ hl
  have hw := MW.w p0
  refine J.aload_n 0 dX9_roundCount_0 rfl rfl ?_
  refine I.iconst dX9_roundCount_1 ?_
  refine I.pI 0 rfl dX9_roundCount_2 jcls fX9_40 rfl (by decide) rfl ?_
  refine J.aload_n 0 dX9_roundCount_5 rfl rfl ?_
  refine I.iconst dX9_roundCount_6 ?_
  refine I.callV1i (d' := d - 1) (mi' := mX9_get) dX9_roundCount_7 lX9_46 eX9_get rfl rfl (c_X9_get (d := d - 1) hl (by omega) (by first | assumption | exact MW.m (by assumption) | exact MV.th (by assumption) | exact MW.m (MW.th (by assumption))) (by first | omega | assumption)) (show d - 1 + 1 ≤ d from by omega) (Nat.le_of_ble_eq_true rfl) ?_
  exact I.iretI dX9_roundCount_10 rfl (by first | rfl | omega) rfl
set_option maxHeartbeats 1000000 in
theorem c_X9_currentRound {Γ : jE} (hl : Γ.1.stackTraces = false) {s : Nat → Int → Int} {ε : jEps} {d : Nat} {f : Int → Int} (hd : 1 ≤ d) (p0 : MW s f) : Con Γ (d, 0, 0) mX9_currentRound [.ref 137] (jmem s ε) (RI (f 1) (up s 137 0 0) ε) X0 := by
  refine Con.ofJ (by decide +kernel) (by simp [Value.category]) (Nat.le_of_ble_eq_true rfl) ?_ hl
  have hw := MW.w p0
  refine J.aload_n 0 dX9_currentRound_0 rfl rfl ?_
  refine I.iconst dX9_currentRound_1 ?_
  refine I.pI 0 rfl dX9_currentRound_2 jcls fX9_40 rfl (by decide) rfl ?_
  refine J.aload_n 0 dX9_currentRound_5 rfl rfl ?_
  refine I.iconst dX9_currentRound_6 ?_
  refine I.callV1i (d' := d - 1) (mi' := mX9_get) dX9_currentRound_7 lX9_46 eX9_get rfl rfl (c_X9_get (d := d - 1) hl (by omega) (by first | assumption | exact MW.m (by assumption) | exact MV.th (by assumption) | exact MW.m (MW.th (by assumption))) (by first | omega | assumption)) (show d - 1 + 1 ≤ d from by omega) (Nat.le_of_ble_eq_true rfl) ?_
  exact I.iretI dX9_currentRound_10 rfl (by first | rfl | omega) rfl
set_option maxHeartbeats 1000000 in
theorem c_X9_isRoundOver {Γ : jE} (hl : Γ.1.stackTraces = false) {s : Nat → Int → Int} {ε : jEps} {d : Nat} {f : Int → Int} (hd : 5 ≤ d) (p0 : MW s f) : Con Γ (d, 0, 0) mX9_isRoundOver [.ref 137] (jmem s ε) (RI (bI (gOver f)) (up s 137 0 0) ε) X0 := by
  refine Con.ofJ (by decide +kernel) (by simp [Value.category]) (Nat.le_of_ble_eq_true rfl) ?_ hl
  have hw := MW.w p0
  refine J.aload_n 0 dX9_isRoundOver_0 rfl rfl ?_
  refine I.iconst dX9_isRoundOver_1 ?_
  refine I.pI 0 rfl dX9_isRoundOver_2 jcls fX9_40 rfl (by decide) rfl ?_
  refine J.aload_n 0 dX9_isRoundOver_5 rfl rfl ?_
  refine I.callV0i (d' := d - 1) (mi' := mX9_isOver) dX9_isRoundOver_6 lX9_88 eX9_isOver rfl rfl (c_X9_isOver (d := d - 1) hl (by omega) (by first | assumption | exact MW.th (by assumption))) (show d - 1 + 1 ≤ d from by omega) (Nat.le_of_ble_eq_true rfl) ?_
  exact I.zretI dX9_isRoundOver_9 rfl (by first | exact Or.inl rfl | exact Or.inr rfl | exact bI_01 _ | omega) rfl rfl
set_option maxHeartbeats 1000000 in
theorem c_X9_playerToMove {Γ : jE} (hl : Γ.1.stackTraces = false) {s : Nat → Int → Int} {ε : jEps} {d : Nat} {f : Int → Int} (hd : 1 ≤ d) (p0 : MW s f) : Con Γ (d, 0, 0) mX9_playerToMove [.ref 137] (jmem s ε) (RI (f 2) (up s 137 0 0) ε) X0 := by
  refine Con.ofJ (by decide +kernel) (by simp [Value.category]) (Nat.le_of_ble_eq_true rfl) ?_ hl
  have hw := MW.w p0
  refine J.aload_n 0 dX9_playerToMove_0 rfl rfl ?_
  refine I.iconst dX9_playerToMove_1 ?_
  refine I.pI 0 rfl dX9_playerToMove_2 jcls fX9_40 rfl (by decide) rfl ?_
  refine J.aload_n 0 dX9_playerToMove_5 rfl rfl ?_
  refine I.iconst dX9_playerToMove_6 ?_
  refine I.callV1i (d' := d - 1) (mi' := mX9_get) dX9_playerToMove_7 lX9_46 eX9_get rfl rfl (c_X9_get (d := d - 1) hl (by omega) (by first | assumption | exact MW.m (by assumption) | exact MV.th (by assumption) | exact MW.m (MW.th (by assumption))) (by first | omega | assumption)) (show d - 1 + 1 ≤ d from by omega) (Nat.le_of_ble_eq_true rfl) ?_
  exact I.iretI dX9_playerToMove_10 rfl (by first | rfl | omega) rfl
set_option maxHeartbeats 1000000 in
theorem c_X9_chainCount {Γ : jE} (hl : Γ.1.stackTraces = false) {s : Nat → Int → Int} {ε : jEps} {d : Nat} {f : Int → Int} (hd : 2 ≤ d) (p0 : MW s f) : Con Γ (d, 0, 0) mX9_chainCount [.ref 137] (jmem s ε) (RI (f (18 + f 1)) (up s 137 0 0) ε) X0 := by
  refine Con.ofJ (by decide +kernel) (by simp [Value.category]) (Nat.le_of_ble_eq_true rfl) ?_ hl
  have hw := MW.w p0
  refine J.aload_n 0 dX9_chainCount_0 rfl rfl ?_
  refine I.iconst dX9_chainCount_1 ?_
  refine I.pI 0 rfl dX9_chainCount_2 jcls fX9_40 rfl (by decide) rfl ?_
  refine J.aload_n 0 dX9_chainCount_5 rfl rfl ?_
  refine I.callV0i (d' := d - 1) (mi' := mX9_chains) dX9_chainCount_6 lX9_59 eX9_chains rfl rfl (c_X9_chains (d := d - 1) hl (by omega) (by first | assumption | exact MW.th (by assumption))) (show d - 1 + 1 ≤ d from by omega) (Nat.le_of_ble_eq_true rfl) ?_
  exact I.iretI dX9_chainCount_9 rfl (by first | rfl | omega) rfl
set_option maxHeartbeats 1000000 in
theorem c_X9_loggedMoveCount {Γ : jE} (hl : Γ.1.stackTraces = false) {s : Nat → Int → Int} {ε : jEps} {d : Nat} {f : Int → Int} (hd : 1 ≤ d) (p0 : MW s f) : Con Γ (d, 0, 0) mX9_loggedMoveCount [.ref 137] (jmem s ε) (RI (f 5) (up s 137 0 0) ε) X0 := by
  refine Con.ofJ (by decide +kernel) (by simp [Value.category]) (Nat.le_of_ble_eq_true rfl) ?_ hl
  have hw := MW.w p0
  refine J.aload_n 0 dX9_loggedMoveCount_0 rfl rfl ?_
  refine I.iconst dX9_loggedMoveCount_1 ?_
  refine I.pI 0 rfl dX9_loggedMoveCount_2 jcls fX9_40 rfl (by decide) rfl ?_
  refine J.aload_n 0 dX9_loggedMoveCount_5 rfl rfl ?_
  refine I.iconst dX9_loggedMoveCount_6 ?_
  refine I.callV1i (d' := d - 1) (mi' := mX9_get) dX9_loggedMoveCount_7 lX9_46 eX9_get rfl rfl (c_X9_get (d := d - 1) hl (by omega) (by first | assumption | exact MW.m (by assumption) | exact MV.th (by assumption) | exact MW.m (MW.th (by assumption))) (by first | omega | assumption)) (show d - 1 + 1 ≤ d from by omega) (Nat.le_of_ble_eq_true rfl) ?_
  exact I.iretI dX9_loggedMoveCount_10 rfl (by first | rfl | omega) rfl
set_option maxHeartbeats 1000000 in
theorem c_X9_moveCount {Γ : jE} (hl : Γ.1.stackTraces = false) {s : Nat → Int → Int} {ε : jEps} {d : Nat} {f : Int → Int} (hd : 6 ≤ d) (p0 : MW s f) : Con Γ (d, 0, 0) mX9_moveCount [.ref 137] (jmem s ε) (RI (gMoves f) (up s 137 0 0) ε) X0 := by
  refine Con.ofJ (by decide +kernel) (by simp [Value.category]) (Nat.le_of_ble_eq_true rfl) ?_ hl
  have hw := MW.w p0
  refine J.aload_n 0 dX9_moveCount_0 rfl rfl ?_
  refine I.iconst dX9_moveCount_1 ?_
  refine I.pI 0 rfl dX9_moveCount_2 jcls fX9_40 rfl (by decide) rfl ?_
  refine J.aload_n 0 dX9_moveCount_5 rfl rfl ?_
  refine I.callV0i (d' := d - 1) (mi' := mX9_moves) dX9_moveCount_6 lX9_129 eX9_moves rfl rfl (c_X9_moves (d := d - 1) hl (by omega) (by first | assumption | exact MW.th (by assumption))) (show d - 1 + 1 ≤ d from by omega) (Nat.le_of_ble_eq_true rfl) ?_
  exact I.iretI dX9_moveCount_9 rfl (by first | rfl | omega) rfl
set_option maxHeartbeats 1000000 in
theorem c_X9_isMatchOver {Γ : jE} (hl : Γ.1.stackTraces = false) {s : Nat → Int → Int} {ε : jEps} {d : Nat} {f : Int → Int} (hd : 5 ≤ d) (p0 : MW s f) : Con Γ (d, 0, 0) mX9_isMatchOver [.ref 137] (jmem s ε) (RI (bI (f 1 = f 0 - 1 ∧ gOver f)) (up s 137 0 0) ε) X0 := by
  refine Con.ofJ (by decide +kernel) (by simp [Value.category]) (Nat.le_of_ble_eq_true rfl) ?_ hl
  have hw := MW.w p0
  refine J.aload_n 0 dX9_isMatchOver_0 rfl rfl ?_
  refine I.iconst dX9_isMatchOver_1 ?_
  refine I.pI 0 rfl dX9_isMatchOver_2 jcls fX9_40 rfl (by decide) rfl ?_
  refine J.aload_n 0 dX9_isMatchOver_5 rfl rfl ?_
  refine I.callV0i (d' := d - 1) (mi' := mX9_isLast) dX9_isMatchOver_6 lX9_210 eX9_isLast rfl rfl (c_X9_isLast (d := d - 1) hl (by omega) (by first | assumption | exact MW.th (by assumption))) (show d - 1 + 1 ≤ d from by omega) (Nat.le_of_ble_eq_true rfl) ?_
  refine I.if_eqB 23 dX9_isMatchOver_9 (by decide) (fun h9 => ?_) (fun h9 => ?_)
  · skip
    refine I.iconst dX9_isMatchOver_23 ?_
    exact I.zretI dX9_isMatchOver_24 rfl (by first | exact Or.inl rfl | exact Or.inr rfl | exact bI_01 _ | omega) (by first | exact (bI_t ⟨by assumption, by assumption⟩).symm | exact (bI_f (fun g => by first | exact absurd g.1 (by assumption) | exact absurd g.2 (by assumption))).symm) rfl
  · skip
    refine J.aload_n 0 dX9_isMatchOver_12 rfl rfl ?_
    refine I.callV0i (d' := d - 1) (mi' := mX9_isOver) dX9_isMatchOver_13 lX9_88 eX9_isOver rfl rfl (c_X9_isOver (d := d - 1) hl (by omega) (by first | assumption | exact MW.th (by assumption))) (show d - 1 + 1 ≤ d from by omega) (Nat.le_of_ble_eq_true rfl) ?_
    refine I.if_eqB 23 dX9_isMatchOver_16 (by decide) (fun h16 => ?_) (fun h16 => ?_)
    · skip
      refine I.iconst dX9_isMatchOver_23 ?_
      exact I.zretI dX9_isMatchOver_24 rfl (by first | exact Or.inl rfl | exact Or.inr rfl | exact bI_01 _ | omega) (by first | exact (bI_t ⟨by assumption, by assumption⟩).symm | exact (bI_f (fun g => by first | exact absurd g.1 (by assumption) | exact absurd g.2 (by assumption))).symm) rfl
    · skip
      refine I.iconst dX9_isMatchOver_19 ?_
      refine J.goto 24 dX9_isMatchOver_20 (by decide) ?_
      exact I.zretI dX9_isMatchOver_24 rfl (by first | exact Or.inl rfl | exact Or.inr rfl | exact bI_01 _ | omega) (by first | exact (bI_t ⟨by assumption, by assumption⟩).symm | exact (bI_f (fun g => by first | exact absurd g.1 (by assumption) | exact absurd g.2 (by assumption))).symm) rfl
set_option maxHeartbeats 1000000 in
theorem c_X9_matchWinner {Γ : jE} (hl : Γ.1.stackTraces = false) {s : Nat → Int → Int} {ε : jEps} {d : Nat} {f : Int → Int} (hd : 7 ≤ d) (p0 : MW s f) : Con Γ (d, 0, 0) mX9_matchWinner [.ref 137] (jmem s ε) (RI (gMWin f) (up s 137 0 0) ε) X0 := by
  refine Con.ofJ (by decide +kernel) (by simp [Value.category]) (Nat.le_of_ble_eq_true rfl) ?_ hl
  have hw := MW.w p0
  have w0 := gWins_rng p0.l 0
  have w1 := gWins_rng p0.l 1
  have t0 := gTot_rng p0.l p0.v (p := 0) (by omega) (by omega)
  have t1 := gTot_rng p0.l p0.v (p := 1) (by omega) (by omega)
  refine J.aload_n 0 dX9_matchWinner_0 rfl rfl ?_
  refine I.iconst dX9_matchWinner_1 ?_
  refine I.pI 0 rfl dX9_matchWinner_2 jcls fX9_40 rfl (by decide) rfl ?_
  refine J.aload_n 0 dX9_matchWinner_5 rfl rfl ?_
  refine I.callV0i (d' := d - 1) (mi' := mX9_isLast) dX9_matchWinner_6 lX9_210 eX9_isLast rfl rfl (c_X9_isLast (d := d - 1) hl (by omega) (by first | assumption | exact MW.th (by assumption))) (show d - 1 + 1 ≤ d from by omega) (Nat.le_of_ble_eq_true rfl) ?_
  refine I.if_eqB 19 dX9_matchWinner_9 (by decide) (fun h9 => ?_) (fun h9 => ?_)
  · skip
    refine I.iconst dX9_matchWinner_19 ?_
    exact I.iretI dX9_matchWinner_20 rfl (by unfold gMWin; rw [if_neg (by rw [bI_f (fun g => h9 g.1)]; decide)]) rfl
  · skip
    refine J.aload_n 0 dX9_matchWinner_12 rfl rfl ?_
    refine I.callV0i (d' := d - 1) (mi' := mX9_isOver) dX9_matchWinner_13 lX9_88 eX9_isOver rfl rfl (c_X9_isOver (d := d - 1) hl (by omega) (by first | assumption | exact MW.th (by assumption))) (show d - 1 + 1 ≤ d from by omega) (Nat.le_of_ble_eq_true rfl) ?_
    refine I.if_neB 21 dX9_matchWinner_16 (by decide) (fun h16 => ?_) (fun h16 => ?_)
    · skip
      refine J.aload_n 0 dX9_matchWinner_21 rfl rfl ?_
      refine I.iconst dX9_matchWinner_22 ?_
      refine I.callV1i (d' := d - 1) (mi' := mX9_wonBy) dX9_matchWinner_23 lX9_247 eX9_wonBy rfl rfl (c_X9_wonBy (d := d - 1) hl (by omega) (by first | assumption | exact MW.th (by assumption)) (by first | omega | assumption)) (show d - 1 + 1 ≤ d from by omega) (Nat.le_of_ble_eq_true rfl) ?_
      refine J.aload_n 0 dX9_matchWinner_26 rfl rfl ?_
      refine I.iconst dX9_matchWinner_27 ?_
      refine I.callV1i (d' := d - 1) (mi' := mX9_wonBy) dX9_matchWinner_28 lX9_247 eX9_wonBy rfl rfl (c_X9_wonBy (d := d - 1) hl (by omega) (by first | assumption | exact MW.th (by assumption)) (by first | omega | assumption)) (show d - 1 + 1 ≤ d from by omega) (Nat.le_of_ble_eq_true rfl) ?_
      refine I.sub dX9_matchWinner_31 ?_
      refine J.istore_n 1 dX9_matchWinner_32 rfl (by decide) rfl ?_
      refine J.iload_n 1 dX9_matchWinner_33 rfl rfl ?_
      refine I.if_ne 49 dX9_matchWinner_34 (by decide) (by omega) (fun h34 => ?_) (fun h34 => ?_)
      · skip
        refine J.iload_n 1 dX9_matchWinner_49 rfl rfl ?_
        refine I.if_ne 57 dX9_matchWinner_50 (by decide) (by omega) (fun h50 => ?_) (fun h50 => ?_)
        · skip
          refine J.iload_n 1 dX9_matchWinner_57 rfl rfl ?_
          refine I.if_le 65 dX9_matchWinner_58 (by decide) (by omega) (fun h58 => ?_) (fun h58 => ?_)
          · skip
            refine I.iconst dX9_matchWinner_65 ?_
            exact I.iretI dX9_matchWinner_66 rfl (by unfold gMWin gLead; rw [if_pos (bI_t ⟨by assumption, by assumption⟩)]; omega) rfl
          · skip
            refine I.iconst dX9_matchWinner_61 ?_
            refine J.goto 66 dX9_matchWinner_62 (by decide) ?_
            exact I.iretI dX9_matchWinner_66 rfl (by unfold gMWin gLead; rw [if_pos (bI_t ⟨by assumption, by assumption⟩)]; omega) rfl
        · skip
          refine I.iconst dX9_matchWinner_53 ?_
          refine J.goto 66 dX9_matchWinner_54 (by decide) ?_
          exact I.iretI dX9_matchWinner_66 rfl (by unfold gMWin gLead; rw [if_pos (bI_t ⟨by assumption, by assumption⟩)]; omega) rfl
      · skip
        refine J.aload_n 0 dX9_matchWinner_37 rfl rfl ?_
        refine I.iconst dX9_matchWinner_38 ?_
        refine I.callV1i (d' := d - 1) (mi' := mX9_totalOf) dX9_matchWinner_39 lX9_250 eX9_totalOf rfl rfl (c_X9_totalOf (d := d - 1) hl (by omega) (by first | assumption | exact MW.th (by assumption)) (by first | omega | assumption)) (show d - 1 + 1 ≤ d from by omega) (Nat.le_of_ble_eq_true rfl) ?_
        refine J.aload_n 0 dX9_matchWinner_42 rfl rfl ?_
        refine I.iconst dX9_matchWinner_43 ?_
        refine I.callV1i (d' := d - 1) (mi' := mX9_totalOf) dX9_matchWinner_44 lX9_250 eX9_totalOf rfl rfl (c_X9_totalOf (d := d - 1) hl (by omega) (by first | assumption | exact MW.th (by assumption)) (by first | omega | assumption)) (show d - 1 + 1 ≤ d from by omega) (Nat.le_of_ble_eq_true rfl) ?_
        refine I.sub dX9_matchWinner_47 ?_
        refine J.istore_n 1 dX9_matchWinner_48 rfl (by decide) rfl ?_
        refine J.iload_n 1 dX9_matchWinner_49 rfl rfl ?_
        refine I.if_ne 57 dX9_matchWinner_50 (by decide) (by omega) (fun h50 => ?_) (fun h50 => ?_)
        · skip
          refine J.iload_n 1 dX9_matchWinner_57 rfl rfl ?_
          refine I.if_le 65 dX9_matchWinner_58 (by decide) (by omega) (fun h58 => ?_) (fun h58 => ?_)
          · skip
            refine I.iconst dX9_matchWinner_65 ?_
            exact I.iretI dX9_matchWinner_66 rfl (by unfold gMWin gLead; rw [if_pos (bI_t ⟨by assumption, by assumption⟩)]; omega) rfl
          · skip
            refine I.iconst dX9_matchWinner_61 ?_
            refine J.goto 66 dX9_matchWinner_62 (by decide) ?_
            exact I.iretI dX9_matchWinner_66 rfl (by unfold gMWin gLead; rw [if_pos (bI_t ⟨by assumption, by assumption⟩)]; omega) rfl
        · skip
          refine I.iconst dX9_matchWinner_53 ?_
          refine J.goto 66 dX9_matchWinner_54 (by decide) ?_
          exact I.iretI dX9_matchWinner_66 rfl (by unfold gMWin gLead; rw [if_pos (bI_t ⟨by assumption, by assumption⟩)]; omega) rfl
    · skip
      refine I.iconst dX9_matchWinner_19 ?_
      exact I.iretI dX9_matchWinner_20 rfl (by unfold gMWin; rw [if_neg (by rw [bI_f (fun g => h16 g.2)]; decide)]) rfl
set_option maxHeartbeats 1000000 in
theorem c_X9_roundWinner {Γ : jE} (hl : Γ.1.stackTraces = false) {s : Nat → Int → Int} {ε : jEps} {d : Nat} {r : Int} {f : Int → Int} (hd : 6 ≤ d) (p0 : MW s f) (p1 : -2147483648 ≤ r ∧ r < 2147483648) : Con Γ (d, 0, 0) mX9_roundWinner [.ref 137, .int (iI r)] (jmem s ε) (RQ (fun w s' => ((0 ≤ r ∧ r < f 0) ∧ gWin f r = w ∧ s' = up s 137 0 0) ∨ (¬ (0 ≤ r ∧ r < f 0) ∧ s' = up s 137 0 1)) ε) X0 := by
  refine Con.ofJ (by decide +kernel) (by simp [Value.category]) (Nat.le_of_ble_eq_true rfl) ?_ hl
  have hw := MW.w p0
  refine J.aload_n 0 dX9_roundWinner_0 rfl rfl ?_
  refine I.iconst dX9_roundWinner_1 ?_
  refine I.pI 0 rfl dX9_roundWinner_2 jcls fX9_40 rfl (by decide) rfl ?_
  refine J.aload_n 0 dX9_roundWinner_5 rfl rfl ?_
  refine J.iload_n 1 dX9_roundWinner_6 rfl rfl ?_
  refine I.callV1i (d' := d - 1) (mi' := mX9_isRound) dX9_roundWinner_7 lX9_238 eX9_isRound rfl rfl (c_X9_isRound (d := d - 1) hl (by omega) (by first | assumption | exact MW.th (by assumption)) (by first | omega | assumption)) (show d - 1 + 1 ≤ d from by omega) (Nat.le_of_ble_eq_true rfl) ?_
  refine I.if_eqB 21 dX9_roundWinner_10 (by decide) (fun h10 => ?_) (fun h10 => ?_)
  · skip
    refine J.aload_n 0 dX9_roundWinner_21 rfl rfl ?_
    refine I.iconst dX9_roundWinner_22 ?_
    refine I.callV1i (d' := d - 1) (mi' := mX9_fails) dX9_roundWinner_23 lX9_219 eX9_fails rfl rfl (c_X9_fails (d := d - 1) hl (by omega) ) (show d - 1 + 1 ≤ d from by omega) (Nat.le_of_ble_eq_true rfl) ?_
    exact I.iretQ dX9_roundWinner_26 rfl (by first | exact Or.inl ⟨by first | assumption | exact ⟨by assumption, by assumption⟩ | omega, by first | rfl | assumption | omega | exact bI_t (by first | assumption | omega) | exact bI_f (by first | assumption | omega), rfl⟩ | exact Or.inr ⟨by first | assumption | omega, up_up⟩)
  · skip
    refine J.aload_n 0 dX9_roundWinner_13 rfl rfl ?_
    refine J.iload_n 1 dX9_roundWinner_14 rfl rfl ?_
    refine I.callV1i (d' := d - 1) (mi' := mX9_winnerOf) dX9_roundWinner_15 lX9_241 eX9_winnerOf rfl rfl (c_X9_winnerOf (d := d - 1) hl (by omega) (by first | assumption | exact MW.th (by assumption)) (by first | omega | assumption)) (show d - 1 + 1 ≤ d from by omega) (Nat.le_of_ble_eq_true rfl) ?_
    refine J.goto 26 dX9_roundWinner_18 (by decide) ?_
    exact I.iretQ dX9_roundWinner_26 rfl (by first | exact Or.inl ⟨by first | assumption | exact ⟨by assumption, by assumption⟩ | omega, by first | rfl | assumption | omega | exact bI_t (by first | assumption | omega) | exact bI_f (by first | assumption | omega), rfl⟩ | exact Or.inr ⟨by first | assumption | omega, up_up⟩)
set_option maxHeartbeats 1000000 in
theorem c_X9_roundsWon {Γ : jE} (hl : Γ.1.stackTraces = false) {s : Nat → Int → Int} {ε : jEps} {d : Nat} {p : Int} {f : Int → Int} (hd : 7 ≤ d) (p0 : MW s f) (p1 : -2147483648 ≤ p ∧ p < 2147483648) : Con Γ (d, 0, 0) mX9_roundsWon [.ref 137, .int (iI p)] (jmem s ε) (RQ (fun w s' => ((0 ≤ p ∧ p ≤ 1) ∧ gWins f p = w ∧ s' = up s 137 0 0) ∨ (¬ (0 ≤ p ∧ p ≤ 1) ∧ s' = up s 137 0 1)) ε) X0 := by
  refine Con.ofJ (by decide +kernel) (by simp [Value.category]) (Nat.le_of_ble_eq_true rfl) ?_ hl
  have hw := MW.w p0
  refine J.aload_n 0 dX9_roundsWon_0 rfl rfl ?_
  refine I.iconst dX9_roundsWon_1 ?_
  refine I.pI 0 rfl dX9_roundsWon_2 jcls fX9_40 rfl (by decide) rfl ?_
  refine J.iload_n 1 dX9_roundsWon_5 rfl rfl ?_
  refine I.callS1i (d' := d - 1) (mi' := mX9_isPlayer) dX9_roundsWon_6 lX9_244 eX9_isPlayer rfl (c_X9_isPlayer (d := d - 1) hl (by omega) (by first | omega | assumption)) (show d - 1 + 1 ≤ d from by omega) (Nat.le_of_ble_eq_true rfl) ?_
  refine I.if_eqB 20 dX9_roundsWon_9 (by decide) (fun h9 => ?_) (fun h9 => ?_)
  · skip
    refine J.aload_n 0 dX9_roundsWon_20 rfl rfl ?_
    refine I.iconst dX9_roundsWon_21 ?_
    refine I.callV1i (d' := d - 1) (mi' := mX9_fails) dX9_roundsWon_22 lX9_219 eX9_fails rfl rfl (c_X9_fails (d := d - 1) hl (by omega) ) (show d - 1 + 1 ≤ d from by omega) (Nat.le_of_ble_eq_true rfl) ?_
    exact I.iretQ dX9_roundsWon_25 rfl (by first | exact Or.inl ⟨by first | assumption | exact ⟨by assumption, by assumption⟩ | omega, by first | rfl | assumption | omega | exact bI_t (by first | assumption | omega) | exact bI_f (by first | assumption | omega), rfl⟩ | exact Or.inr ⟨by first | assumption | omega, up_up⟩)
  · skip
    refine J.aload_n 0 dX9_roundsWon_12 rfl rfl ?_
    refine J.iload_n 1 dX9_roundsWon_13 rfl rfl ?_
    refine I.callV1i (d' := d - 1) (mi' := mX9_wonBy) dX9_roundsWon_14 lX9_247 eX9_wonBy rfl rfl (c_X9_wonBy (d := d - 1) hl (by omega) (by first | assumption | exact MW.th (by assumption)) (by first | omega | assumption)) (show d - 1 + 1 ≤ d from by omega) (Nat.le_of_ble_eq_true rfl) ?_
    refine J.goto 25 dX9_roundsWon_17 (by decide) ?_
    exact I.iretQ dX9_roundsWon_25 rfl (by first | exact Or.inl ⟨by first | assumption | exact ⟨by assumption, by assumption⟩ | omega, by first | rfl | assumption | omega | exact bI_t (by first | assumption | omega) | exact bI_f (by first | assumption | omega), rfl⟩ | exact Or.inr ⟨by first | assumption | omega, up_up⟩)
set_option maxHeartbeats 1000000 in
theorem c_X9_roundScore {Γ : jE} (hl : Γ.1.stackTraces = false) {s : Nat → Int → Int} {ε : jEps} {d : Nat} {r : Int} {p : Int} {f : Int → Int} (hd : 2 ≤ d) (p0 : MW s f) (p1 : -2147483648 ≤ r ∧ r < 2147483648) (p2 : -2147483648 ≤ p ∧ p < 2147483648) : Con Γ (d, 0, 0) mX9_roundScore [.ref 137, .int (iI r), .int (iI p)] (jmem s ε) (RQ (fun w s' => (((0 ≤ r ∧ r < f 0) ∧ 0 ≤ p ∧ p ≤ 1) ∧ f (6 + 2 * r + p) = w ∧ s' = up s 137 0 0) ∨ (¬ ((0 ≤ r ∧ r < f 0) ∧ 0 ≤ p ∧ p ≤ 1) ∧ s' = up s 137 0 1)) ε) X0 := by
  refine Con.ofJ (by decide +kernel) (by simp [Value.category]) (Nat.le_of_ble_eq_true rfl) ?_ hl
  have hw := MW.w p0
  refine J.aload_n 0 dX9_roundScore_0 rfl rfl ?_
  refine I.iconst dX9_roundScore_1 ?_
  refine I.pI 0 rfl dX9_roundScore_2 jcls fX9_40 rfl (by decide) rfl ?_
  refine J.aload_n 0 dX9_roundScore_5 rfl rfl ?_
  refine J.iload_n 1 dX9_roundScore_6 rfl rfl ?_
  refine I.callV1i (d' := d - 1) (mi' := mX9_isRound) dX9_roundScore_7 lX9_238 eX9_isRound rfl rfl (c_X9_isRound (d := d - 1) hl (by omega) (by first | assumption | exact MW.th (by assumption)) (by first | omega | assumption)) (show d - 1 + 1 ≤ d from by omega) (Nat.le_of_ble_eq_true rfl) ?_
  refine I.if_eqB 29 dX9_roundScore_10 (by decide) (fun h10 => ?_) (fun h10 => ?_)
  · skip
    refine J.aload_n 0 dX9_roundScore_29 rfl rfl ?_
    refine I.iconst dX9_roundScore_30 ?_
    refine I.callV1i (d' := d - 1) (mi' := mX9_fails) dX9_roundScore_31 lX9_219 eX9_fails rfl rfl (c_X9_fails (d := d - 1) hl (by omega) ) (show d - 1 + 1 ≤ d from by omega) (Nat.le_of_ble_eq_true rfl) ?_
    exact I.iretQ dX9_roundScore_34 rfl (by first | exact Or.inl ⟨by first | assumption | exact ⟨by assumption, by assumption⟩ | omega, by first | rfl | assumption | omega | exact bI_t (by first | assumption | omega) | exact bI_f (by first | assumption | omega), rfl⟩ | exact Or.inr ⟨by first | assumption | omega, up_up⟩)
  · skip
    refine J.iload_n 2 dX9_roundScore_13 rfl rfl ?_
    refine I.callS1i (d' := d - 1) (mi' := mX9_isPlayer) dX9_roundScore_14 lX9_244 eX9_isPlayer rfl (c_X9_isPlayer (d := d - 1) hl (by omega) (by first | omega | assumption)) (show d - 1 + 1 ≤ d from by omega) (Nat.le_of_ble_eq_true rfl) ?_
    refine I.if_eqB 29 dX9_roundScore_17 (by decide) (fun h17 => ?_) (fun h17 => ?_)
    · skip
      refine J.aload_n 0 dX9_roundScore_29 rfl rfl ?_
      refine I.iconst dX9_roundScore_30 ?_
      refine I.callV1i (d' := d - 1) (mi' := mX9_fails) dX9_roundScore_31 lX9_219 eX9_fails rfl rfl (c_X9_fails (d := d - 1) hl (by omega) ) (show d - 1 + 1 ≤ d from by omega) (Nat.le_of_ble_eq_true rfl) ?_
      exact I.iretQ dX9_roundScore_34 rfl (by first | exact Or.inl ⟨by first | assumption | exact ⟨by assumption, by assumption⟩ | omega, by first | rfl | assumption | omega | exact bI_t (by first | assumption | omega) | exact bI_f (by first | assumption | omega), rfl⟩ | exact Or.inr ⟨by first | assumption | omega, up_up⟩)
    · skip
      refine J.aload_n 0 dX9_roundScore_20 rfl rfl ?_
      refine J.iload_n 1 dX9_roundScore_21 rfl rfl ?_
      refine J.iload_n 2 dX9_roundScore_22 rfl rfl ?_
      refine I.callV2i (d' := d - 1) (mi' := mX9_scoreIn) dX9_roundScore_23 lX9_235 eX9_scoreIn rfl rfl (c_X9_scoreIn (d := d - 1) hl (by omega) (by first | assumption | exact MW.th (by assumption)) (by first | omega | assumption) (by first | omega | assumption)) (show d - 1 + 1 ≤ d from by omega) (Nat.le_of_ble_eq_true rfl) ?_
      refine J.goto 34 dX9_roundScore_26 (by decide) ?_
      exact I.iretQ dX9_roundScore_34 rfl (by first | exact Or.inl ⟨by first | assumption | exact ⟨by assumption, by assumption⟩ | omega, by first | rfl | assumption | omega | exact bI_t (by first | assumption | omega) | exact bI_f (by first | assumption | omega), rfl⟩ | exact Or.inr ⟨by first | assumption | omega, up_up⟩)
set_option maxHeartbeats 1000000 in
theorem c_X9_totalScore {Γ : jE} (hl : Γ.1.stackTraces = false) {s : Nat → Int → Int} {ε : jEps} {d : Nat} {p : Int} {f : Int → Int} (hd : 3 ≤ d) (p0 : MW s f) (p1 : -2147483648 ≤ p ∧ p < 2147483648) : Con Γ (d, 0, 0) mX9_totalScore [.ref 137, .int (iI p)] (jmem s ε) (RQ (fun w s' => ((0 ≤ p ∧ p ≤ 1) ∧ gTot f p = w ∧ s' = up s 137 0 0) ∨ (¬ (0 ≤ p ∧ p ≤ 1) ∧ s' = up s 137 0 1)) ε) X0 := by
  refine Con.ofJ (by decide +kernel) (by simp [Value.category]) (Nat.le_of_ble_eq_true rfl) ?_ hl
  have hw := MW.w p0
  refine J.aload_n 0 dX9_totalScore_0 rfl rfl ?_
  refine I.iconst dX9_totalScore_1 ?_
  refine I.pI 0 rfl dX9_totalScore_2 jcls fX9_40 rfl (by decide) rfl ?_
  refine J.iload_n 1 dX9_totalScore_5 rfl rfl ?_
  refine I.callS1i (d' := d - 1) (mi' := mX9_isPlayer) dX9_totalScore_6 lX9_244 eX9_isPlayer rfl (c_X9_isPlayer (d := d - 1) hl (by omega) (by first | omega | assumption)) (show d - 1 + 1 ≤ d from by omega) (Nat.le_of_ble_eq_true rfl) ?_
  refine I.if_eqB 20 dX9_totalScore_9 (by decide) (fun h9 => ?_) (fun h9 => ?_)
  · skip
    refine J.aload_n 0 dX9_totalScore_20 rfl rfl ?_
    refine I.iconst dX9_totalScore_21 ?_
    refine I.callV1i (d' := d - 1) (mi' := mX9_fails) dX9_totalScore_22 lX9_219 eX9_fails rfl rfl (c_X9_fails (d := d - 1) hl (by omega) ) (show d - 1 + 1 ≤ d from by omega) (Nat.le_of_ble_eq_true rfl) ?_
    exact I.iretQ dX9_totalScore_25 rfl (by first | exact Or.inl ⟨by first | assumption | exact ⟨by assumption, by assumption⟩ | omega, by first | rfl | assumption | omega | exact bI_t (by first | assumption | omega) | exact bI_f (by first | assumption | omega), rfl⟩ | exact Or.inr ⟨by first | assumption | omega, up_up⟩)
  · skip
    refine J.aload_n 0 dX9_totalScore_12 rfl rfl ?_
    refine J.iload_n 1 dX9_totalScore_13 rfl rfl ?_
    refine I.callV1i (d' := d - 1) (mi' := mX9_totalOf) dX9_totalScore_14 lX9_250 eX9_totalOf rfl rfl (c_X9_totalOf (d := d - 1) hl (by omega) (by first | assumption | exact MW.th (by assumption)) (by first | omega | assumption)) (show d - 1 + 1 ≤ d from by omega) (Nat.le_of_ble_eq_true rfl) ?_
    refine J.goto 25 dX9_totalScore_17 (by decide) ?_
    exact I.iretQ dX9_totalScore_25 rfl (by first | exact Or.inl ⟨by first | assumption | exact ⟨by assumption, by assumption⟩ | omega, by first | rfl | assumption | omega | exact bI_t (by first | assumption | omega) | exact bI_f (by first | assumption | omega), rfl⟩ | exact Or.inr ⟨by first | assumption | omega, up_up⟩)
set_option maxHeartbeats 1000000 in
theorem c_X9_tilesBurnt {Γ : jE} (hl : Γ.1.stackTraces = false) {s : Nat → Int → Int} {ε : jEps} {d : Nat} {p : Int} {f : Int → Int} (hd : 1 ≤ d) (p0 : MW s f) (p1 : -2147483648 ≤ p ∧ p < 2147483648) : Con Γ (d, 0, 0) mX9_tilesBurnt [.ref 137, .int (iI p)] (jmem s ε) (RQ (fun w s' => ((0 ≤ p ∧ p ≤ 1) ∧ f (14 + p) = w ∧ s' = up s 137 0 0) ∨ (¬ (0 ≤ p ∧ p ≤ 1) ∧ s' = up s 137 0 1)) ε) X0 := by
  refine Con.ofJ (by decide +kernel) (by simp [Value.category]) (Nat.le_of_ble_eq_true rfl) ?_ hl
  have hw := MW.w p0
  refine J.aload_n 0 dX9_tilesBurnt_0 rfl rfl ?_
  refine I.iconst dX9_tilesBurnt_1 ?_
  refine I.pI 0 rfl dX9_tilesBurnt_2 jcls fX9_40 rfl (by decide) rfl ?_
  refine J.iload_n 1 dX9_tilesBurnt_5 rfl rfl ?_
  refine I.callS1i (d' := d - 1) (mi' := mX9_isPlayer) dX9_tilesBurnt_6 lX9_244 eX9_isPlayer rfl (c_X9_isPlayer (d := d - 1) hl (by omega) (by first | omega | assumption)) (show d - 1 + 1 ≤ d from by omega) (Nat.le_of_ble_eq_true rfl) ?_
  refine I.if_eqB 23 dX9_tilesBurnt_9 (by decide) (fun h9 => ?_) (fun h9 => ?_)
  · skip
    refine J.aload_n 0 dX9_tilesBurnt_23 rfl rfl ?_
    refine I.iconst dX9_tilesBurnt_24 ?_
    refine I.callV1i (d' := d - 1) (mi' := mX9_fails) dX9_tilesBurnt_25 lX9_219 eX9_fails rfl rfl (c_X9_fails (d := d - 1) hl (by omega) ) (show d - 1 + 1 ≤ d from by omega) (Nat.le_of_ble_eq_true rfl) ?_
    exact I.iretQ dX9_tilesBurnt_28 rfl (by first | exact Or.inl ⟨by first | assumption | exact ⟨by assumption, by assumption⟩ | omega, by first | rfl | assumption | omega | exact bI_t (by first | assumption | omega) | exact bI_f (by first | assumption | omega), rfl⟩ | exact Or.inr ⟨by first | assumption | omega, up_up⟩)
  · skip
    refine J.aload_n 0 dX9_tilesBurnt_12 rfl rfl ?_
    refine I.bipush dX9_tilesBurnt_13 (by decide) ?_
    refine J.iload_n 1 dX9_tilesBurnt_15 rfl rfl ?_
    refine I.add dX9_tilesBurnt_16 ?_
    refine I.callV1i (d' := d - 1) (mi' := mX9_get) dX9_tilesBurnt_17 lX9_46 eX9_get rfl rfl (c_X9_get (d := d - 1) hl (by omega) (by first | assumption | exact MW.m (by assumption) | exact MV.th (by assumption) | exact MW.m (MW.th (by assumption))) (by first | omega | assumption)) (show d - 1 + 1 ≤ d from by omega) (Nat.le_of_ble_eq_true rfl) ?_
    refine J.goto 28 dX9_tilesBurnt_20 (by decide) ?_
    exact I.iretQ dX9_tilesBurnt_28 rfl (by first | exact Or.inl ⟨by first | assumption | exact ⟨by assumption, by assumption⟩ | omega, by first | rfl | assumption | omega | exact bI_t (by first | assumption | omega) | exact bI_f (by first | assumption | omega), rfl⟩ | exact Or.inr ⟨by first | assumption | omega, up_up⟩)
set_option maxHeartbeats 1000000 in
theorem c_X9_passes {Γ : jE} (hl : Γ.1.stackTraces = false) {s : Nat → Int → Int} {ε : jEps} {d : Nat} {p : Int} {f : Int → Int} (hd : 1 ≤ d) (p0 : MW s f) (p1 : -2147483648 ≤ p ∧ p < 2147483648) : Con Γ (d, 0, 0) mX9_passes [.ref 137, .int (iI p)] (jmem s ε) (RQ (fun w s' => ((0 ≤ p ∧ p ≤ 1) ∧ f (16 + p) = w ∧ s' = up s 137 0 0) ∨ (¬ (0 ≤ p ∧ p ≤ 1) ∧ s' = up s 137 0 1)) ε) X0 := by
  refine Con.ofJ (by decide +kernel) (by simp [Value.category]) (Nat.le_of_ble_eq_true rfl) ?_ hl
  have hw := MW.w p0
  refine J.aload_n 0 dX9_passes_0 rfl rfl ?_
  refine I.iconst dX9_passes_1 ?_
  refine I.pI 0 rfl dX9_passes_2 jcls fX9_40 rfl (by decide) rfl ?_
  refine J.iload_n 1 dX9_passes_5 rfl rfl ?_
  refine I.callS1i (d' := d - 1) (mi' := mX9_isPlayer) dX9_passes_6 lX9_244 eX9_isPlayer rfl (c_X9_isPlayer (d := d - 1) hl (by omega) (by first | omega | assumption)) (show d - 1 + 1 ≤ d from by omega) (Nat.le_of_ble_eq_true rfl) ?_
  refine I.if_eqB 23 dX9_passes_9 (by decide) (fun h9 => ?_) (fun h9 => ?_)
  · skip
    refine J.aload_n 0 dX9_passes_23 rfl rfl ?_
    refine I.iconst dX9_passes_24 ?_
    refine I.callV1i (d' := d - 1) (mi' := mX9_fails) dX9_passes_25 lX9_219 eX9_fails rfl rfl (c_X9_fails (d := d - 1) hl (by omega) ) (show d - 1 + 1 ≤ d from by omega) (Nat.le_of_ble_eq_true rfl) ?_
    exact I.iretQ dX9_passes_28 rfl (by first | exact Or.inl ⟨by first | assumption | exact ⟨by assumption, by assumption⟩ | omega, by first | rfl | assumption | omega | exact bI_t (by first | assumption | omega) | exact bI_f (by first | assumption | omega), rfl⟩ | exact Or.inr ⟨by first | assumption | omega, up_up⟩)
  · skip
    refine J.aload_n 0 dX9_passes_12 rfl rfl ?_
    refine I.bipush dX9_passes_13 (by decide) ?_
    refine J.iload_n 1 dX9_passes_15 rfl rfl ?_
    refine I.add dX9_passes_16 ?_
    refine I.callV1i (d' := d - 1) (mi' := mX9_get) dX9_passes_17 lX9_46 eX9_get rfl rfl (c_X9_get (d := d - 1) hl (by omega) (by first | assumption | exact MW.m (by assumption) | exact MV.th (by assumption) | exact MW.m (MW.th (by assumption))) (by first | omega | assumption)) (show d - 1 + 1 ≤ d from by omega) (Nat.le_of_ble_eq_true rfl) ?_
    refine J.goto 28 dX9_passes_20 (by decide) ?_
    exact I.iretQ dX9_passes_28 rfl (by first | exact Or.inl ⟨by first | assumption | exact ⟨by assumption, by assumption⟩ | omega, by first | rfl | assumption | omega | exact bI_t (by first | assumption | omega) | exact bI_f (by first | assumption | omega), rfl⟩ | exact Or.inr ⟨by first | assumption | omega, up_up⟩)
set_option maxHeartbeats 1000000 in
theorem c_X9_chainLength {Γ : jE} (hl : Γ.1.stackTraces = false) {s : Nat → Int → Int} {ε : jEps} {d : Nat} {c : Int} {f : Int → Int} (hd : 3 ≤ d) (p0 : MW s f) (p1 : -2147483648 ≤ c ∧ c < 2147483648) : Con Γ (d, 0, 0) mX9_chainLength [.ref 137, .int (iI c)] (jmem s ε) (RQ (fun w s' => ((0 ≤ c ∧ c < f (18 + f 1)) ∧ f (37 + c) - f (34 + c) + 1 = w ∧ s' = up s 137 0 0) ∨ (¬ (0 ≤ c ∧ c < f (18 + f 1)) ∧ s' = up s 137 0 1)) ε) X0 := by
  refine Con.ofJ (by decide +kernel) (by simp [Value.category]) (Nat.le_of_ble_eq_true rfl) ?_ hl
  have hw := MW.w p0
  refine J.aload_n 0 dX9_chainLength_0 rfl rfl ?_
  refine I.iconst dX9_chainLength_1 ?_
  refine I.pI 0 rfl dX9_chainLength_2 jcls fX9_40 rfl (by decide) rfl ?_
  refine J.aload_n 0 dX9_chainLength_5 rfl rfl ?_
  refine J.iload_n 1 dX9_chainLength_6 rfl rfl ?_
  refine I.callV1i (d' := d - 1) (mi' := mX9_isChain) dX9_chainLength_7 lX9_216 eX9_isChain rfl rfl (c_X9_isChain (d := d - 1) hl (by omega) (by first | assumption | exact MW.th (by assumption)) (by first | omega | assumption)) (show d - 1 + 1 ≤ d from by omega) (Nat.le_of_ble_eq_true rfl) ?_
  refine I.if_eqB 21 dX9_chainLength_10 (by decide) (fun h10 => ?_) (fun h10 => ?_)
  · skip
    refine J.aload_n 0 dX9_chainLength_21 rfl rfl ?_
    refine I.iconst dX9_chainLength_22 ?_
    refine I.callV1i (d' := d - 1) (mi' := mX9_fails) dX9_chainLength_23 lX9_219 eX9_fails rfl rfl (c_X9_fails (d := d - 1) hl (by omega) ) (show d - 1 + 1 ≤ d from by omega) (Nat.le_of_ble_eq_true rfl) ?_
    exact I.iretQ dX9_chainLength_26 rfl (by first | exact Or.inl ⟨by first | assumption | exact ⟨by assumption, by assumption⟩ | omega, by first | rfl | assumption | omega | exact bI_t (by first | assumption | omega) | exact bI_f (by first | assumption | omega), rfl⟩ | exact Or.inr ⟨by first | assumption | omega, up_up⟩)
  · skip
    refine J.aload_n 0 dX9_chainLength_13 rfl rfl ?_
    refine J.iload_n 1 dX9_chainLength_14 rfl rfl ?_
    refine I.callV1i (d' := d - 1) (mi' := mX9_lengthOf) dX9_chainLength_15 lX9_71 eX9_lengthOf rfl rfl (c_X9_lengthOf (d := d - 1) hl (by omega) (by first | assumption | exact MW.th (by assumption)) (by first | omega | assumption)) (show d - 1 + 1 ≤ d from by omega) (Nat.le_of_ble_eq_true rfl) ?_
    refine J.goto 26 dX9_chainLength_18 (by decide) ?_
    exact I.iretQ dX9_chainLength_26 rfl (by first | exact Or.inl ⟨by first | assumption | exact ⟨by assumption, by assumption⟩ | omega, by first | rfl | assumption | omega | exact bI_t (by first | assumption | omega) | exact bI_f (by first | assumption | omega), rfl⟩ | exact Or.inr ⟨by first | assumption | omega, up_up⟩)
set_option maxHeartbeats 1000000 in
theorem c_X9_chainScore {Γ : jE} (hl : Γ.1.stackTraces = false) {s : Nat → Int → Int} {ε : jEps} {d : Nat} {c : Int} {f : Int → Int} (hd : 4 ≤ d) (p0 : MW s f) (p1 : -2147483648 ≤ c ∧ c < 2147483648) : Con Γ (d, 0, 0) mX9_chainScore [.ref 137, .int (iI c)] (jmem s ε) (RQ (fun w s' => ((0 ≤ c ∧ c < f (18 + f 1)) ∧ gSum f c = w ∧ s' = up s 137 0 0) ∨ (¬ (0 ≤ c ∧ c < f (18 + f 1)) ∧ s' = up s 137 0 1)) ε) X0 := by
  refine Con.ofJ (by decide +kernel) (by simp [Value.category]) (Nat.le_of_ble_eq_true rfl) ?_ hl
  have hw := MW.w p0
  refine J.aload_n 0 dX9_chainScore_0 rfl rfl ?_
  refine I.iconst dX9_chainScore_1 ?_
  refine I.pI 0 rfl dX9_chainScore_2 jcls fX9_40 rfl (by decide) rfl ?_
  refine J.aload_n 0 dX9_chainScore_5 rfl rfl ?_
  refine J.iload_n 1 dX9_chainScore_6 rfl rfl ?_
  refine I.callV1i (d' := d - 1) (mi' := mX9_isChain) dX9_chainScore_7 lX9_216 eX9_isChain rfl rfl (c_X9_isChain (d := d - 1) hl (by omega) (by first | assumption | exact MW.th (by assumption)) (by first | omega | assumption)) (show d - 1 + 1 ≤ d from by omega) (Nat.le_of_ble_eq_true rfl) ?_
  refine I.if_eqB 21 dX9_chainScore_10 (by decide) (fun h10 => ?_) (fun h10 => ?_)
  · skip
    refine J.aload_n 0 dX9_chainScore_21 rfl rfl ?_
    refine I.iconst dX9_chainScore_22 ?_
    refine I.callV1i (d' := d - 1) (mi' := mX9_fails) dX9_chainScore_23 lX9_219 eX9_fails rfl rfl (c_X9_fails (d := d - 1) hl (by omega) ) (show d - 1 + 1 ≤ d from by omega) (Nat.le_of_ble_eq_true rfl) ?_
    exact I.iretQ dX9_chainScore_26 rfl (by first | exact Or.inl ⟨by first | assumption | exact ⟨by assumption, by assumption⟩ | omega, by first | rfl | assumption | omega | exact bI_t (by first | assumption | omega) | exact bI_f (by first | assumption | omega), rfl⟩ | exact Or.inr ⟨by first | assumption | omega, up_up⟩)
  · skip
    refine J.aload_n 0 dX9_chainScore_13 rfl rfl ?_
    refine J.iload_n 1 dX9_chainScore_14 rfl rfl ?_
    refine I.callV1i (d' := d - 1) (mi' := mX9_sumOf) dX9_chainScore_15 lX9_259 eX9_sumOf rfl rfl (c_X9_sumOf (d := d - 1) hl (by omega) (by first | assumption | exact MW.th (by assumption)) (by first | omega | assumption)) (show d - 1 + 1 ≤ d from by omega) (Nat.le_of_ble_eq_true rfl) ?_
    refine J.goto 26 dX9_chainScore_18 (by decide) ?_
    exact I.iretQ dX9_chainScore_26 rfl (by first | exact Or.inl ⟨by first | assumption | exact ⟨by assumption, by assumption⟩ | omega, by first | rfl | assumption | omega | exact bI_t (by first | assumption | omega) | exact bI_f (by first | assumption | omega), rfl⟩ | exact Or.inr ⟨by first | assumption | omega, up_up⟩)
set_option maxHeartbeats 1000000 in
theorem c_X9_leftPips {Γ : jE} (hl : Γ.1.stackTraces = false) {s : Nat → Int → Int} {ε : jEps} {d : Nat} {c : Int} {t : Int} {f : Int → Int} (hd : 4 ≤ d) (p0 : MW s f) (p1 : -2147483648 ≤ c ∧ c < 2147483648) (p2 : -2147483648 ≤ t ∧ t < 2147483648) : Con Γ (d, 0, 0) mX9_leftPips [.ref 137, .int (iI c), .int (iI t)] (jmem s ε) (RQ (fun w s' => (((0 ≤ c ∧ c < f (18 + f 1)) ∧ 0 ≤ t ∧ t < f (37 + c) - f (34 + c) + 1) ∧ gT f c t / 10 = w ∧ s' = up s 137 0 0) ∨ (¬ ((0 ≤ c ∧ c < f (18 + f 1)) ∧ 0 ≤ t ∧ t < f (37 + c) - f (34 + c) + 1) ∧ s' = up s 137 0 1)) ε) X0 := by
  refine Con.ofJ (by decide +kernel) (by simp [Value.category]) (Nat.le_of_ble_eq_true rfl) ?_ hl
  have hw := MW.w p0
  refine J.aload_n 0 dX9_leftPips_0 rfl rfl ?_
  refine I.iconst dX9_leftPips_1 ?_
  refine I.pI 0 rfl dX9_leftPips_2 jcls fX9_40 rfl (by decide) rfl ?_
  refine J.aload_n 0 dX9_leftPips_5 rfl rfl ?_
  refine J.iload_n 1 dX9_leftPips_6 rfl rfl ?_
  refine J.iload_n 2 dX9_leftPips_7 rfl rfl ?_
  refine I.callV2i (d' := d - 1) (mi' := mX9_isTile) dX9_leftPips_8 lX9_253 eX9_isTile rfl rfl (c_X9_isTile (d := d - 1) hl (by omega) (by first | assumption | exact MW.th (by assumption)) (by first | omega | assumption) (by first | omega | assumption)) (show d - 1 + 1 ≤ d from by omega) (Nat.le_of_ble_eq_true rfl) ?_
  refine I.if_eqB 26 dX9_leftPips_11 (by decide) (fun h11 => ?_) (fun h11 => ?_)
  · skip
    refine J.aload_n 0 dX9_leftPips_26 rfl rfl ?_
    refine I.iconst dX9_leftPips_27 ?_
    refine I.callV1i (d' := d - 1) (mi' := mX9_fails) dX9_leftPips_28 lX9_219 eX9_fails rfl rfl (c_X9_fails (d := d - 1) hl (by omega) ) (show d - 1 + 1 ≤ d from by omega) (Nat.le_of_ble_eq_true rfl) ?_
    exact I.iretQ dX9_leftPips_31 rfl (by first | exact Or.inl ⟨by first | assumption | exact ⟨by assumption, by assumption⟩ | omega, by first | rfl | assumption | omega | exact bI_t (by first | assumption | omega) | exact bI_f (by first | assumption | omega), rfl⟩ | exact Or.inr ⟨by first | assumption | omega, up_up⟩)
  · skip
    have g1 := gT_rng p0.l p0.v h11.1.1 h11.1.2 h11.2.1 h11.2.2
    refine J.aload_n 0 dX9_leftPips_14 rfl rfl ?_
    refine J.iload_n 1 dX9_leftPips_15 rfl rfl ?_
    refine J.iload_n 2 dX9_leftPips_16 rfl rfl ?_
    refine I.callV2i (d' := d - 1) (mi' := mX9_tileOf) dX9_leftPips_17 lX9_256 eX9_tileOf rfl rfl (c_X9_tileOf (d := d - 1) hl (by omega) (by first | assumption | exact MW.th (by assumption)) (by first | omega | assumption) (by first | omega | assumption)) (show d - 1 + 1 ≤ d from by omega) (Nat.le_of_ble_eq_true rfl) ?_
    refine I.bipush dX9_leftPips_20 (by decide) ?_
    refine I.div dX9_leftPips_22 (by omega) (by omega) ?_
    refine J.goto 31 dX9_leftPips_23 (by decide) ?_
    exact I.iretQ dX9_leftPips_31 rfl (by first | exact Or.inl ⟨by first | assumption | exact ⟨by assumption, by assumption⟩ | omega, by first | rfl | assumption | omega | exact bI_t (by first | assumption | omega) | exact bI_f (by first | assumption | omega), rfl⟩ | exact Or.inr ⟨by first | assumption | omega, up_up⟩)
set_option maxHeartbeats 1000000 in
theorem c_X9_rightPips {Γ : jE} (hl : Γ.1.stackTraces = false) {s : Nat → Int → Int} {ε : jEps} {d : Nat} {c : Int} {t : Int} {f : Int → Int} (hd : 4 ≤ d) (p0 : MW s f) (p1 : -2147483648 ≤ c ∧ c < 2147483648) (p2 : -2147483648 ≤ t ∧ t < 2147483648) : Con Γ (d, 0, 0) mX9_rightPips [.ref 137, .int (iI c), .int (iI t)] (jmem s ε) (RQ (fun w s' => (((0 ≤ c ∧ c < f (18 + f 1)) ∧ 0 ≤ t ∧ t < f (37 + c) - f (34 + c) + 1) ∧ gT f c t % 10 = w ∧ s' = up s 137 0 0) ∨ (¬ ((0 ≤ c ∧ c < f (18 + f 1)) ∧ 0 ≤ t ∧ t < f (37 + c) - f (34 + c) + 1) ∧ s' = up s 137 0 1)) ε) X0 := by
  refine Con.ofJ (by decide +kernel) (by simp [Value.category]) (Nat.le_of_ble_eq_true rfl) ?_ hl
  have hw := MW.w p0
  refine J.aload_n 0 dX9_rightPips_0 rfl rfl ?_
  refine I.iconst dX9_rightPips_1 ?_
  refine I.pI 0 rfl dX9_rightPips_2 jcls fX9_40 rfl (by decide) rfl ?_
  refine J.aload_n 0 dX9_rightPips_5 rfl rfl ?_
  refine J.iload_n 1 dX9_rightPips_6 rfl rfl ?_
  refine J.iload_n 2 dX9_rightPips_7 rfl rfl ?_
  refine I.callV2i (d' := d - 1) (mi' := mX9_isTile) dX9_rightPips_8 lX9_253 eX9_isTile rfl rfl (c_X9_isTile (d := d - 1) hl (by omega) (by first | assumption | exact MW.th (by assumption)) (by first | omega | assumption) (by first | omega | assumption)) (show d - 1 + 1 ≤ d from by omega) (Nat.le_of_ble_eq_true rfl) ?_
  refine I.if_eqB 26 dX9_rightPips_11 (by decide) (fun h11 => ?_) (fun h11 => ?_)
  · skip
    refine J.aload_n 0 dX9_rightPips_26 rfl rfl ?_
    refine I.iconst dX9_rightPips_27 ?_
    refine I.callV1i (d' := d - 1) (mi' := mX9_fails) dX9_rightPips_28 lX9_219 eX9_fails rfl rfl (c_X9_fails (d := d - 1) hl (by omega) ) (show d - 1 + 1 ≤ d from by omega) (Nat.le_of_ble_eq_true rfl) ?_
    exact I.iretQ dX9_rightPips_31 rfl (by first | exact Or.inl ⟨by first | assumption | exact ⟨by assumption, by assumption⟩ | omega, by first | rfl | assumption | omega | exact bI_t (by first | assumption | omega) | exact bI_f (by first | assumption | omega), rfl⟩ | exact Or.inr ⟨by first | assumption | omega, up_up⟩)
  · skip
    have g1 := gT_rng p0.l p0.v h11.1.1 h11.1.2 h11.2.1 h11.2.2
    refine J.aload_n 0 dX9_rightPips_14 rfl rfl ?_
    refine J.iload_n 1 dX9_rightPips_15 rfl rfl ?_
    refine J.iload_n 2 dX9_rightPips_16 rfl rfl ?_
    refine I.callV2i (d' := d - 1) (mi' := mX9_tileOf) dX9_rightPips_17 lX9_256 eX9_tileOf rfl rfl (c_X9_tileOf (d := d - 1) hl (by omega) (by first | assumption | exact MW.th (by assumption)) (by first | omega | assumption) (by first | omega | assumption)) (show d - 1 + 1 ≤ d from by omega) (Nat.le_of_ble_eq_true rfl) ?_
    refine I.bipush dX9_rightPips_20 (by decide) ?_
    refine I.rem dX9_rightPips_22 (by omega) (by omega) ?_
    refine J.goto 31 dX9_rightPips_23 (by decide) ?_
    exact I.iretQ dX9_rightPips_31 rfl (by first | exact Or.inl ⟨by first | assumption | exact ⟨by assumption, by assumption⟩ | omega, by first | rfl | assumption | omega | exact bI_t (by first | assumption | omega) | exact bI_f (by first | assumption | omega), rfl⟩ | exact Or.inr ⟨by first | assumption | omega, up_up⟩)
set_option maxHeartbeats 1000000 in
theorem c_X9_tileScore {Γ : jE} (hl : Γ.1.stackTraces = false) {s : Nat → Int → Int} {ε : jEps} {d : Nat} {c : Int} {t : Int} {f : Int → Int} (hd : 4 ≤ d) (p0 : MW s f) (p1 : -2147483648 ≤ c ∧ c < 2147483648) (p2 : -2147483648 ≤ t ∧ t < 2147483648) : Con Γ (d, 0, 0) mX9_tileScore [.ref 137, .int (iI c), .int (iI t)] (jmem s ε) (RQ (fun w s' => (((0 ≤ c ∧ c < f (18 + f 1)) ∧ 0 ≤ t ∧ t < f (37 + c) - f (34 + c) + 1) ∧ gSc (gT f c t) = w ∧ s' = up s 137 0 0) ∨ (¬ ((0 ≤ c ∧ c < f (18 + f 1)) ∧ 0 ≤ t ∧ t < f (37 + c) - f (34 + c) + 1) ∧ s' = up s 137 0 1)) ε) X0 := by
  refine Con.ofJ (by decide +kernel) (by simp [Value.category]) (Nat.le_of_ble_eq_true rfl) ?_ hl
  have hw := MW.w p0
  refine J.aload_n 0 dX9_tileScore_0 rfl rfl ?_
  refine I.iconst dX9_tileScore_1 ?_
  refine I.pI 0 rfl dX9_tileScore_2 jcls fX9_40 rfl (by decide) rfl ?_
  refine J.aload_n 0 dX9_tileScore_5 rfl rfl ?_
  refine J.iload_n 1 dX9_tileScore_6 rfl rfl ?_
  refine J.iload_n 2 dX9_tileScore_7 rfl rfl ?_
  refine I.callV2i (d' := d - 1) (mi' := mX9_isTile) dX9_tileScore_8 lX9_253 eX9_isTile rfl rfl (c_X9_isTile (d := d - 1) hl (by omega) (by first | assumption | exact MW.th (by assumption)) (by first | omega | assumption) (by first | omega | assumption)) (show d - 1 + 1 ≤ d from by omega) (Nat.le_of_ble_eq_true rfl) ?_
  refine I.if_eqB 26 dX9_tileScore_11 (by decide) (fun h11 => ?_) (fun h11 => ?_)
  · skip
    refine J.aload_n 0 dX9_tileScore_26 rfl rfl ?_
    refine I.iconst dX9_tileScore_27 ?_
    refine I.callV1i (d' := d - 1) (mi' := mX9_fails) dX9_tileScore_28 lX9_219 eX9_fails rfl rfl (c_X9_fails (d := d - 1) hl (by omega) ) (show d - 1 + 1 ≤ d from by omega) (Nat.le_of_ble_eq_true rfl) ?_
    exact I.iretQ dX9_tileScore_31 rfl (by first | exact Or.inl ⟨by first | assumption | exact ⟨by assumption, by assumption⟩ | omega, by first | rfl | assumption | omega | exact bI_t (by first | assumption | omega) | exact bI_f (by first | assumption | omega), rfl⟩ | exact Or.inr ⟨by first | assumption | omega, up_up⟩)
  · skip
    have g1 := gT_rng p0.l p0.v h11.1.1 h11.1.2 h11.2.1 h11.2.2
    refine J.aload_n 0 dX9_tileScore_14 rfl rfl ?_
    refine J.iload_n 1 dX9_tileScore_15 rfl rfl ?_
    refine J.iload_n 2 dX9_tileScore_16 rfl rfl ?_
    refine I.callV2i (d' := d - 1) (mi' := mX9_tileOf) dX9_tileScore_17 lX9_256 eX9_tileOf rfl rfl (c_X9_tileOf (d := d - 1) hl (by omega) (by first | assumption | exact MW.th (by assumption)) (by first | omega | assumption) (by first | omega | assumption)) (show d - 1 + 1 ≤ d from by omega) (Nat.le_of_ble_eq_true rfl) ?_
    refine I.callS1i (d' := d - 1) (mi' := mX9_scoreOf) dX9_tileScore_20 lX9_78 eX9_scoreOf rfl (c_X9_scoreOf (d := d - 1) hl (by omega) (by first | omega | assumption)) (show d - 1 + 1 ≤ d from by omega) (Nat.le_of_ble_eq_true rfl) ?_
    refine J.goto 31 dX9_tileScore_23 (by decide) ?_
    exact I.iretQ dX9_tileScore_31 rfl (by first | exact Or.inl ⟨by first | assumption | exact ⟨by assumption, by assumption⟩ | omega, by first | rfl | assumption | omega | exact bI_t (by first | assumption | omega) | exact bI_f (by first | assumption | omega), rfl⟩ | exact Or.inr ⟨by first | assumption | omega, up_up⟩)
set_option maxHeartbeats 1000000 in
theorem k_X9_remainingScore_9 {Γ : jE} (hl : Γ.1.stackTraces = false) {s : Nat → Int → Int} {ε : jEps} {d : Nat} {f : Int → Int} (hd : 4 ≤ d) (p0 : MW s f) {mc ms : Nat} {P : Option Value → jM → Prop} {X : String → jM → Prop} : ∀ (k : Nat) {c a : Int} (q0 : ((k : Nat) : Int) = f (18 + f 1) - c) (q1 : 0 ≤ c) (kx : J Γ (d, mc, ms) mX9_remainingScore 31 [some (.ref 137), some (.int (iI (foldF (fun c a => a + gSum f c) k c a))), none] [] (jmem s ε) P X), J Γ (d, mc, ms) mX9_remainingScore 9 [some (.ref 137), some (.int (iI (a))), some (.int (iI (c)))] [] (jmem s ε) P X := by
  have hw := MW.w p0
  intro k
  induction k with
  | zero =>
    intro c a q0 q1 kx
    refine J.iload_n 2 dX9_remainingScore_9 rfl rfl ?_
    refine J.aload_n 0 dX9_remainingScore_10 rfl rfl ?_
    refine I.callV0i (d' := d - 1) (mi' := mX9_chains) dX9_remainingScore_11 lX9_59 eX9_chains rfl rfl (c_X9_chains (d := d - 1) hl (by omega) (by first | assumption | exact MW.th (by assumption))) (show d - 1 + 1 ≤ d from by omega) (Nat.le_of_ble_eq_true rfl) ?_
    refine I.icmp_ge 31 dX9_remainingScore_14 (by decide) (by omega) (by omega) (fun h14 => ?_) (fun h14 => ?_)
    · skip
      exact J.fgt (by exact ⟨Or.inr rfl, Or.inr rfl, Or.inl rfl, trivial⟩) kx
    · exact absurd h14 (by omega)
  | succ k ih =>
    intro c a q0 q1 kx
    refine J.iload_n 2 dX9_remainingScore_9 rfl rfl ?_
    refine J.aload_n 0 dX9_remainingScore_10 rfl rfl ?_
    refine I.callV0i (d' := d - 1) (mi' := mX9_chains) dX9_remainingScore_11 lX9_59 eX9_chains rfl rfl (c_X9_chains (d := d - 1) hl (by omega) (by first | assumption | exact MW.th (by assumption))) (show d - 1 + 1 ≤ d from by omega) (Nat.le_of_ble_eq_true rfl) ?_
    refine I.icmp_ge 31 dX9_remainingScore_14 (by decide) (by omega) (by omega) (fun h14 => ?_) (fun h14 => ?_)
    · exact absurd h14 (by omega)
    · skip
      refine J.iload_n 1 dX9_remainingScore_17 rfl rfl ?_
      refine J.aload_n 0 dX9_remainingScore_18 rfl rfl ?_
      refine J.iload_n 2 dX9_remainingScore_19 rfl rfl ?_
      refine I.callV1i (d' := d - 1) (mi' := mX9_sumOf) dX9_remainingScore_20 lX9_259 eX9_sumOf rfl rfl (c_X9_sumOf (d := d - 1) hl (by omega) (by first | assumption | exact MW.th (by assumption)) (by first | omega | assumption)) (show d - 1 + 1 ≤ d from by omega) (Nat.le_of_ble_eq_true rfl) ?_
      refine I.add dX9_remainingScore_23 ?_
      refine J.istore_n 1 dX9_remainingScore_24 rfl (by decide) rfl ?_
      refine I.iinc dX9_remainingScore_25 rfl rfl ?_
      refine J.goto 9 dX9_remainingScore_28 (by decide) ?_
      exact J.fgt (by exact ⟨Or.inr rfl, Or.inr rfl, Or.inr rfl, trivial⟩) (ih (by first | omega | (dsimp only; omega)) (by first | omega | (dsimp only; omega)) kx)
set_option maxHeartbeats 1000000 in
theorem c_X9_remainingScore {Γ : jE} (hl : Γ.1.stackTraces = false) {s : Nat → Int → Int} {ε : jEps} {d : Nat} {f : Int → Int} (hd : 4 ≤ d) (p0 : MW s f) : Con Γ (d, 0, 0) mX9_remainingScore [.ref 137] (jmem s ε) (RI (gRemain f) (up s 137 0 0) ε) X0 := by
  refine Con.ofJ (by decide +kernel) (by simp [Value.category]) (Nat.le_of_ble_eq_true rfl) ?_ hl
  have hw := MW.w p0
  refine J.aload_n 0 dX9_remainingScore_0 rfl rfl ?_
  refine I.iconst dX9_remainingScore_1 ?_
  refine I.pI 0 rfl dX9_remainingScore_2 jcls fX9_40 rfl (by decide) rfl ?_
  refine I.iconst dX9_remainingScore_5 ?_
  refine J.istore_n 1 dX9_remainingScore_6 rfl (by decide) rfl ?_
  refine I.iconst dX9_remainingScore_7 ?_
  refine J.istore_n 2 dX9_remainingScore_8 rfl (by decide) rfl ?_
  refine J.fgt (by exact ⟨Or.inr rfl, Or.inr rfl, Or.inr rfl, trivial⟩) (k_X9_remainingScore_9 hl (by omega) (MW.th p0) ((f (18 + f 1)).toNat) (by first | omega | (dsimp only; omega)) (by first | omega | (dsimp only; omega)) ?_)
  refine J.iload_n 1 dX9_remainingScore_31 rfl rfl ?_
  exact I.iretI dX9_remainingScore_32 rfl (by first | rfl | omega) rfl
set_option maxHeartbeats 1000000 in
theorem k_X9_tilesWith_36 {Γ : jE} (hl : Γ.1.stackTraces = false) {s : Nat → Int → Int} {ε : jEps} {d : Nat} {p : Int} {f : Int → Int} (hd : 3 ≤ d) (p0 : MW s f) (p1 : -2147483648 ≤ p ∧ p < 2147483648) {mc ms : Nat} {P : Option Value → jM → Prop} {X : String → jM → Prop} : ∀ (k : Nat) {t a c : Int} (q0 : ((k : Nat) : Int) = f (37 + c) - f (34 + c) + 1 - t) (q1 : 0 ≤ t) (qc : 0 ≤ c ∧ c < f (18 + f 1)) (qp : 0 ≤ p ∧ p ≤ 6) (kx : J Γ (d, mc, ms) mX9_tilesWith 69 [some (.ref 137), some (.int (iI p)), some (.int (iI (foldF (fun t a => if gT f c t / 10 = p ∨ gT f c t % 10 = p then a + 1 else a) k t a))), some (.int (iI (c))), none] [] (jmem s ε) P X), J Γ (d, mc, ms) mX9_tilesWith 36 [some (.ref 137), some (.int (iI p)), some (.int (iI (a))), some (.int (iI (c))), some (.int (iI (t)))] [] (jmem s ε) P X := by
  have hw := MW.w p0
  have ee := MW.e p0
  have g0 := @gT_rng f p0.l p0.v
  intro k
  induction k with
  | zero =>
    intro t a c q0 q1 qc qp kx
    have e := ee c qc.1 qc.2
    refine J.iload dX9_tilesWith_36 rfl ?_
    refine J.aload_n 0 dX9_tilesWith_38 rfl rfl ?_
    refine J.iload_n 3 dX9_tilesWith_39 rfl rfl ?_
    refine I.callV1i (d' := d - 1) (mi' := mX9_lengthOf) dX9_tilesWith_40 lX9_71 eX9_lengthOf rfl rfl (c_X9_lengthOf (d := d - 1) hl (by omega) (by first | assumption | exact MW.th (by assumption)) (by first | omega | assumption)) (show d - 1 + 1 ≤ d from by omega) (Nat.le_of_ble_eq_true rfl) ?_
    refine I.icmp_ge 69 dX9_tilesWith_43 (by decide) (by omega) (by omega) (fun h43 => ?_) (fun h43 => ?_)
    · skip
      exact J.fgt (by exact ⟨Or.inr rfl, Or.inr rfl, Or.inr rfl, Or.inr rfl, Or.inl rfl, trivial⟩) kx
    · exact absurd h43 (by omega)
  | succ k ih =>
    intro t a c q0 q1 qc qp kx
    have e := ee c qc.1 qc.2
    refine J.iload dX9_tilesWith_36 rfl ?_
    refine J.aload_n 0 dX9_tilesWith_38 rfl rfl ?_
    refine J.iload_n 3 dX9_tilesWith_39 rfl rfl ?_
    refine I.callV1i (d' := d - 1) (mi' := mX9_lengthOf) dX9_tilesWith_40 lX9_71 eX9_lengthOf rfl rfl (c_X9_lengthOf (d := d - 1) hl (by omega) (by first | assumption | exact MW.th (by assumption)) (by first | omega | assumption)) (show d - 1 + 1 ≤ d from by omega) (Nat.le_of_ble_eq_true rfl) ?_
    refine I.icmp_ge 69 dX9_tilesWith_43 (by decide) (by omega) (by omega) (fun h43 => ?_) (fun h43 => ?_)
    · exact absurd h43 (by omega)
    · skip
      have g1 := g0 qc.1 qc.2 (t := t) (by omega) (by omega)
      refine J.aload_n 0 dX9_tilesWith_46 rfl rfl ?_
      refine J.iload_n 3 dX9_tilesWith_47 rfl rfl ?_
      refine J.iload dX9_tilesWith_48 rfl ?_
      refine I.callV2i (d' := d - 1) (mi' := mX9_tileOf) dX9_tilesWith_50 lX9_256 eX9_tileOf rfl rfl (c_X9_tileOf (d := d - 1) hl (by omega) (by first | assumption | exact MW.th (by assumption)) (by first | omega | assumption) (by first | omega | assumption)) (show d - 1 + 1 ≤ d from by omega) (Nat.le_of_ble_eq_true rfl) ?_
      refine J.iload_n 1 dX9_tilesWith_53 rfl rfl ?_
      refine I.callS2i (d' := d - 1) (mi' := mX9_hasPips) dX9_tilesWith_54 lX9_262 eX9_hasPips rfl (c_X9_hasPips (d := d - 1) hl (by omega) (by first | omega | assumption) (by first | omega | assumption)) (show d - 1 + 1 ≤ d from by omega) (Nat.le_of_ble_eq_true rfl) ?_
      refine I.if_eqB 63 dX9_tilesWith_57 (by decide) (fun h57 => ?_) (fun h57 => ?_)
      · skip
        have e2 : (if gT f c t / 10 = p ∨ gT f c t % 10 = p then a + 1 else a) = a := if_neg h57
        refine I.iinc dX9_tilesWith_63 rfl rfl ?_
        refine J.goto 36 dX9_tilesWith_66 (by decide) ?_
        exact J.fgt (by exact ⟨Or.inr rfl, Or.inr rfl, Or.inr rfl, Or.inr rfl, Or.inr rfl, trivial⟩) (ih (by first | omega | (dsimp only; omega)) (by first | omega | (dsimp only; omega)) (by first | omega | (dsimp only; omega)) (by first | omega | (dsimp only; omega)) (by rw [foldF_s, e2] at kx; exact kx))
      · skip
        have e2 : (if gT f c t / 10 = p ∨ gT f c t % 10 = p then a + 1 else a) = a + 1 := if_pos h57
        refine I.iinc dX9_tilesWith_60 rfl rfl ?_
        refine I.iinc dX9_tilesWith_63 rfl rfl ?_
        refine J.goto 36 dX9_tilesWith_66 (by decide) ?_
        exact J.fgt (by exact ⟨Or.inr rfl, Or.inr rfl, Or.inr rfl, Or.inr rfl, Or.inr rfl, trivial⟩) (ih (by first | omega | (dsimp only; omega)) (by first | omega | (dsimp only; omega)) (by first | omega | (dsimp only; omega)) (by first | omega | (dsimp only; omega)) (by rw [foldF_s, e2] at kx; exact kx))
set_option maxHeartbeats 1000000 in
theorem k_X9_tilesWith_25 {Γ : jE} (hl : Γ.1.stackTraces = false) {s : Nat → Int → Int} {ε : jEps} {d : Nat} {p : Int} {f : Int → Int} (hd : 3 ≤ d) (p0 : MW s f) (p1 : -2147483648 ≤ p ∧ p < 2147483648) {mc ms : Nat} {P : Option Value → jM → Prop} {X : String → jM → Prop} : ∀ (k : Nat) {c a : Int} (q0 : ((k : Nat) : Int) = f (18 + f 1) - c) (q1 : 0 ≤ c) (qp : 0 ≤ p ∧ p ≤ 6) (kx : J Γ (d, mc, ms) mX9_tilesWith 75 [some (.ref 137), some (.int (iI p)), some (.int (iI (foldF (gWithC f p) k c a))), none, none] [] (jmem s ε) P X), J Γ (d, mc, ms) mX9_tilesWith 25 [some (.ref 137), some (.int (iI p)), some (.int (iI (a))), some (.int (iI (c))), none] [] (jmem s ε) P X := by
  have hw := MW.w p0
  have ee := MW.e p0
  have g0 := @gT_rng f p0.l p0.v
  intro k
  induction k with
  | zero =>
    intro c a q0 q1 qp kx
    refine J.iload_n 3 dX9_tilesWith_25 rfl rfl ?_
    refine J.aload_n 0 dX9_tilesWith_26 rfl rfl ?_
    refine I.callV0i (d' := d - 1) (mi' := mX9_chains) dX9_tilesWith_27 lX9_59 eX9_chains rfl rfl (c_X9_chains (d := d - 1) hl (by omega) (by first | assumption | exact MW.th (by assumption))) (show d - 1 + 1 ≤ d from by omega) (Nat.le_of_ble_eq_true rfl) ?_
    refine I.icmp_ge 75 dX9_tilesWith_30 (by decide) (by omega) (by omega) (fun h30 => ?_) (fun h30 => ?_)
    · skip
      exact J.fgt (by exact ⟨Or.inr rfl, Or.inr rfl, Or.inr rfl, Or.inl rfl, Or.inl rfl, trivial⟩) kx
    · exact absurd h30 (by omega)
  | succ k ih =>
    intro c a q0 q1 qp kx
    refine J.iload_n 3 dX9_tilesWith_25 rfl rfl ?_
    refine J.aload_n 0 dX9_tilesWith_26 rfl rfl ?_
    refine I.callV0i (d' := d - 1) (mi' := mX9_chains) dX9_tilesWith_27 lX9_59 eX9_chains rfl rfl (c_X9_chains (d := d - 1) hl (by omega) (by first | assumption | exact MW.th (by assumption))) (show d - 1 + 1 ≤ d from by omega) (Nat.le_of_ble_eq_true rfl) ?_
    refine I.icmp_ge 75 dX9_tilesWith_30 (by decide) (by omega) (by omega) (fun h30 => ?_) (fun h30 => ?_)
    · exact absurd h30 (by omega)
    · skip
      have e := ee c (by omega) (by omega)
      refine I.iconst dX9_tilesWith_33 ?_
      refine J.istore dX9_tilesWith_34 (by decide) rfl ?_
      refine J.fgt (by exact ⟨Or.inr rfl, Or.inr rfl, Or.inr rfl, Or.inr rfl, Or.inr rfl, trivial⟩) (k_X9_tilesWith_36 hl (by omega) p0 p1 ((f (37 + c) - f (34 + c) + 1).toNat) (by first | omega | (dsimp only; omega)) (by first | omega | (dsimp only; omega)) (by first | omega | (dsimp only; omega)) (by first | omega | (dsimp only; omega)) ?_)
      refine I.iinc dX9_tilesWith_69 rfl rfl ?_
      refine J.goto 25 dX9_tilesWith_72 (by decide) ?_
      exact J.fgt (by exact ⟨Or.inr rfl, Or.inr rfl, Or.inr rfl, Or.inr rfl, Or.inl rfl, trivial⟩) (ih (by first | omega | (dsimp only; omega)) (by first | omega | (dsimp only; omega)) (by first | omega | (dsimp only; omega)) kx)
set_option maxHeartbeats 1000000 in
theorem c_X9_tilesWith {Γ : jE} (hl : Γ.1.stackTraces = false) {s : Nat → Int → Int} {ε : jEps} {d : Nat} {p : Int} {f : Int → Int} (hd : 3 ≤ d) (p0 : MW s f) (p1 : -2147483648 ≤ p ∧ p < 2147483648) : Con Γ (d, 0, 0) mX9_tilesWith [.ref 137, .int (iI p)] (jmem s ε) (RQ (fun w s' => ((0 ≤ p ∧ p ≤ 6) ∧ gWith f p = w ∧ s' = up s 137 0 0) ∨ (¬ (0 ≤ p ∧ p ≤ 6) ∧ s' = up s 137 0 1)) ε) X0 := by
  refine Con.ofJ (by decide +kernel) (by simp [Value.category]) (Nat.le_of_ble_eq_true rfl) ?_ hl
  have hw := MW.w p0
  have ee := MW.e p0
  have g0 := @gT_rng f p0.l p0.v
  refine J.aload_n 0 dX9_tilesWith_0 rfl rfl ?_
  refine I.iconst dX9_tilesWith_1 ?_
  refine I.pI 0 rfl dX9_tilesWith_2 jcls fX9_40 rfl (by decide) rfl ?_
  refine J.iload_n 1 dX9_tilesWith_5 rfl rfl ?_
  refine I.if_lt 15 dX9_tilesWith_6 (by decide) (by omega) (fun h6 => ?_) (fun h6 => ?_)
  · skip
    refine J.aload_n 0 dX9_tilesWith_15 rfl rfl ?_
    refine I.iconst dX9_tilesWith_16 ?_
    refine I.callV1i (d' := d - 1) (mi' := mX9_fails) dX9_tilesWith_17 lX9_219 eX9_fails rfl rfl (c_X9_fails (d := d - 1) hl (by omega) ) (show d - 1 + 1 ≤ d from by omega) (Nat.le_of_ble_eq_true rfl) ?_
    exact I.iretQ dX9_tilesWith_20 rfl (by first | exact Or.inl ⟨by first | assumption | exact ⟨by assumption, by assumption⟩ | omega, by first | rfl | assumption | omega | exact bI_t (by first | assumption | omega) | exact bI_f (by first | assumption | omega), rfl⟩ | exact Or.inr ⟨by first | assumption | omega, up_up⟩)
  · skip
    refine J.iload_n 1 dX9_tilesWith_9 rfl rfl ?_
    refine I.bipush dX9_tilesWith_10 (by decide) ?_
    refine I.icmp_le 21 dX9_tilesWith_12 (by decide) (by omega) (by omega) (fun h12 => ?_) (fun h12 => ?_)
    · skip
      refine I.iconst dX9_tilesWith_21 ?_
      refine J.istore_n 2 dX9_tilesWith_22 rfl (by decide) rfl ?_
      refine I.iconst dX9_tilesWith_23 ?_
      refine J.istore_n 3 dX9_tilesWith_24 rfl (by decide) rfl ?_
      refine J.fgt (by exact ⟨Or.inr rfl, Or.inr rfl, Or.inr rfl, Or.inr rfl, Or.inl rfl, trivial⟩) (k_X9_tilesWith_25 hl (by omega) (MW.th p0) p1 ((f (18 + f 1)).toNat) (by first | omega | (dsimp only; omega)) (by first | omega | (dsimp only; omega)) (by first | omega | (dsimp only; omega)) ?_)
      refine J.iload_n 2 dX9_tilesWith_75 rfl rfl ?_
      exact I.iretQ dX9_tilesWith_76 rfl (by first | exact Or.inl ⟨by first | assumption | exact ⟨by assumption, by assumption⟩ | omega, by first | rfl | assumption | omega | exact bI_t (by first | assumption | omega) | exact bI_f (by first | assumption | omega), rfl⟩ | exact Or.inr ⟨by first | assumption | omega, up_up⟩)
    · skip
      refine J.aload_n 0 dX9_tilesWith_15 rfl rfl ?_
      refine I.iconst dX9_tilesWith_16 ?_
      refine I.callV1i (d' := d - 1) (mi' := mX9_fails) dX9_tilesWith_17 lX9_219 eX9_fails rfl rfl (c_X9_fails (d := d - 1) hl (by omega) ) (show d - 1 + 1 ≤ d from by omega) (Nat.le_of_ble_eq_true rfl) ?_
      exact I.iretQ dX9_tilesWith_20 rfl (by first | exact Or.inl ⟨by first | assumption | exact ⟨by assumption, by assumption⟩ | omega, by first | rfl | assumption | omega | exact bI_t (by first | assumption | omega) | exact bI_f (by first | assumption | omega), rfl⟩ | exact Or.inr ⟨by first | assumption | omega, up_up⟩)
set_option maxHeartbeats 1000000 in
theorem k_X9_doubleCount_19 {Γ : jE} (hl : Γ.1.stackTraces = false) {s : Nat → Int → Int} {ε : jEps} {d : Nat} {f : Int → Int} (hd : 3 ≤ d) (p0 : MW s f) {mc ms : Nat} {P : Option Value → jM → Prop} {X : String → jM → Prop} : ∀ (k : Nat) {t a c : Int} (q0 : ((k : Nat) : Int) = f (37 + c) - f (34 + c) + 1 - t) (q1 : 0 ≤ t) (qc : 0 ≤ c ∧ c < f (18 + f 1)) (kx : J Γ (d, mc, ms) mX9_doubleCount 49 [some (.ref 137), some (.int (iI (foldF (fun t a => if gT f c t / 10 = gT f c t % 10 then a + 1 else a) k t a))), some (.int (iI (c))), none] [] (jmem s ε) P X), J Γ (d, mc, ms) mX9_doubleCount 19 [some (.ref 137), some (.int (iI (a))), some (.int (iI (c))), some (.int (iI (t)))] [] (jmem s ε) P X := by
  have hw := MW.w p0
  have ee := MW.e p0
  have g0 := @gT_rng f p0.l p0.v
  intro k
  induction k with
  | zero =>
    intro t a c q0 q1 qc kx
    have e := ee c qc.1 qc.2
    refine J.iload_n 3 dX9_doubleCount_19 rfl rfl ?_
    refine J.aload_n 0 dX9_doubleCount_20 rfl rfl ?_
    refine J.iload_n 2 dX9_doubleCount_21 rfl rfl ?_
    refine I.callV1i (d' := d - 1) (mi' := mX9_lengthOf) dX9_doubleCount_22 lX9_71 eX9_lengthOf rfl rfl (c_X9_lengthOf (d := d - 1) hl (by omega) (by first | assumption | exact MW.th (by assumption)) (by first | omega | assumption)) (show d - 1 + 1 ≤ d from by omega) (Nat.le_of_ble_eq_true rfl) ?_
    refine I.icmp_ge 49 dX9_doubleCount_25 (by decide) (by omega) (by omega) (fun h25 => ?_) (fun h25 => ?_)
    · skip
      exact J.fgt (by exact ⟨Or.inr rfl, Or.inr rfl, Or.inr rfl, Or.inl rfl, trivial⟩) kx
    · exact absurd h25 (by omega)
  | succ k ih =>
    intro t a c q0 q1 qc kx
    have e := ee c qc.1 qc.2
    refine J.iload_n 3 dX9_doubleCount_19 rfl rfl ?_
    refine J.aload_n 0 dX9_doubleCount_20 rfl rfl ?_
    refine J.iload_n 2 dX9_doubleCount_21 rfl rfl ?_
    refine I.callV1i (d' := d - 1) (mi' := mX9_lengthOf) dX9_doubleCount_22 lX9_71 eX9_lengthOf rfl rfl (c_X9_lengthOf (d := d - 1) hl (by omega) (by first | assumption | exact MW.th (by assumption)) (by first | omega | assumption)) (show d - 1 + 1 ≤ d from by omega) (Nat.le_of_ble_eq_true rfl) ?_
    refine I.icmp_ge 49 dX9_doubleCount_25 (by decide) (by omega) (by omega) (fun h25 => ?_) (fun h25 => ?_)
    · exact absurd h25 (by omega)
    · skip
      have g1 := g0 qc.1 qc.2 (t := t) (by omega) (by omega)
      refine J.aload_n 0 dX9_doubleCount_28 rfl rfl ?_
      refine J.iload_n 2 dX9_doubleCount_29 rfl rfl ?_
      refine J.iload_n 3 dX9_doubleCount_30 rfl rfl ?_
      refine I.callV2i (d' := d - 1) (mi' := mX9_tileOf) dX9_doubleCount_31 lX9_256 eX9_tileOf rfl rfl (c_X9_tileOf (d := d - 1) hl (by omega) (by first | assumption | exact MW.th (by assumption)) (by first | omega | assumption) (by first | omega | assumption)) (show d - 1 + 1 ≤ d from by omega) (Nat.le_of_ble_eq_true rfl) ?_
      refine I.callS1i (d' := d - 1) (mi' := mX9_isDouble) dX9_doubleCount_34 lX9_67 eX9_isDouble rfl (c_X9_isDouble (d := d - 1) hl (by omega) (by first | omega | assumption)) (show d - 1 + 1 ≤ d from by omega) (Nat.le_of_ble_eq_true rfl) ?_
      refine I.if_eqB 43 dX9_doubleCount_37 (by decide) (fun h37 => ?_) (fun h37 => ?_)
      · skip
        have e2 : (if gT f c t / 10 = gT f c t % 10 then a + 1 else a) = a := if_neg h37
        refine I.iinc dX9_doubleCount_43 rfl rfl ?_
        refine J.goto 19 dX9_doubleCount_46 (by decide) ?_
        exact J.fgt (by exact ⟨Or.inr rfl, Or.inr rfl, Or.inr rfl, Or.inr rfl, trivial⟩) (ih (by first | omega | (dsimp only; omega)) (by first | omega | (dsimp only; omega)) (by first | omega | (dsimp only; omega)) (by rw [foldF_s, e2] at kx; exact kx))
      · skip
        have e2 : (if gT f c t / 10 = gT f c t % 10 then a + 1 else a) = a + 1 := if_pos h37
        refine I.iinc dX9_doubleCount_40 rfl rfl ?_
        refine I.iinc dX9_doubleCount_43 rfl rfl ?_
        refine J.goto 19 dX9_doubleCount_46 (by decide) ?_
        exact J.fgt (by exact ⟨Or.inr rfl, Or.inr rfl, Or.inr rfl, Or.inr rfl, trivial⟩) (ih (by first | omega | (dsimp only; omega)) (by first | omega | (dsimp only; omega)) (by first | omega | (dsimp only; omega)) (by rw [foldF_s, e2] at kx; exact kx))
set_option maxHeartbeats 1000000 in
theorem k_X9_doubleCount_9 {Γ : jE} (hl : Γ.1.stackTraces = false) {s : Nat → Int → Int} {ε : jEps} {d : Nat} {f : Int → Int} (hd : 3 ≤ d) (p0 : MW s f) {mc ms : Nat} {P : Option Value → jM → Prop} {X : String → jM → Prop} : ∀ (k : Nat) {c a : Int} (q0 : ((k : Nat) : Int) = f (18 + f 1) - c) (q1 : 0 ≤ c) (kx : J Γ (d, mc, ms) mX9_doubleCount 55 [some (.ref 137), some (.int (iI (foldF (gDblC f) k c a))), none, none] [] (jmem s ε) P X), J Γ (d, mc, ms) mX9_doubleCount 9 [some (.ref 137), some (.int (iI (a))), some (.int (iI (c))), none] [] (jmem s ε) P X := by
  have hw := MW.w p0
  have ee := MW.e p0
  have g0 := @gT_rng f p0.l p0.v
  intro k
  induction k with
  | zero =>
    intro c a q0 q1 kx
    refine J.iload_n 2 dX9_doubleCount_9 rfl rfl ?_
    refine J.aload_n 0 dX9_doubleCount_10 rfl rfl ?_
    refine I.callV0i (d' := d - 1) (mi' := mX9_chains) dX9_doubleCount_11 lX9_59 eX9_chains rfl rfl (c_X9_chains (d := d - 1) hl (by omega) (by first | assumption | exact MW.th (by assumption))) (show d - 1 + 1 ≤ d from by omega) (Nat.le_of_ble_eq_true rfl) ?_
    refine I.icmp_ge 55 dX9_doubleCount_14 (by decide) (by omega) (by omega) (fun h14 => ?_) (fun h14 => ?_)
    · skip
      exact J.fgt (by exact ⟨Or.inr rfl, Or.inr rfl, Or.inl rfl, Or.inl rfl, trivial⟩) kx
    · exact absurd h14 (by omega)
  | succ k ih =>
    intro c a q0 q1 kx
    refine J.iload_n 2 dX9_doubleCount_9 rfl rfl ?_
    refine J.aload_n 0 dX9_doubleCount_10 rfl rfl ?_
    refine I.callV0i (d' := d - 1) (mi' := mX9_chains) dX9_doubleCount_11 lX9_59 eX9_chains rfl rfl (c_X9_chains (d := d - 1) hl (by omega) (by first | assumption | exact MW.th (by assumption))) (show d - 1 + 1 ≤ d from by omega) (Nat.le_of_ble_eq_true rfl) ?_
    refine I.icmp_ge 55 dX9_doubleCount_14 (by decide) (by omega) (by omega) (fun h14 => ?_) (fun h14 => ?_)
    · exact absurd h14 (by omega)
    · skip
      have e := ee c (by omega) (by omega)
      refine I.iconst dX9_doubleCount_17 ?_
      refine J.istore_n 3 dX9_doubleCount_18 rfl (by decide) rfl ?_
      refine J.fgt (by exact ⟨Or.inr rfl, Or.inr rfl, Or.inr rfl, Or.inr rfl, trivial⟩) (k_X9_doubleCount_19 hl (by omega) p0 ((f (37 + c) - f (34 + c) + 1).toNat) (by first | omega | (dsimp only; omega)) (by first | omega | (dsimp only; omega)) (by first | omega | (dsimp only; omega)) ?_)
      refine I.iinc dX9_doubleCount_49 rfl rfl ?_
      refine J.goto 9 dX9_doubleCount_52 (by decide) ?_
      exact J.fgt (by exact ⟨Or.inr rfl, Or.inr rfl, Or.inr rfl, Or.inl rfl, trivial⟩) (ih (by first | omega | (dsimp only; omega)) (by first | omega | (dsimp only; omega)) kx)
set_option maxHeartbeats 1000000 in
theorem c_X9_doubleCount {Γ : jE} (hl : Γ.1.stackTraces = false) {s : Nat → Int → Int} {ε : jEps} {d : Nat} {f : Int → Int} (hd : 3 ≤ d) (p0 : MW s f) : Con Γ (d, 0, 0) mX9_doubleCount [.ref 137] (jmem s ε) (RI (gDbl f) (up s 137 0 0) ε) X0 := by
  refine Con.ofJ (by decide +kernel) (by simp [Value.category]) (Nat.le_of_ble_eq_true rfl) ?_ hl
  have hw := MW.w p0
  have ee := MW.e p0
  have g0 := @gT_rng f p0.l p0.v
  refine J.aload_n 0 dX9_doubleCount_0 rfl rfl ?_
  refine I.iconst dX9_doubleCount_1 ?_
  refine I.pI 0 rfl dX9_doubleCount_2 jcls fX9_40 rfl (by decide) rfl ?_
  refine I.iconst dX9_doubleCount_5 ?_
  refine J.istore_n 1 dX9_doubleCount_6 rfl (by decide) rfl ?_
  refine I.iconst dX9_doubleCount_7 ?_
  refine J.istore_n 2 dX9_doubleCount_8 rfl (by decide) rfl ?_
  refine J.fgt (by exact ⟨Or.inr rfl, Or.inr rfl, Or.inr rfl, Or.inl rfl, trivial⟩) (k_X9_doubleCount_9 hl (by omega) (MW.th p0) ((f (18 + f 1)).toNat) (by first | omega | (dsimp only; omega)) (by first | omega | (dsimp only; omega)) ?_)
  refine J.iload_n 1 dX9_doubleCount_55 rfl rfl ?_
  exact I.iretI dX9_doubleCount_56 rfl (by first | rfl | omega) rfl
set_option maxHeartbeats 1000000 in
theorem c_X9_isPass {Γ : jE} (hl : Γ.1.stackTraces = false) {s : Nat → Int → Int} {ε : jEps} {d : Nat} {i : Int} {f : Int → Int} (hd : 7 ≤ d) (p0 : MW s f) (p1 : -2147483648 ≤ i ∧ i < 2147483648) : Con Γ (d, 0, 0) mX9_isPass [.ref 137, .int (iI i)] (jmem s ε) (RQ (fun w s' => ((0 ≤ i ∧ i < gMoves f) ∧ bI (gMvAt f i = 6) = w ∧ s' = up s 137 0 0) ∨ (¬ (0 ≤ i ∧ i < gMoves f) ∧ s' = up s 137 0 1)) ε) X0 := by
  refine Con.ofJ (by decide +kernel) (by simp [Value.category]) (Nat.le_of_ble_eq_true rfl) ?_ hl
  have hw := MW.w p0
  have hm7 := gMoves_rng hw.2.2.1
  refine J.aload_n 0 dX9_isPass_0 rfl rfl ?_
  refine I.iconst dX9_isPass_1 ?_
  refine I.pI 0 rfl dX9_isPass_2 jcls fX9_40 rfl (by decide) rfl ?_
  refine J.aload_n 0 dX9_isPass_5 rfl rfl ?_
  refine J.iload_n 1 dX9_isPass_6 rfl rfl ?_
  refine I.callV1i (d' := d - 1) (mi' := mX9_isMove) dX9_isPass_7 lX9_265 eX9_isMove rfl rfl (c_X9_isMove (d := d - 1) hl (by omega) (by first | assumption | exact MW.th (by assumption)) (by first | omega | assumption)) (show d - 1 + 1 ≤ d from by omega) (Nat.le_of_ble_eq_true rfl) ?_
  refine I.if_eqB 31 dX9_isPass_10 (by decide) (fun h10 => ?_) (fun h10 => ?_)
  · skip
    refine J.aload_n 0 dX9_isPass_31 rfl rfl ?_
    refine I.iconst dX9_isPass_32 ?_
    refine I.callV1i (d' := d - 1) (mi' := mX9_fails) dX9_isPass_33 lX9_219 eX9_fails rfl rfl (c_X9_fails (d := d - 1) hl (by omega) ) (show d - 1 + 1 ≤ d from by omega) (Nat.le_of_ble_eq_true rfl) ?_
    refine I.iconst dX9_isPass_36 ?_
    refine I.icmp_ne 44 dX9_isPass_37 (by decide) (by omega) (by omega) (fun h37 => ?_) (fun h37 => ?_)
    · skip
      refine I.iconst dX9_isPass_44 ?_
      exact I.zretQ dX9_isPass_45 rfl (by first | exact Or.inl rfl | exact Or.inr rfl | exact bI_01 _ | omega) (by first | exact Or.inl ⟨by first | assumption | exact ⟨by assumption, by assumption⟩ | omega, by first | rfl | assumption | omega | exact bI_t (by first | assumption | omega) | exact bI_f (by first | assumption | omega), rfl⟩ | exact Or.inr ⟨by first | assumption | omega, up_up⟩)
    · skip
      refine I.iconst dX9_isPass_40 ?_
      refine J.goto 45 dX9_isPass_41 (by decide) ?_
      exact I.zretQ dX9_isPass_45 rfl (by first | exact Or.inl rfl | exact Or.inr rfl | exact bI_01 _ | omega) (by first | exact Or.inl ⟨by first | assumption | exact ⟨by assumption, by assumption⟩ | omega, by first | rfl | assumption | omega | exact bI_t (by first | assumption | omega) | exact bI_f (by first | assumption | omega), rfl⟩ | exact Or.inr ⟨by first | assumption | omega, up_up⟩)
  · skip
    have hlg2 := gMvAt_legal (f := f) hw.2.2.1 h10.1
    have hz := gLegal_rng hw.2.2.1 hlg2.ok
    refine J.aload_n 0 dX9_isPass_13 rfl rfl ?_
    refine J.iload_n 1 dX9_isPass_14 rfl rfl ?_
    refine I.callV1i (d' := d - 1) (mi' := mX9_moveAt) dX9_isPass_15 lX9_132 eX9_moveAt rfl rfl (c_X9_moveAt (d := d - 1) hl (by omega) (by first | assumption | exact MW.th (by assumption)) (by first | omega | assumption)) (show d - 1 + 1 ≤ d from by omega) (Nat.le_of_ble_eq_true rfl) ?_
    refine I.bipush dX9_isPass_18 (by decide) ?_
    refine I.icmp_ne 27 dX9_isPass_20 (by decide) (by omega) (by omega) (fun h20 => ?_) (fun h20 => ?_)
    · skip
      refine I.iconst dX9_isPass_27 ?_
      refine J.goto 45 dX9_isPass_28 (by decide) ?_
      exact I.zretQ dX9_isPass_45 rfl (by first | exact Or.inl rfl | exact Or.inr rfl | exact bI_01 _ | omega) (by first | exact Or.inl ⟨by first | assumption | exact ⟨by assumption, by assumption⟩ | omega, by first | rfl | assumption | omega | exact bI_t (by first | assumption | omega) | exact bI_f (by first | assumption | omega), rfl⟩ | exact Or.inr ⟨by first | assumption | omega, up_up⟩)
    · skip
      refine I.iconst dX9_isPass_23 ?_
      refine J.goto 45 dX9_isPass_24 (by decide) ?_
      exact I.zretQ dX9_isPass_45 rfl (by first | exact Or.inl rfl | exact Or.inr rfl | exact bI_01 _ | omega) (by first | exact Or.inl ⟨by first | assumption | exact ⟨by assumption, by assumption⟩ | omega, by first | rfl | assumption | omega | exact bI_t (by first | assumption | omega) | exact bI_f (by first | assumption | omega), rfl⟩ | exact Or.inr ⟨by first | assumption | omega, up_up⟩)
set_option maxHeartbeats 1000000 in
theorem c_X9_moveChain {Γ : jE} (hl : Γ.1.stackTraces = false) {s : Nat → Int → Int} {ε : jEps} {d : Nat} {i : Int} {f : Int → Int} (hd : 7 ≤ d) (p0 : MW s f) (p1 : -2147483648 ≤ i ∧ i < 2147483648) : Con Γ (d, 0, 0) mX9_moveChain [.ref 137, .int (iI i)] (jmem s ε) (RQ (fun w s' => ((0 ≤ i ∧ i < gMoves f) ∧ gChn (gMvAt f i) = w ∧ s' = up s 137 0 0) ∨ (¬ (0 ≤ i ∧ i < gMoves f) ∧ s' = up s 137 0 1)) ε) X0 := by
  refine Con.ofJ (by decide +kernel) (by simp [Value.category]) (Nat.le_of_ble_eq_true rfl) ?_ hl
  have hw := MW.w p0
  have hm7 := gMoves_rng hw.2.2.1
  refine J.aload_n 0 dX9_moveChain_0 rfl rfl ?_
  refine I.iconst dX9_moveChain_1 ?_
  refine I.pI 0 rfl dX9_moveChain_2 jcls fX9_40 rfl (by decide) rfl ?_
  refine J.aload_n 0 dX9_moveChain_5 rfl rfl ?_
  refine J.iload_n 1 dX9_moveChain_6 rfl rfl ?_
  refine I.callV1i (d' := d - 1) (mi' := mX9_isMove) dX9_moveChain_7 lX9_265 eX9_isMove rfl rfl (c_X9_isMove (d := d - 1) hl (by omega) (by first | assumption | exact MW.th (by assumption)) (by first | omega | assumption)) (show d - 1 + 1 ≤ d from by omega) (Nat.le_of_ble_eq_true rfl) ?_
  refine I.if_neB 19 dX9_moveChain_10 (by decide) (fun h10 => ?_) (fun h10 => ?_)
  · skip
    have hlg2 := gMvAt_legal (f := f) hw.2.2.1 h10.1
    have hz := gLegal_rng hw.2.2.1 hlg2.ok
    refine J.aload_n 0 dX9_moveChain_19 rfl rfl ?_
    refine J.iload_n 1 dX9_moveChain_20 rfl rfl ?_
    refine I.callV1i (d' := d - 1) (mi' := mX9_moveAt) dX9_moveChain_21 lX9_132 eX9_moveAt rfl rfl (c_X9_moveAt (d := d - 1) hl (by omega) (by first | assumption | exact MW.th (by assumption)) (by first | omega | assumption)) (show d - 1 + 1 ≤ d from by omega) (Nat.le_of_ble_eq_true rfl) ?_
    refine I.bipush dX9_moveChain_24 (by decide) ?_
    refine I.icmp_ne 33 dX9_moveChain_26 (by decide) (by omega) (by omega) (fun h26 => ?_) (fun h26 => ?_)
    · skip
      refine J.aload_n 0 dX9_moveChain_33 rfl rfl ?_
      refine J.iload_n 1 dX9_moveChain_34 rfl rfl ?_
      refine I.callV1i (d' := d - 1) (mi' := mX9_moveAt) dX9_moveChain_35 lX9_132 eX9_moveAt rfl rfl (c_X9_moveAt (d := d - 1) hl (by omega) (by first | assumption | exact MW.th (by assumption)) (by first | omega | assumption)) (show d - 1 + 1 ≤ d from by omega) (Nat.le_of_ble_eq_true rfl) ?_
      refine I.iconst dX9_moveChain_38 ?_
      refine I.div dX9_moveChain_39 (by omega) (by omega) ?_
      exact I.iretQ dX9_moveChain_40 rfl (by first | exact Or.inr ⟨by assumption, up_up⟩ | exact Or.inl ⟨by assumption, (by unfold gChn; omega), rfl⟩)
    · skip
      refine I.iconst dX9_moveChain_29 ?_
      refine J.goto 40 dX9_moveChain_30 (by decide) ?_
      exact I.iretQ dX9_moveChain_40 rfl (by first | exact Or.inr ⟨by assumption, up_up⟩ | exact Or.inl ⟨by assumption, (by unfold gChn; omega), rfl⟩)
  · skip
    refine J.aload_n 0 dX9_moveChain_13 rfl rfl ?_
    refine I.iconst dX9_moveChain_14 ?_
    refine I.callV1i (d' := d - 1) (mi' := mX9_fails) dX9_moveChain_15 lX9_219 eX9_fails rfl rfl (c_X9_fails (d := d - 1) hl (by omega) ) (show d - 1 + 1 ≤ d from by omega) (Nat.le_of_ble_eq_true rfl) ?_
    exact I.iretQ dX9_moveChain_18 rfl (by first | exact Or.inr ⟨by assumption, up_up⟩ | exact Or.inl ⟨by assumption, (by unfold gChn; omega), rfl⟩)
set_option maxHeartbeats 1000000 in
theorem c_X9_isLeftBurn {Γ : jE} (hl : Γ.1.stackTraces = false) {s : Nat → Int → Int} {ε : jEps} {d : Nat} {i : Int} {f : Int → Int} (hd : 7 ≤ d) (p0 : MW s f) (p1 : -2147483648 ≤ i ∧ i < 2147483648) : Con Γ (d, 0, 0) mX9_isLeftBurn [.ref 137, .int (iI i)] (jmem s ε) (RQ (fun w s' => ((0 ≤ i ∧ i < gMoves f) ∧ bI (gMvAt f i ≠ 6 ∧ gMvAt f i % 2 = 0) = w ∧ s' = up s 137 0 0) ∨ (¬ (0 ≤ i ∧ i < gMoves f) ∧ s' = up s 137 0 1)) ε) X0 := by
  refine Con.ofJ (by decide +kernel) (by simp [Value.category]) (Nat.le_of_ble_eq_true rfl) ?_ hl
  have hw := MW.w p0
  have hm7 := gMoves_rng hw.2.2.1
  refine J.aload_n 0 dX9_isLeftBurn_0 rfl rfl ?_
  refine I.iconst dX9_isLeftBurn_1 ?_
  refine I.pI 0 rfl dX9_isLeftBurn_2 jcls fX9_40 rfl (by decide) rfl ?_
  refine J.aload_n 0 dX9_isLeftBurn_5 rfl rfl ?_
  refine J.iload_n 1 dX9_isLeftBurn_6 rfl rfl ?_
  refine I.callV1i (d' := d - 1) (mi' := mX9_isMove) dX9_isLeftBurn_7 lX9_265 eX9_isMove rfl rfl (c_X9_isMove (d := d - 1) hl (by omega) (by first | assumption | exact MW.th (by assumption)) (by first | omega | assumption)) (show d - 1 + 1 ≤ d from by omega) (Nat.le_of_ble_eq_true rfl) ?_
  refine I.if_eqB 41 dX9_isLeftBurn_10 (by decide) (fun h10 => ?_) (fun h10 => ?_)
  · skip
    refine J.aload_n 0 dX9_isLeftBurn_41 rfl rfl ?_
    refine I.iconst dX9_isLeftBurn_42 ?_
    refine I.callV1i (d' := d - 1) (mi' := mX9_fails) dX9_isLeftBurn_43 lX9_219 eX9_fails rfl rfl (c_X9_fails (d := d - 1) hl (by omega) ) (show d - 1 + 1 ≤ d from by omega) (Nat.le_of_ble_eq_true rfl) ?_
    refine I.iconst dX9_isLeftBurn_46 ?_
    refine I.icmp_ne 54 dX9_isLeftBurn_47 (by decide) (by omega) (by omega) (fun h47 => ?_) (fun h47 => ?_)
    · skip
      refine I.iconst dX9_isLeftBurn_54 ?_
      exact I.zretQ dX9_isLeftBurn_55 rfl (by first | exact Or.inl rfl | exact Or.inr rfl | exact bI_01 _ | omega) (by first | exact Or.inl ⟨by first | assumption | exact ⟨by assumption, by assumption⟩ | omega, by first | rfl | assumption | omega | exact bI_t (by first | assumption | omega) | exact bI_f (by first | assumption | omega), rfl⟩ | exact Or.inr ⟨by first | assumption | omega, up_up⟩)
    · skip
      refine I.iconst dX9_isLeftBurn_50 ?_
      refine J.goto 55 dX9_isLeftBurn_51 (by decide) ?_
      exact I.zretQ dX9_isLeftBurn_55 rfl (by first | exact Or.inl rfl | exact Or.inr rfl | exact bI_01 _ | omega) (by first | exact Or.inl ⟨by first | assumption | exact ⟨by assumption, by assumption⟩ | omega, by first | rfl | assumption | omega | exact bI_t (by first | assumption | omega) | exact bI_f (by first | assumption | omega), rfl⟩ | exact Or.inr ⟨by first | assumption | omega, up_up⟩)
  · skip
    have hlg2 := gMvAt_legal (f := f) hw.2.2.1 h10.1
    have hz := gLegal_rng hw.2.2.1 hlg2.ok
    refine J.aload_n 0 dX9_isLeftBurn_13 rfl rfl ?_
    refine J.iload_n 1 dX9_isLeftBurn_14 rfl rfl ?_
    refine I.callV1i (d' := d - 1) (mi' := mX9_moveAt) dX9_isLeftBurn_15 lX9_132 eX9_moveAt rfl rfl (c_X9_moveAt (d := d - 1) hl (by omega) (by first | assumption | exact MW.th (by assumption)) (by first | omega | assumption)) (show d - 1 + 1 ≤ d from by omega) (Nat.le_of_ble_eq_true rfl) ?_
    refine I.bipush dX9_isLeftBurn_18 (by decide) ?_
    refine I.icmp_eq 37 dX9_isLeftBurn_20 (by decide) (by omega) (by omega) (fun h20 => ?_) (fun h20 => ?_)
    · skip
      refine I.iconst dX9_isLeftBurn_37 ?_
      refine J.goto 55 dX9_isLeftBurn_38 (by decide) ?_
      exact I.zretQ dX9_isLeftBurn_55 rfl (by first | exact Or.inl rfl | exact Or.inr rfl | exact bI_01 _ | omega) (by first | exact Or.inl ⟨by first | assumption | exact ⟨by assumption, by assumption⟩ | omega, by first | rfl | assumption | omega | exact bI_t (by first | assumption | omega) | exact bI_f (by first | assumption | omega), rfl⟩ | exact Or.inr ⟨by first | assumption | omega, up_up⟩)
    · skip
      refine J.aload_n 0 dX9_isLeftBurn_23 rfl rfl ?_
      refine J.iload_n 1 dX9_isLeftBurn_24 rfl rfl ?_
      refine I.callV1i (d' := d - 1) (mi' := mX9_moveAt) dX9_isLeftBurn_25 lX9_132 eX9_moveAt rfl rfl (c_X9_moveAt (d := d - 1) hl (by omega) (by first | assumption | exact MW.th (by assumption)) (by first | omega | assumption)) (show d - 1 + 1 ≤ d from by omega) (Nat.le_of_ble_eq_true rfl) ?_
      refine I.iconst dX9_isLeftBurn_28 ?_
      refine I.rem dX9_isLeftBurn_29 (by omega) (by omega) ?_
      refine I.if_ne 37 dX9_isLeftBurn_30 (by decide) (by omega) (fun h30 => ?_) (fun h30 => ?_)
      · skip
        refine I.iconst dX9_isLeftBurn_37 ?_
        refine J.goto 55 dX9_isLeftBurn_38 (by decide) ?_
        exact I.zretQ dX9_isLeftBurn_55 rfl (by first | exact Or.inl rfl | exact Or.inr rfl | exact bI_01 _ | omega) (by first | exact Or.inl ⟨by first | assumption | exact ⟨by assumption, by assumption⟩ | omega, by first | rfl | assumption | omega | exact bI_t (by first | assumption | omega) | exact bI_f (by first | assumption | omega), rfl⟩ | exact Or.inr ⟨by first | assumption | omega, up_up⟩)
      · skip
        refine I.iconst dX9_isLeftBurn_33 ?_
        refine J.goto 55 dX9_isLeftBurn_34 (by decide) ?_
        exact I.zretQ dX9_isLeftBurn_55 rfl (by first | exact Or.inl rfl | exact Or.inr rfl | exact bI_01 _ | omega) (by first | exact Or.inl ⟨by first | assumption | exact ⟨by assumption, by assumption⟩ | omega, by first | rfl | assumption | omega | exact bI_t (by first | assumption | omega) | exact bI_f (by first | assumption | omega), rfl⟩ | exact Or.inr ⟨by first | assumption | omega, up_up⟩)
set_option maxHeartbeats 1000000 in
theorem c_X9_moveScore {Γ : jE} (hl : Γ.1.stackTraces = false) {s : Nat → Int → Int} {ε : jEps} {d : Nat} {i : Int} {f : Int → Int} (hd : 7 ≤ d) (p0 : MW s f) (p1 : -2147483648 ≤ i ∧ i < 2147483648) : Con Γ (d, 0, 0) mX9_moveScore [.ref 137, .int (iI i)] (jmem s ε) (RQ (fun w s' => ((0 ≤ i ∧ i < gMoves f) ∧ gPt f (gMvAt f i) = w ∧ s' = up s 137 0 0) ∨ (¬ (0 ≤ i ∧ i < gMoves f) ∧ s' = up s 137 0 1)) ε) X0 := by
  refine Con.ofJ (by decide +kernel) (by simp [Value.category]) (Nat.le_of_ble_eq_true rfl) ?_ hl
  have hw := MW.w p0
  have hm7 := gMoves_rng hw.2.2.1
  refine J.aload_n 0 dX9_moveScore_0 rfl rfl ?_
  refine I.iconst dX9_moveScore_1 ?_
  refine I.pI 0 rfl dX9_moveScore_2 jcls fX9_40 rfl (by decide) rfl ?_
  refine J.aload_n 0 dX9_moveScore_5 rfl rfl ?_
  refine J.iload_n 1 dX9_moveScore_6 rfl rfl ?_
  refine I.callV1i (d' := d - 1) (mi' := mX9_isMove) dX9_moveScore_7 lX9_265 eX9_isMove rfl rfl (c_X9_isMove (d := d - 1) hl (by omega) (by first | assumption | exact MW.th (by assumption)) (by first | omega | assumption)) (show d - 1 + 1 ≤ d from by omega) (Nat.le_of_ble_eq_true rfl) ?_
  refine I.if_eqB 25 dX9_moveScore_10 (by decide) (fun h10 => ?_) (fun h10 => ?_)
  · skip
    refine J.aload_n 0 dX9_moveScore_25 rfl rfl ?_
    refine I.iconst dX9_moveScore_26 ?_
    refine I.callV1i (d' := d - 1) (mi' := mX9_fails) dX9_moveScore_27 lX9_219 eX9_fails rfl rfl (c_X9_fails (d := d - 1) hl (by omega) ) (show d - 1 + 1 ≤ d from by omega) (Nat.le_of_ble_eq_true rfl) ?_
    exact I.iretQ dX9_moveScore_30 rfl (by first | exact Or.inl ⟨by first | assumption | exact ⟨by assumption, by assumption⟩ | omega, by first | rfl | assumption | omega | exact bI_t (by first | assumption | omega) | exact bI_f (by first | assumption | omega), rfl⟩ | exact Or.inr ⟨by first | assumption | omega, up_up⟩)
  · skip
    have hlg2 := gMvAt_legal (f := f) hw.2.2.1 h10.1
    have hz := gLegal_rng hw.2.2.1 hlg2.ok
    refine J.aload_n 0 dX9_moveScore_13 rfl rfl ?_
    refine J.aload_n 0 dX9_moveScore_14 rfl rfl ?_
    refine J.iload_n 1 dX9_moveScore_15 rfl rfl ?_
    refine I.callV1i (d' := d - 1) (mi' := mX9_moveAt) dX9_moveScore_16 lX9_132 eX9_moveAt rfl rfl (c_X9_moveAt (d := d - 1) hl (by omega) (by first | assumption | exact MW.th (by assumption)) (by first | omega | assumption)) (show d - 1 + 1 ≤ d from by omega) (Nat.le_of_ble_eq_true rfl) ?_
    refine I.callV1i (d' := d - 1) (mi' := mX9_scoreOfMove) dX9_moveScore_19 lX9_94 eX9_scoreOfMove rfl rfl (c_X9_scoreOfMove (d := d - 1) hl (by omega) (by first | assumption | exact MW.th (by assumption)) hlg2.ok) (show d - 1 + 1 ≤ d from by omega) (Nat.le_of_ble_eq_true rfl) ?_
    refine J.goto 30 dX9_moveScore_22 (by decide) ?_
    exact I.iretQ dX9_moveScore_30 rfl (by first | exact Or.inl ⟨by first | assumption | exact ⟨by assumption, by assumption⟩ | omega, by first | rfl | assumption | omega | exact bI_t (by first | assumption | omega) | exact bI_f (by first | assumption | omega), rfl⟩ | exact Or.inr ⟨by first | assumption | omega, up_up⟩)
set_option maxHeartbeats 1000000 in
theorem c_X9_loggedScore {Γ : jE} (hl : Γ.1.stackTraces = false) {s : Nat → Int → Int} {ε : jEps} {d : Nat} {i : Int} {f : Int → Int} (hd : 1 ≤ d) (p0 : MW s f) (p1 : -2147483648 ≤ i ∧ i < 2147483648) : Con Γ (d, 0, 0) mX9_loggedScore [.ref 137, .int (iI i)] (jmem s ε) (RQ (fun w s' => ((0 ≤ i ∧ i < f 5) ∧ f (184 + i) = w ∧ s' = up s 137 0 0) ∨ (¬ (0 ≤ i ∧ i < f 5) ∧ s' = up s 137 0 1)) ε) X0 := by
  refine Con.ofJ (by decide +kernel) (by simp [Value.category]) (Nat.le_of_ble_eq_true rfl) ?_ hl
  have hw := MW.w p0
  have hm := p0.v.moves
  refine J.aload_n 0 dX9_loggedScore_0 rfl rfl ?_
  refine I.iconst dX9_loggedScore_1 ?_
  refine I.pI 0 rfl dX9_loggedScore_2 jcls fX9_40 rfl (by decide) rfl ?_
  refine J.iload_n 1 dX9_loggedScore_5 rfl rfl ?_
  refine I.if_lt 30 dX9_loggedScore_6 (by decide) (by omega) (fun h6 => ?_) (fun h6 => ?_)
  · skip
    refine J.aload_n 0 dX9_loggedScore_30 rfl rfl ?_
    refine I.iconst dX9_loggedScore_31 ?_
    refine I.callV1i (d' := d - 1) (mi' := mX9_fails) dX9_loggedScore_32 lX9_219 eX9_fails rfl rfl (c_X9_fails (d := d - 1) hl (by omega) ) (show d - 1 + 1 ≤ d from by omega) (Nat.le_of_ble_eq_true rfl) ?_
    exact I.iretQ dX9_loggedScore_35 rfl (by first | exact Or.inl ⟨by first | assumption | exact ⟨by assumption, by assumption⟩ | omega, by first | rfl | assumption | omega | exact bI_t (by first | assumption | omega) | exact bI_f (by first | assumption | omega), rfl⟩ | exact Or.inr ⟨by first | assumption | omega, up_up⟩)
  · skip
    refine J.iload_n 1 dX9_loggedScore_9 rfl rfl ?_
    refine J.aload_n 0 dX9_loggedScore_10 rfl rfl ?_
    refine I.iconst dX9_loggedScore_11 ?_
    refine I.callV1i (d' := d - 1) (mi' := mX9_get) dX9_loggedScore_12 lX9_46 eX9_get rfl rfl (c_X9_get (d := d - 1) hl (by omega) (by first | assumption | exact MW.m (by assumption) | exact MV.th (by assumption) | exact MW.m (MW.th (by assumption))) (by first | omega | assumption)) (show d - 1 + 1 ≤ d from by omega) (Nat.le_of_ble_eq_true rfl) ?_
    refine I.icmp_ge 30 dX9_loggedScore_15 (by decide) (by omega) (by omega) (fun h15 => ?_) (fun h15 => ?_)
    · skip
      refine J.aload_n 0 dX9_loggedScore_30 rfl rfl ?_
      refine I.iconst dX9_loggedScore_31 ?_
      refine I.callV1i (d' := d - 1) (mi' := mX9_fails) dX9_loggedScore_32 lX9_219 eX9_fails rfl rfl (c_X9_fails (d := d - 1) hl (by omega) ) (show d - 1 + 1 ≤ d from by omega) (Nat.le_of_ble_eq_true rfl) ?_
      exact I.iretQ dX9_loggedScore_35 rfl (by first | exact Or.inl ⟨by first | assumption | exact ⟨by assumption, by assumption⟩ | omega, by first | rfl | assumption | omega | exact bI_t (by first | assumption | omega) | exact bI_f (by first | assumption | omega), rfl⟩ | exact Or.inr ⟨by first | assumption | omega, up_up⟩)
    · skip
      refine J.aload_n 0 dX9_loggedScore_18 rfl rfl ?_
      refine I.sipush dX9_loggedScore_19 (by decide) ?_
      refine J.iload_n 1 dX9_loggedScore_22 rfl rfl ?_
      refine I.add dX9_loggedScore_23 ?_
      refine I.callV1i (d' := d - 1) (mi' := mX9_get) dX9_loggedScore_24 lX9_46 eX9_get rfl rfl (c_X9_get (d := d - 1) hl (by omega) (by first | assumption | exact MW.m (by assumption) | exact MV.th (by assumption) | exact MW.m (MW.th (by assumption))) (by first | omega | assumption)) (show d - 1 + 1 ≤ d from by omega) (Nat.le_of_ble_eq_true rfl) ?_
      refine J.goto 35 dX9_loggedScore_27 (by decide) ?_
      exact I.iretQ dX9_loggedScore_35 rfl (by first | exact Or.inl ⟨by first | assumption | exact ⟨by assumption, by assumption⟩ | omega, by first | rfl | assumption | omega | exact bI_t (by first | assumption | omega) | exact bI_f (by first | assumption | omega), rfl⟩ | exact Or.inr ⟨by first | assumption | omega, up_up⟩)
set_option maxHeartbeats 1000000 in
theorem c_X9_loggedChain {Γ : jE} (hl : Γ.1.stackTraces = false) {s : Nat → Int → Int} {ε : jEps} {d : Nat} {i : Int} {f : Int → Int} (hd : 1 ≤ d) (p0 : MW s f) (p1 : -2147483648 ≤ i ∧ i < 2147483648) : Con Γ (d, 0, 0) mX9_loggedChain [.ref 137, .int (iI i)] (jmem s ε) (RQ (fun w s' => ((0 ≤ i ∧ i < f 5) ∧ gChn (f (136 + i)) = w ∧ s' = up s 137 0 0) ∨ (¬ (0 ≤ i ∧ i < f 5) ∧ s' = up s 137 0 1)) ε) X0 := by
  refine Con.ofJ (by decide +kernel) (by simp [Value.category]) (Nat.le_of_ble_eq_true rfl) ?_ hl
  have hw := MW.w p0
  have hm := p0.v.moves
  refine J.aload_n 0 dX9_loggedChain_0 rfl rfl ?_
  refine I.iconst dX9_loggedChain_1 ?_
  refine I.pI 0 rfl dX9_loggedChain_2 jcls fX9_40 rfl (by decide) rfl ?_
  refine J.iload_n 1 dX9_loggedChain_5 rfl rfl ?_
  refine I.if_lt 18 dX9_loggedChain_6 (by decide) (by omega) (fun h6 => ?_) (fun h6 => ?_)
  · skip
    refine J.aload_n 0 dX9_loggedChain_18 rfl rfl ?_
    refine I.iconst dX9_loggedChain_19 ?_
    refine I.callV1i (d' := d - 1) (mi' := mX9_fails) dX9_loggedChain_20 lX9_219 eX9_fails rfl rfl (c_X9_fails (d := d - 1) hl (by omega) ) (show d - 1 + 1 ≤ d from by omega) (Nat.le_of_ble_eq_true rfl) ?_
    exact I.iretQ dX9_loggedChain_23 rfl (by first | exact Or.inr ⟨by omega, up_up⟩ | exact Or.inl ⟨by omega, (by unfold gChn; omega), rfl⟩)
  · skip
    refine J.iload_n 1 dX9_loggedChain_9 rfl rfl ?_
    refine J.aload_n 0 dX9_loggedChain_10 rfl rfl ?_
    refine I.iconst dX9_loggedChain_11 ?_
    refine I.callV1i (d' := d - 1) (mi' := mX9_get) dX9_loggedChain_12 lX9_46 eX9_get rfl rfl (c_X9_get (d := d - 1) hl (by omega) (by first | assumption | exact MW.m (by assumption) | exact MV.th (by assumption) | exact MW.m (MW.th (by assumption))) (by first | omega | assumption)) (show d - 1 + 1 ≤ d from by omega) (Nat.le_of_ble_eq_true rfl) ?_
    refine I.icmp_lt 24 dX9_loggedChain_15 (by decide) (by omega) (by omega) (fun h15 => ?_) (fun h15 => ?_)
    · skip
      have hg := p0.v.lg i (by omega) (by omega)
      refine J.aload_n 0 dX9_loggedChain_24 rfl rfl ?_
      refine I.sipush dX9_loggedChain_25 (by decide) ?_
      refine J.iload_n 1 dX9_loggedChain_28 rfl rfl ?_
      refine I.add dX9_loggedChain_29 ?_
      refine I.callV1i (d' := d - 1) (mi' := mX9_get) dX9_loggedChain_30 lX9_46 eX9_get rfl rfl (c_X9_get (d := d - 1) hl (by omega) (by first | assumption | exact MW.m (by assumption) | exact MV.th (by assumption) | exact MW.m (MW.th (by assumption))) (by first | omega | assumption)) (show d - 1 + 1 ≤ d from by omega) (Nat.le_of_ble_eq_true rfl) ?_
      refine I.bipush dX9_loggedChain_33 (by decide) ?_
      refine I.icmp_ne 42 dX9_loggedChain_35 (by decide) (by omega) (by omega) (fun h35 => ?_) (fun h35 => ?_)
      · skip
        refine J.aload_n 0 dX9_loggedChain_42 rfl rfl ?_
        refine I.sipush dX9_loggedChain_43 (by decide) ?_
        refine J.iload_n 1 dX9_loggedChain_46 rfl rfl ?_
        refine I.add dX9_loggedChain_47 ?_
        refine I.callV1i (d' := d - 1) (mi' := mX9_get) dX9_loggedChain_48 lX9_46 eX9_get rfl rfl (c_X9_get (d := d - 1) hl (by omega) (by first | assumption | exact MW.m (by assumption) | exact MV.th (by assumption) | exact MW.m (MW.th (by assumption))) (by first | omega | assumption)) (show d - 1 + 1 ≤ d from by omega) (Nat.le_of_ble_eq_true rfl) ?_
        refine I.iconst dX9_loggedChain_51 ?_
        refine I.div dX9_loggedChain_52 (by omega) (by omega) ?_
        exact I.iretQ dX9_loggedChain_53 rfl (by first | exact Or.inr ⟨by omega, up_up⟩ | exact Or.inl ⟨by omega, (by unfold gChn; omega), rfl⟩)
      · skip
        refine I.iconst dX9_loggedChain_38 ?_
        refine J.goto 53 dX9_loggedChain_39 (by decide) ?_
        exact I.iretQ dX9_loggedChain_53 rfl (by first | exact Or.inr ⟨by omega, up_up⟩ | exact Or.inl ⟨by omega, (by unfold gChn; omega), rfl⟩)
    · skip
      refine J.aload_n 0 dX9_loggedChain_18 rfl rfl ?_
      refine I.iconst dX9_loggedChain_19 ?_
      refine I.callV1i (d' := d - 1) (mi' := mX9_fails) dX9_loggedChain_20 lX9_219 eX9_fails rfl rfl (c_X9_fails (d := d - 1) hl (by omega) ) (show d - 1 + 1 ≤ d from by omega) (Nat.le_of_ble_eq_true rfl) ?_
      exact I.iretQ dX9_loggedChain_23 rfl (by first | exact Or.inr ⟨by omega, up_up⟩ | exact Or.inl ⟨by omega, (by unfold gChn; omega), rfl⟩)
