set_option maxHeartbeats 1000000 in
theorem c_X8_roundCount {Γ : jE} (hl : Γ.1.stackTraces = false) {s : Nat → Int → Int} {ε : jEps} {d : Nat} {f : Int → Int} (hd : 0 ≤ d) (p0 : RM s 21 f) : Con Γ (d, 0, 0) mX8_roundCount [.ref 0] (jmem s ε) (RI (f 0) (s) ε) X0 := by
  refine Con.ofJ (by decide +kernel) (by simp [Value.category]) (Nat.le_of_ble_eq_true rfl) ?_ hl
  have hw := RM.w p0
  refine J.aload_n 0 dX8_roundCount_0 rfl rfl ?_
  refine I.getR dX8_roundCount_1 jcls fX8_30 rfl (by decide) rfl rfl ?_
  refine I.getR dX8_roundCount_4 jcls fX8_120 rfl (by decide) rfl rfl ?_
  refine I.gI 0 rfl dX8_roundCount_7 jcls fX8_124 rfl (by decide) rfl ?_
  refine I.sx (RM.rounds p0) ?_
  exact I.iretI dX8_roundCount_10 rfl (by first | rfl | omega) rfl
set_option maxHeartbeats 1000000 in
theorem c_X8_currentRound {Γ : jE} (hl : Γ.1.stackTraces = false) {s : Nat → Int → Int} {ε : jEps} {d : Nat} {f : Int → Int} (hd : 0 ≤ d) (p0 : RM s 21 f) : Con Γ (d, 0, 0) mX8_currentRound [.ref 0] (jmem s ε) (RI (f 1) (s) ε) X0 := by
  refine Con.ofJ (by decide +kernel) (by simp [Value.category]) (Nat.le_of_ble_eq_true rfl) ?_ hl
  have hw := RM.w p0
  refine J.aload_n 0 dX8_currentRound_0 rfl rfl ?_
  refine I.getR dX8_currentRound_1 jcls fX8_30 rfl (by decide) rfl rfl ?_
  refine I.getR dX8_currentRound_4 jcls fX8_129 rfl (by decide) rfl rfl ?_
  refine I.gI 0 rfl dX8_currentRound_7 jcls fX8_132 rfl (by decide) rfl ?_
  refine I.sx (RM.round p0) ?_
  exact I.iretI dX8_currentRound_10 rfl (by first | rfl | omega) rfl
set_option maxHeartbeats 1000000 in
theorem c_X8_isRoundOver {Γ : jE} (hl : Γ.1.stackTraces = false) {s : Nat → Int → Int} {ε : jEps} {d : Nat} {f : Int → Int} (hd : 0 ≤ d) (p0 : RM s 21 f) : Con Γ (d, 0, 0) mX8_isRoundOver [.ref 0] (jmem s ε) (RI (bI (gOver f)) (s) ε) X0 := by
  refine Con.ofJ (by decide +kernel) (by simp [Value.category]) (Nat.le_of_ble_eq_true rfl) ?_ hl
  have hw := RM.w p0
  refine J.aload_n 0 dX8_isRoundOver_0 rfl rfl ?_
  refine I.getR dX8_isRoundOver_1 jcls fX8_30 rfl (by decide) rfl rfl ?_
  refine I.getR dX8_isRoundOver_4 jcls fX8_129 rfl (by decide) rfl rfl ?_
  refine I.gI 4 rfl dX8_isRoundOver_7 jcls fX8_135 rfl (by decide) rfl ?_
  refine I.sx (RM.over p0) ?_
  exact I.zretI dX8_isRoundOver_10 rfl (by first | exact Or.inl rfl | exact Or.inr rfl | exact bI_01 _ | omega) rfl rfl
set_option maxHeartbeats 1000000 in
theorem c_X8_playerToMove {Γ : jE} (hl : Γ.1.stackTraces = false) {s : Nat → Int → Int} {ε : jEps} {d : Nat} {f : Int → Int} (hd : 0 ≤ d) (p0 : RM s 21 f) : Con Γ (d, 0, 0) mX8_playerToMove [.ref 0] (jmem s ε) (RI (f 2) (s) ε) X0 := by
  refine Con.ofJ (by decide +kernel) (by simp [Value.category]) (Nat.le_of_ble_eq_true rfl) ?_ hl
  have hw := RM.w p0
  refine J.aload_n 0 dX8_playerToMove_0 rfl rfl ?_
  refine I.getR dX8_playerToMove_1 jcls fX8_30 rfl (by decide) rfl rfl ?_
  refine I.getR dX8_playerToMove_4 jcls fX8_129 rfl (by decide) rfl rfl ?_
  refine I.gI 2 rfl dX8_playerToMove_7 jcls fX8_160 rfl (by decide) rfl ?_
  refine I.sx (RM.mover p0) ?_
  exact I.iretI dX8_playerToMove_10 rfl (by first | rfl | omega) rfl
set_option maxHeartbeats 1000000 in
theorem c_X8_chainCount {Γ : jE} (hl : Γ.1.stackTraces = false) {s : Nat → Int → Int} {ε : jEps} {d : Nat} {f : Int → Int} (hd : 2 ≤ d) (p0 : RM s 21 f) : Con Γ (d, 0, 0) mX8_chainCount [.ref 0] (jmem s ε) (RI (f (18 + f 1)) (s) ε) X0 := by
  refine Con.ofJ (by decide +kernel) (by simp [Value.category]) (Nat.le_of_ble_eq_true rfl) ?_ hl
  have hw := RM.w p0
  refine J.aload_n 0 dX8_chainCount_0 rfl rfl ?_
  refine I.getR dX8_chainCount_1 jcls fX8_30 rfl (by decide) rfl rfl ?_
  refine I.callV0i (d' := d - 1) (mi' := mX2_chainsNow) dX8_chainCount_4 lX8_177 eX2_chainsNow rfl rfl (c_X2_chainsNow (d := d - 1) hl (by omega) jm21 (by assumption)) (show d - 1 + 1 ≤ d from by omega) (Nat.le_of_ble_eq_true rfl) ?_
  exact I.iretI dX8_chainCount_7 rfl (by first | rfl | omega) rfl
set_option maxHeartbeats 1000000 in
theorem c_X8_moveCount {Γ : jE} (hl : Γ.1.stackTraces = false) {s : Nat → Int → Int} {ε : jEps} {d : Nat} {f : Int → Int} (hd : 3 ≤ d) (p0 : RM s 21 f) : Con Γ (d, 0, 0) mX8_moveCount [.ref 0] (jmem s ε) (RI (gMoves f) (s) ε) X0 := by
  refine Con.ofJ (by decide +kernel) (by simp [Value.category]) (Nat.le_of_ble_eq_true rfl) ?_ hl
  have hw := RM.w p0
  refine J.aload_n 0 dX8_moveCount_0 rfl rfl ?_
  refine I.getR dX8_moveCount_1 jcls fX8_30 rfl (by decide) rfl rfl ?_
  refine I.callV0i (d' := d - 1) (mi' := mX2_movesNow) dX8_moveCount_4 lX8_205 eX2_movesNow rfl rfl (c_X2_movesNow (d := d - 1) hl (by omega) jm21 (by assumption)) (show d - 1 + 1 ≤ d from by omega) (Nat.le_of_ble_eq_true rfl) ?_
  exact I.iretI dX8_moveCount_7 rfl (by first | rfl | omega) rfl
set_option maxHeartbeats 1000000 in
theorem c_X8_needPlayer {Γ : jE} (hl : Γ.1.stackTraces = false) {s : Nat → Int → Int} {ε : jEps} {d : Nat} {p : Int} {f : Int → Int} (hd : 0 ≤ d) (p0 : RM s 21 f) (p1 : -2147483648 ≤ p ∧ p < 2147483648) : Con Γ (d, 1, 6) mX8_needPlayer [.ref 0, .int (iI p)] (jmem s ε) (RW (fun s' => s = s' ∧ 0 ≤ p ∧ p ≤ 1) ε) (XT "java/lang/IndexOutOfBoundsException" (¬ (0 ≤ p ∧ p ≤ 1)) s ε) := by
  refine Con.ofJ (by decide +kernel) (by simp [Value.category]) (Nat.le_of_ble_eq_true rfl) ?_ hl
  have hw := RM.w p0
  refine J.iload_n 1 dX8_needPlayer_0 rfl rfl ?_
  refine I.if_lt 9 dX8_needPlayer_1 (by decide) (by omega) (fun h1 => ?_) (fun h1 => ?_)
  · skip
    exact I.throw277 (text := "no such player") rfl (by decide) (Or.inr ⟨dX8_needPlayer_9, dX8_needPlayer_12, dX8_needPlayer_13, dX8_needPlayer_16, dX8_needPlayer_19⟩) (show 1 ≤ 1 ∧ 6 ≤ 6 from by decide) ⟨rfl, by omega, rfl⟩
  · skip
    refine J.iload_n 1 dX8_needPlayer_4 rfl rfl ?_
    refine I.iconst dX8_needPlayer_5 ?_
    refine I.icmp_lt 20 dX8_needPlayer_6 (by decide) (by omega) (by omega) (fun h6 => ?_) (fun h6 => ?_)
    · skip
      exact I.vretQ dX8_needPlayer_20 rfl ⟨rfl, by omega⟩
    · skip
      exact I.throw277 (text := "no such player") rfl (by decide) (Or.inr ⟨dX8_needPlayer_9, dX8_needPlayer_12, dX8_needPlayer_13, dX8_needPlayer_16, dX8_needPlayer_19⟩) (show 1 ≤ 1 ∧ 6 ≤ 6 from by decide) ⟨rfl, by omega, rfl⟩
set_option maxHeartbeats 1000000 in
theorem c_X8_needRound {Γ : jE} (hl : Γ.1.stackTraces = false) {s : Nat → Int → Int} {ε : jEps} {d : Nat} {r : Int} {f : Int → Int} (hd : 0 ≤ d) (p0 : RM s 21 f) (p1 : -2147483648 ≤ r ∧ r < 2147483648) : Con Γ (d, 1, 6) mX8_needRound [.ref 0, .int (iI r)] (jmem s ε) (RW (fun s' => s = s' ∧ 0 ≤ r ∧ r < f 0) ε) (XT "java/lang/IndexOutOfBoundsException" (¬ (0 ≤ r ∧ r < f 0)) s ε) := by
  refine Con.ofJ (by decide +kernel) (by simp [Value.category]) (Nat.le_of_ble_eq_true rfl) ?_ hl
  have hw := RM.w p0
  refine J.iload_n 1 dX8_needRound_0 rfl rfl ?_
  refine I.if_lt 18 dX8_needRound_1 (by decide) (by omega) (fun h1 => ?_) (fun h1 => ?_)
  · skip
    exact I.throw277 (text := "no such round") rfl (by decide) (Or.inr ⟨dX8_needRound_18, dX8_needRound_21, dX8_needRound_22, dX8_needRound_25, dX8_needRound_28⟩) (show 1 ≤ 1 ∧ 6 ≤ 6 from by decide) ⟨rfl, by omega, rfl⟩
  · skip
    refine J.iload_n 1 dX8_needRound_4 rfl rfl ?_
    refine J.aload_n 0 dX8_needRound_5 rfl rfl ?_
    refine I.getR dX8_needRound_6 jcls fX8_30 rfl (by decide) rfl rfl ?_
    refine I.getR dX8_needRound_9 jcls fX8_120 rfl (by decide) rfl rfl ?_
    refine I.gI 0 rfl dX8_needRound_12 jcls fX8_124 rfl (by decide) rfl ?_
    refine I.sx (RM.rounds p0) ?_
    refine I.icmp_lt 29 dX8_needRound_15 (by decide) (by omega) (by omega) (fun h15 => ?_) (fun h15 => ?_)
    · skip
      exact I.vretQ dX8_needRound_29 rfl ⟨rfl, by omega⟩
    · skip
      exact I.throw277 (text := "no such round") rfl (by decide) (Or.inr ⟨dX8_needRound_18, dX8_needRound_21, dX8_needRound_22, dX8_needRound_25, dX8_needRound_28⟩) (show 1 ≤ 1 ∧ 6 ≤ 6 from by decide) ⟨rfl, by omega, rfl⟩
set_option maxHeartbeats 1000000 in
theorem c_X8_needChain {Γ : jE} (hl : Γ.1.stackTraces = false) {s : Nat → Int → Int} {ε : jEps} {d : Nat} {c : Int} {f : Int → Int} (hd : 2 ≤ d) (p0 : RM s 21 f) (p1 : -2147483648 ≤ c ∧ c < 2147483648) : Con Γ (d, 1, 6) mX8_needChain [.ref 0, .int (iI c)] (jmem s ε) (RW (fun s' => s = s' ∧ 0 ≤ c ∧ c < f (18 + f 1)) ε) (XT "java/lang/IndexOutOfBoundsException" (¬ (0 ≤ c ∧ c < f (18 + f 1))) s ε) := by
  refine Con.ofJ (by decide +kernel) (by simp [Value.category]) (Nat.le_of_ble_eq_true rfl) ?_ hl
  have hw := RM.w p0
  refine J.iload_n 1 dX8_needChain_0 rfl rfl ?_
  refine I.if_lt 15 dX8_needChain_1 (by decide) (by omega) (fun h1 => ?_) (fun h1 => ?_)
  · skip
    exact I.throw277 (text := "no such chain") rfl (by decide) (Or.inr ⟨dX8_needChain_15, dX8_needChain_18, dX8_needChain_19, dX8_needChain_22, dX8_needChain_25⟩) (show 1 ≤ 1 ∧ 6 ≤ 6 from by decide) ⟨rfl, by omega, rfl⟩
  · skip
    refine J.iload_n 1 dX8_needChain_4 rfl rfl ?_
    refine J.aload_n 0 dX8_needChain_5 rfl rfl ?_
    refine I.getR dX8_needChain_6 jcls fX8_30 rfl (by decide) rfl rfl ?_
    refine I.callV0i (d' := d - 1) (mi' := mX2_chainsNow) dX8_needChain_9 lX8_177 eX2_chainsNow rfl rfl (c_X2_chainsNow (d := d - 1) hl (by omega) jm21 (by assumption)) (show d - 1 + 1 ≤ d from by omega) (Nat.le_of_ble_eq_true rfl) ?_
    refine I.icmp_lt 26 dX8_needChain_12 (by decide) (by omega) (by omega) (fun h12 => ?_) (fun h12 => ?_)
    · skip
      exact I.vretQ dX8_needChain_26 rfl ⟨rfl, by omega⟩
    · skip
      exact I.throw277 (text := "no such chain") rfl (by decide) (Or.inr ⟨dX8_needChain_15, dX8_needChain_18, dX8_needChain_19, dX8_needChain_22, dX8_needChain_25⟩) (show 1 ≤ 1 ∧ 6 ≤ 6 from by decide) ⟨rfl, by omega, rfl⟩
set_option maxHeartbeats 1000000 in
theorem c_X8_needTile {Γ : jE} (hl : Γ.1.stackTraces = false) {s : Nat → Int → Int} {ε : jEps} {d : Nat} {c : Int} {t : Int} {f : Int → Int} (hd : 3 ≤ d) (p0 : RM s 21 f) (p1 : -2147483648 ≤ c ∧ c < 2147483648) (p2 : -2147483648 ≤ t ∧ t < 2147483648) : Con Γ (d, 2, 12) mX8_needTile [.ref 0, .int (iI c), .int (iI t)] (jmem s ε) (RW (fun s' => s = s' ∧ (0 ≤ c ∧ c < f (18 + f 1)) ∧ 0 ≤ t ∧ t < f (37 + c) - f (34 + c) + 1) ε) (XT "java/lang/IndexOutOfBoundsException" (¬ ((0 ≤ c ∧ c < f (18 + f 1)) ∧ 0 ≤ t ∧ t < f (37 + c) - f (34 + c) + 1)) s ε) := by
  refine Con.ofJ (by decide +kernel) (by simp [Value.category]) (Nat.le_of_ble_eq_true rfl) ?_ hl
  have hw := RM.w p0
  refine J.aload_n 0 dX8_needTile_0 rfl rfl ?_
  refine J.iload_n 1 dX8_needTile_1 rfl rfl ?_
  refine I.callV1wX (b' := (d - 1, 1, 6)) (mi' := mX8_needChain) dX8_needTile_2 lX8_181 eX8_needChain rfl rfl (c_X8_needChain (d := d - 1) hl (by omega) (by assumption) (by first | omega | assumption)) (show d - 1 + 1 ≤ d ∧ 1 ≤ 2 ∧ 6 ≤ 12 from ⟨by omega, by decide, by decide⟩) (by rintro E M' ⟨rfl, hc, rfl⟩; exact ⟨rfl, by first | exact hc | omega, rfl⟩) (Nat.le_of_ble_eq_true rfl) ?_
  rintro _ ⟨rfl, ok2⟩
  have e := RM.e p0 c ok2.1 ok2.2
  refine J.iload_n 2 dX8_needTile_5 rfl rfl ?_
  refine I.if_lt 21 dX8_needTile_6 (by decide) (by omega) (fun h6 => ?_) (fun h6 => ?_)
  · skip
    exact I.throw277 (text := "no such tile") rfl (by decide) (Or.inr ⟨dX8_needTile_21, dX8_needTile_24, dX8_needTile_25, dX8_needTile_28, dX8_needTile_31⟩) (show 1 ≤ 1 ∧ 6 ≤ 6 from by decide) ⟨rfl, by omega, rfl⟩
  · skip
    refine J.iload_n 2 dX8_needTile_9 rfl rfl ?_
    refine J.aload_n 0 dX8_needTile_10 rfl rfl ?_
    refine I.getR dX8_needTile_11 jcls fX8_30 rfl (by decide) rfl rfl ?_
    refine J.iload_n 1 dX8_needTile_14 rfl rfl ?_
    refine I.callV1i (d' := d - 1) (mi' := mX2_lengthNow) dX8_needTile_15 lX8_184 eX2_lengthNow rfl rfl (c_X2_lengthNow (d := d - 1) hl (by omega) jm21 (by assumption) (by first | omega | assumption)) (show d - 1 + 1 ≤ d from by omega) (Nat.le_of_ble_eq_true rfl) ?_
    refine I.icmp_lt 32 dX8_needTile_18 (by decide) (by omega) (by omega) (fun h18 => ?_) (fun h18 => ?_)
    · skip
      exact I.vretQ dX8_needTile_32 rfl ⟨rfl, ok2, by omega⟩
    · skip
      exact I.throw277 (text := "no such tile") rfl (by decide) (Or.inr ⟨dX8_needTile_21, dX8_needTile_24, dX8_needTile_25, dX8_needTile_28, dX8_needTile_31⟩) (show 1 ≤ 1 ∧ 6 ≤ 6 from by decide) ⟨rfl, by omega, rfl⟩
set_option maxHeartbeats 1000000 in
theorem c_X8_neededCode {Γ : jE} (hl : Γ.1.stackTraces = false) {s : Nat → Int → Int} {ε : jEps} {d : Nat} {i : Int} {f : Int → Int} (hd : 3 ≤ d) (p0 : RM s 21 f) (p1 : -2147483648 ≤ i ∧ i < 2147483648) : Con Γ (d, 1, 6) mX8_neededCode [.ref 0, .int (iI i)] (jmem s ε) (RQ (fun w s' => (0 ≤ i ∧ i < gMoves f) ∧ gMvAt f i = w ∧ s = s') ε) (XT "java/lang/IndexOutOfBoundsException" (¬ (0 ≤ i ∧ i < gMoves f)) s ε) := by
  refine Con.ofJ (by decide +kernel) (by simp [Value.category]) (Nat.le_of_ble_eq_true rfl) ?_ hl
  have hw := RM.w p0
  have hm7 := gMoves_rng hw.2.2.1
  refine J.aload_n 0 dX8_neededCode_0 rfl rfl ?_
  refine I.getR dX8_neededCode_1 jcls fX8_30 rfl (by decide) rfl rfl ?_
  refine J.iload_n 1 dX8_neededCode_4 rfl rfl ?_
  refine I.callV1i (d' := d - 1) (mi' := mX2_codeOfMove) dX8_neededCode_5 lX8_236 eX2_codeOfMove rfl rfl (c_X2_codeOfMove (d := d - 1) hl (by omega) jm21 (by assumption) (by first | omega | assumption)) (show d - 1 + 1 ≤ d from by omega) (Nat.le_of_ble_eq_true rfl) ?_
  refine J.istore_n 2 dX8_neededCode_8 rfl (by decide) rfl ?_
  have hcr : -1 ≤ gCode f i ∧ gCode f i ≤ 6 := by by_cases g : 0 ≤ i ∧ i < gMoves f; rw [gCode_in g]; have := gLegal_rng hw.2.2.1 (gMvAt_legal (f := f) hw.2.2.1 g.1).ok; omega; unfold gCode; rw [if_neg g]; omega
  refine J.iload_n 2 dX8_neededCode_9 rfl rfl ?_
  refine I.iconst dX8_neededCode_10 ?_
  refine I.icmp_ne 25 dX8_neededCode_11 (by decide) (by omega) (by omega) (fun h11 => ?_) (fun h11 => ?_)
  · skip
    refine J.iload_n 2 dX8_neededCode_25 rfl rfl ?_
    exact I.iretQ dX8_neededCode_26 rfl (by have g : 0 ≤ i ∧ i < gMoves f := Classical.byContradiction fun g => h11 (by unfold gCode; rw [if_neg g]); exact ⟨g, (gCode_in g).symm, rfl⟩)
  · skip
    have okn : ¬ (0 ≤ i ∧ i < gMoves f) := fun g => by rw [gCode_in g] at h11; have := gLegal_rng hw.2.2.1 (gMvAt_legal (f := f) hw.2.2.1 g.1).ok; omega
    exact I.throw277 (text := "no such move") rfl (by decide) (Or.inr ⟨dX8_neededCode_14, dX8_neededCode_17, dX8_neededCode_18, dX8_neededCode_21, dX8_neededCode_24⟩) (show 1 ≤ 1 ∧ 6 ≤ 6 from by decide) ⟨rfl, okn, rfl⟩
set_option maxHeartbeats 1000000 in
theorem c_X8_roundScore {Γ : jE} (hl : Γ.1.stackTraces = false) {s : Nat → Int → Int} {ε : jEps} {d : Nat} {r : Int} {p : Int} {f : Int → Int} (hd : 2 ≤ d) (p0 : RM s 21 f) (p1 : -2147483648 ≤ r ∧ r < 2147483648) (p2 : -2147483648 ≤ p ∧ p < 2147483648) : Con Γ (d, 2, 12) mX8_roundScore [.ref 0, .int (iI r), .int (iI p)] (jmem s ε) (RQ (fun w s' => ((0 ≤ r ∧ r < f 0) ∧ 0 ≤ p ∧ p ≤ 1) ∧ f (6 + 2 * r + p) = w ∧ s = s') ε) (XT "java/lang/IndexOutOfBoundsException" (¬ ((0 ≤ r ∧ r < f 0) ∧ 0 ≤ p ∧ p ≤ 1)) s ε) := by
  refine Con.ofJ (by decide +kernel) (by simp [Value.category]) (Nat.le_of_ble_eq_true rfl) ?_ hl
  have hw := RM.w p0
  refine J.aload_n 0 dX8_roundScore_0 rfl rfl ?_
  refine J.iload_n 1 dX8_roundScore_1 rfl rfl ?_
  refine I.callV1wX (b' := (d - 1, 1, 6)) (mi' := mX8_needRound) dX8_roundScore_2 lX8_141 eX8_needRound rfl rfl (c_X8_needRound (d := d - 1) hl (by omega) (by assumption) (by first | omega | assumption)) (show d - 1 + 1 ≤ d ∧ 1 ≤ 2 ∧ 6 ≤ 12 from ⟨by omega, by decide, by decide⟩) (by rintro E M' ⟨rfl, hc, rfl⟩; exact ⟨rfl, by first | exact hc | omega, rfl⟩) (Nat.le_of_ble_eq_true rfl) ?_
  rintro _ ⟨rfl, ok2⟩
  refine J.aload_n 0 dX8_roundScore_5 rfl rfl ?_
  refine J.iload_n 2 dX8_roundScore_6 rfl rfl ?_
  refine I.callV1wX (b' := (d - 1, 1, 6)) (mi' := mX8_needPlayer) dX8_roundScore_7 lX8_148 eX8_needPlayer rfl rfl (c_X8_needPlayer (d := d - 1) hl (by omega) (by assumption) (by first | omega | assumption)) (show d - 1 + 1 ≤ d ∧ 1 ≤ 1 ∧ 6 ≤ 6 from ⟨by omega, by decide, by decide⟩) (by rintro E M' ⟨rfl, hc, rfl⟩; exact ⟨rfl, by first | exact hc | omega, rfl⟩) (Nat.le_of_ble_eq_true rfl) ?_
  rintro _ ⟨rfl, ok7⟩
  refine J.aload_n 0 dX8_roundScore_10 rfl rfl ?_
  refine I.getR dX8_roundScore_11 jcls fX8_30 rfl (by decide) rfl rfl ?_
  refine J.iload_n 1 dX8_roundScore_14 rfl rfl ?_
  refine J.iload_n 2 dX8_roundScore_15 rfl rfl ?_
  refine I.callV2i (d' := d - 1) (mi' := mX2_scoreOf) dX8_roundScore_16 lX8_163 eX2_scoreOf rfl rfl (c_X2_scoreOf (d := d - 1) hl (by omega) jm21 (by assumption) (by first | omega | assumption) (by first | omega | assumption)) (show d - 1 + 1 ≤ d from by omega) (Nat.le_of_ble_eq_true rfl) ?_
  exact I.iretQ dX8_roundScore_19 rfl ⟨by first | exact ⟨by assumption, by assumption⟩ | assumption | omega, by first | rfl | omega, rfl⟩
set_option maxHeartbeats 1000000 in
theorem c_X8_chainLength {Γ : jE} (hl : Γ.1.stackTraces = false) {s : Nat → Int → Int} {ε : jEps} {d : Nat} {c : Int} {f : Int → Int} (hd : 3 ≤ d) (p0 : RM s 21 f) (p1 : -2147483648 ≤ c ∧ c < 2147483648) : Con Γ (d, 1, 6) mX8_chainLength [.ref 0, .int (iI c)] (jmem s ε) (RQ (fun w s' => (0 ≤ c ∧ c < f (18 + f 1)) ∧ f (37 + c) - f (34 + c) + 1 = w ∧ s = s') ε) (XT "java/lang/IndexOutOfBoundsException" (¬ (0 ≤ c ∧ c < f (18 + f 1))) s ε) := by
  refine Con.ofJ (by decide +kernel) (by simp [Value.category]) (Nat.le_of_ble_eq_true rfl) ?_ hl
  have hw := RM.w p0
  refine J.aload_n 0 dX8_chainLength_0 rfl rfl ?_
  refine J.iload_n 1 dX8_chainLength_1 rfl rfl ?_
  refine I.callV1wX (b' := (d - 1, 1, 6)) (mi' := mX8_needChain) dX8_chainLength_2 lX8_181 eX8_needChain rfl rfl (c_X8_needChain (d := d - 1) hl (by omega) (by assumption) (by first | omega | assumption)) (show d - 1 + 1 ≤ d ∧ 1 ≤ 1 ∧ 6 ≤ 6 from ⟨by omega, by decide, by decide⟩) (by rintro E M' ⟨rfl, hc, rfl⟩; exact ⟨rfl, by first | exact hc | omega, rfl⟩) (Nat.le_of_ble_eq_true rfl) ?_
  rintro _ ⟨rfl, ok2⟩
  refine J.aload_n 0 dX8_chainLength_5 rfl rfl ?_
  refine I.getR dX8_chainLength_6 jcls fX8_30 rfl (by decide) rfl rfl ?_
  refine J.iload_n 1 dX8_chainLength_9 rfl rfl ?_
  refine I.callV1i (d' := d - 1) (mi' := mX2_lengthNow) dX8_chainLength_10 lX8_184 eX2_lengthNow rfl rfl (c_X2_lengthNow (d := d - 1) hl (by omega) jm21 (by assumption) (by first | omega | assumption)) (show d - 1 + 1 ≤ d from by omega) (Nat.le_of_ble_eq_true rfl) ?_
  exact I.iretQ dX8_chainLength_13 rfl ⟨by first | exact ⟨by assumption, by assumption⟩ | assumption | omega, by first | rfl | omega, rfl⟩
set_option maxHeartbeats 1000000 in
theorem c_X8_chainScore {Γ : jE} (hl : Γ.1.stackTraces = false) {s : Nat → Int → Int} {ε : jEps} {d : Nat} {c : Int} {f : Int → Int} (hd : 4 ≤ d) (p0 : RM s 21 f) (p1 : -2147483648 ≤ c ∧ c < 2147483648) : Con Γ (d, 1, 6) mX8_chainScore [.ref 0, .int (iI c)] (jmem s ε) (RQ (fun w s' => (0 ≤ c ∧ c < f (18 + f 1)) ∧ gSum f c = w ∧ s = s') ε) (XT "java/lang/IndexOutOfBoundsException" (¬ (0 ≤ c ∧ c < f (18 + f 1))) s ε) := by
  refine Con.ofJ (by decide +kernel) (by simp [Value.category]) (Nat.le_of_ble_eq_true rfl) ?_ hl
  have hw := RM.w p0
  refine J.aload_n 0 dX8_chainScore_0 rfl rfl ?_
  refine J.iload_n 1 dX8_chainScore_1 rfl rfl ?_
  refine I.callV1wX (b' := (d - 1, 1, 6)) (mi' := mX8_needChain) dX8_chainScore_2 lX8_181 eX8_needChain rfl rfl (c_X8_needChain (d := d - 1) hl (by omega) (by assumption) (by first | omega | assumption)) (show d - 1 + 1 ≤ d ∧ 1 ≤ 1 ∧ 6 ≤ 6 from ⟨by omega, by decide, by decide⟩) (by rintro E M' ⟨rfl, hc, rfl⟩; exact ⟨rfl, by first | exact hc | omega, rfl⟩) (Nat.le_of_ble_eq_true rfl) ?_
  rintro _ ⟨rfl, ok2⟩
  refine J.aload_n 0 dX8_chainScore_5 rfl rfl ?_
  refine I.getR dX8_chainScore_6 jcls fX8_30 rfl (by decide) rfl rfl ?_
  refine J.iload_n 1 dX8_chainScore_9 rfl rfl ?_
  refine I.callV1i (d' := d - 1) (mi' := mX2_pointsOfChain) dX8_chainScore_10 lX8_200 eX2_pointsOfChain rfl rfl (c_X2_pointsOfChain (d := d - 1) hl (by omega) jm21 (by assumption) (by first | omega | assumption)) (show d - 1 + 1 ≤ d from by omega) (Nat.le_of_ble_eq_true rfl) ?_
  exact I.iretQ dX8_chainScore_13 rfl ⟨by first | exact ⟨by assumption, by assumption⟩ | assumption | omega, by first | rfl | omega, rfl⟩
set_option maxHeartbeats 1000000 in
theorem c_X8_leftPips {Γ : jE} (hl : Γ.1.stackTraces = false) {s : Nat → Int → Int} {ε : jEps} {d : Nat} {c : Int} {t : Int} {f : Int → Int} (hd : 4 ≤ d) (p0 : RM s 21 f) (p1 : -2147483648 ≤ c ∧ c < 2147483648) (p2 : -2147483648 ≤ t ∧ t < 2147483648) : Con Γ (d, 2, 12) mX8_leftPips [.ref 0, .int (iI c), .int (iI t)] (jmem s ε) (RQ (fun w s' => ((0 ≤ c ∧ c < f (18 + f 1)) ∧ 0 ≤ t ∧ t < f (37 + c) - f (34 + c) + 1) ∧ gT f c t / 10 = w ∧ s = s') ε) (XT "java/lang/IndexOutOfBoundsException" (¬ ((0 ≤ c ∧ c < f (18 + f 1)) ∧ 0 ≤ t ∧ t < f (37 + c) - f (34 + c) + 1)) s ε) := by
  refine Con.ofJ (by decide +kernel) (by simp [Value.category]) (Nat.le_of_ble_eq_true rfl) ?_ hl
  have hw := RM.w p0
  refine J.aload_n 0 dX8_leftPips_0 rfl rfl ?_
  refine J.iload_n 1 dX8_leftPips_1 rfl rfl ?_
  refine J.iload_n 2 dX8_leftPips_2 rfl rfl ?_
  refine I.callV2wX (b' := (d - 1, 2, 12)) (mi' := mX8_needTile) dX8_leftPips_3 lX8_187 eX8_needTile rfl rfl (c_X8_needTile (d := d - 1) hl (by omega) (by assumption) (by first | omega | assumption) (by first | omega | assumption)) (show d - 1 + 1 ≤ d ∧ 2 ≤ 2 ∧ 12 ≤ 12 from ⟨by omega, by decide, by decide⟩) (by rintro E M' ⟨rfl, hc, rfl⟩; exact ⟨rfl, by first | exact hc | omega, rfl⟩) (Nat.le_of_ble_eq_true rfl) ?_
  rintro _ ⟨rfl, ok3⟩
  have ok2 := ok3
  refine J.aload_n 0 dX8_leftPips_6 rfl rfl ?_
  refine I.getR dX8_leftPips_7 jcls fX8_30 rfl (by decide) rfl rfl ?_
  refine J.iload_n 1 dX8_leftPips_10 rfl rfl ?_
  refine J.iload_n 2 dX8_leftPips_11 rfl rfl ?_
  refine I.callV2i (d' := d - 1) (mi' := mX2_leftNow) dX8_leftPips_12 lX8_191 eX2_leftNow rfl rfl (c_X2_leftNow (d := d - 1) hl (by omega) jm21 (by assumption) (by first | omega | assumption) (by first | omega | assumption)) (show d - 1 + 1 ≤ d from by omega) (Nat.le_of_ble_eq_true rfl) ?_
  exact I.iretQ dX8_leftPips_15 rfl ⟨by first | exact ⟨by assumption, by assumption⟩ | assumption | omega, by first | rfl | omega, rfl⟩
set_option maxHeartbeats 1000000 in
theorem c_X8_rightPips {Γ : jE} (hl : Γ.1.stackTraces = false) {s : Nat → Int → Int} {ε : jEps} {d : Nat} {c : Int} {t : Int} {f : Int → Int} (hd : 4 ≤ d) (p0 : RM s 21 f) (p1 : -2147483648 ≤ c ∧ c < 2147483648) (p2 : -2147483648 ≤ t ∧ t < 2147483648) : Con Γ (d, 2, 12) mX8_rightPips [.ref 0, .int (iI c), .int (iI t)] (jmem s ε) (RQ (fun w s' => ((0 ≤ c ∧ c < f (18 + f 1)) ∧ 0 ≤ t ∧ t < f (37 + c) - f (34 + c) + 1) ∧ gT f c t % 10 = w ∧ s = s') ε) (XT "java/lang/IndexOutOfBoundsException" (¬ ((0 ≤ c ∧ c < f (18 + f 1)) ∧ 0 ≤ t ∧ t < f (37 + c) - f (34 + c) + 1)) s ε) := by
  refine Con.ofJ (by decide +kernel) (by simp [Value.category]) (Nat.le_of_ble_eq_true rfl) ?_ hl
  have hw := RM.w p0
  refine J.aload_n 0 dX8_rightPips_0 rfl rfl ?_
  refine J.iload_n 1 dX8_rightPips_1 rfl rfl ?_
  refine J.iload_n 2 dX8_rightPips_2 rfl rfl ?_
  refine I.callV2wX (b' := (d - 1, 2, 12)) (mi' := mX8_needTile) dX8_rightPips_3 lX8_187 eX8_needTile rfl rfl (c_X8_needTile (d := d - 1) hl (by omega) (by assumption) (by first | omega | assumption) (by first | omega | assumption)) (show d - 1 + 1 ≤ d ∧ 2 ≤ 2 ∧ 12 ≤ 12 from ⟨by omega, by decide, by decide⟩) (by rintro E M' ⟨rfl, hc, rfl⟩; exact ⟨rfl, by first | exact hc | omega, rfl⟩) (Nat.le_of_ble_eq_true rfl) ?_
  rintro _ ⟨rfl, ok3⟩
  have ok2 := ok3
  refine J.aload_n 0 dX8_rightPips_6 rfl rfl ?_
  refine I.getR dX8_rightPips_7 jcls fX8_30 rfl (by decide) rfl rfl ?_
  refine J.iload_n 1 dX8_rightPips_10 rfl rfl ?_
  refine J.iload_n 2 dX8_rightPips_11 rfl rfl ?_
  refine I.callV2i (d' := d - 1) (mi' := mX2_rightNow) dX8_rightPips_12 lX8_194 eX2_rightNow rfl rfl (c_X2_rightNow (d := d - 1) hl (by omega) jm21 (by assumption) (by first | omega | assumption) (by first | omega | assumption)) (show d - 1 + 1 ≤ d from by omega) (Nat.le_of_ble_eq_true rfl) ?_
  exact I.iretQ dX8_rightPips_15 rfl ⟨by first | exact ⟨by assumption, by assumption⟩ | assumption | omega, by first | rfl | omega, rfl⟩
set_option maxHeartbeats 1000000 in
theorem c_X8_tileScore {Γ : jE} (hl : Γ.1.stackTraces = false) {s : Nat → Int → Int} {ε : jEps} {d : Nat} {c : Int} {t : Int} {f : Int → Int} (hd : 4 ≤ d) (p0 : RM s 21 f) (p1 : -2147483648 ≤ c ∧ c < 2147483648) (p2 : -2147483648 ≤ t ∧ t < 2147483648) : Con Γ (d, 2, 12) mX8_tileScore [.ref 0, .int (iI c), .int (iI t)] (jmem s ε) (RQ (fun w s' => ((0 ≤ c ∧ c < f (18 + f 1)) ∧ 0 ≤ t ∧ t < f (37 + c) - f (34 + c) + 1) ∧ gSc (gT f c t) = w ∧ s = s') ε) (XT "java/lang/IndexOutOfBoundsException" (¬ ((0 ≤ c ∧ c < f (18 + f 1)) ∧ 0 ≤ t ∧ t < f (37 + c) - f (34 + c) + 1)) s ε) := by
  refine Con.ofJ (by decide +kernel) (by simp [Value.category]) (Nat.le_of_ble_eq_true rfl) ?_ hl
  have hw := RM.w p0
  refine J.aload_n 0 dX8_tileScore_0 rfl rfl ?_
  refine J.iload_n 1 dX8_tileScore_1 rfl rfl ?_
  refine J.iload_n 2 dX8_tileScore_2 rfl rfl ?_
  refine I.callV2wX (b' := (d - 1, 2, 12)) (mi' := mX8_needTile) dX8_tileScore_3 lX8_187 eX8_needTile rfl rfl (c_X8_needTile (d := d - 1) hl (by omega) (by assumption) (by first | omega | assumption) (by first | omega | assumption)) (show d - 1 + 1 ≤ d ∧ 2 ≤ 2 ∧ 12 ≤ 12 from ⟨by omega, by decide, by decide⟩) (by rintro E M' ⟨rfl, hc, rfl⟩; exact ⟨rfl, by first | exact hc | omega, rfl⟩) (Nat.le_of_ble_eq_true rfl) ?_
  rintro _ ⟨rfl, ok3⟩
  have ok2 := ok3
  refine J.aload_n 0 dX8_tileScore_6 rfl rfl ?_
  refine I.getR dX8_tileScore_7 jcls fX8_30 rfl (by decide) rfl rfl ?_
  refine J.iload_n 1 dX8_tileScore_10 rfl rfl ?_
  refine J.iload_n 2 dX8_tileScore_11 rfl rfl ?_
  refine I.callV2i (d' := d - 1) (mi' := mX2_pointsNow) dX8_tileScore_12 lX8_197 eX2_pointsNow rfl rfl (c_X2_pointsNow (d := d - 1) hl (by omega) jm21 (by assumption) (by first | omega | assumption) (by first | omega | assumption)) (show d - 1 + 1 ≤ d from by omega) (Nat.le_of_ble_eq_true rfl) ?_
  exact I.iretQ dX8_tileScore_15 rfl ⟨by first | exact ⟨by assumption, by assumption⟩ | assumption | omega, by first | rfl | omega, rfl⟩
set_option maxHeartbeats 1000000 in
theorem k_X8_remainingScore_4 {Γ : jE} (hl : Γ.1.stackTraces = false) {s : Nat → Int → Int} {ε : jEps} {d : Nat} {f : Int → Int} (hd : 4 ≤ d) (p0 : RM s 21 f) {mc ms : Nat} {P : Option Value → jM → Prop} {X : String → jM → Prop} : ∀ (k : Nat) {c a : Int} (q0 : ((k : Nat) : Int) = f (18 + f 1) - c) (q1 : 0 ≤ c) (kx : J Γ (d, mc, ms) mX8_remainingScore 32 [some (.ref 0), some (.int (iI (foldF (fun c a => a + gSum f c) k c a))), none] [] (jmem s ε) P X), J Γ (d, mc, ms) mX8_remainingScore 4 [some (.ref 0), some (.int (iI (a))), some (.int (iI (c)))] [] (jmem s ε) P X := by
  have hw := RM.w p0
  intro k
  induction k with
  | zero =>
    intro c a q0 q1 kx
    refine J.iload_n 2 dX8_remainingScore_4 rfl rfl ?_
    refine J.aload_n 0 dX8_remainingScore_5 rfl rfl ?_
    refine I.getR dX8_remainingScore_6 jcls fX8_30 rfl (by decide) rfl rfl ?_
    refine I.callV0i (d' := d - 1) (mi' := mX2_chainsNow) dX8_remainingScore_9 lX8_177 eX2_chainsNow rfl rfl (c_X2_chainsNow (d := d - 1) hl (by omega) jm21 (by assumption)) (show d - 1 + 1 ≤ d from by omega) (Nat.le_of_ble_eq_true rfl) ?_
    refine I.icmp_ge 32 dX8_remainingScore_12 (by decide) (by omega) (by omega) (fun h12 => ?_) (fun h12 => ?_)
    · skip
      exact J.fgt (by exact ⟨Or.inr rfl, Or.inr rfl, Or.inl rfl, trivial⟩) kx
    · exact absurd h12 (by omega)
  | succ k ih =>
    intro c a q0 q1 kx
    refine J.iload_n 2 dX8_remainingScore_4 rfl rfl ?_
    refine J.aload_n 0 dX8_remainingScore_5 rfl rfl ?_
    refine I.getR dX8_remainingScore_6 jcls fX8_30 rfl (by decide) rfl rfl ?_
    refine I.callV0i (d' := d - 1) (mi' := mX2_chainsNow) dX8_remainingScore_9 lX8_177 eX2_chainsNow rfl rfl (c_X2_chainsNow (d := d - 1) hl (by omega) jm21 (by assumption)) (show d - 1 + 1 ≤ d from by omega) (Nat.le_of_ble_eq_true rfl) ?_
    refine I.icmp_ge 32 dX8_remainingScore_12 (by decide) (by omega) (by omega) (fun h12 => ?_) (fun h12 => ?_)
    · exact absurd h12 (by omega)
    · skip
      refine J.iload_n 1 dX8_remainingScore_15 rfl rfl ?_
      refine J.aload_n 0 dX8_remainingScore_16 rfl rfl ?_
      refine I.getR dX8_remainingScore_17 jcls fX8_30 rfl (by decide) rfl rfl ?_
      refine J.iload_n 2 dX8_remainingScore_20 rfl rfl ?_
      refine I.callV1i (d' := d - 1) (mi' := mX2_pointsOfChain) dX8_remainingScore_21 lX8_200 eX2_pointsOfChain rfl rfl (c_X2_pointsOfChain (d := d - 1) hl (by omega) jm21 (by assumption) (by first | omega | assumption)) (show d - 1 + 1 ≤ d from by omega) (Nat.le_of_ble_eq_true rfl) ?_
      refine I.add dX8_remainingScore_24 ?_
      refine J.istore_n 1 dX8_remainingScore_25 rfl (by decide) rfl ?_
      refine I.iinc dX8_remainingScore_26 rfl rfl ?_
      refine J.goto 4 dX8_remainingScore_29 (by decide) ?_
      exact J.fgt (by exact ⟨Or.inr rfl, Or.inr rfl, Or.inr rfl, trivial⟩) (ih (by first | omega | (dsimp only; omega)) (by first | omega | (dsimp only; omega)) kx)
set_option maxHeartbeats 1000000 in
theorem c_X8_remainingScore {Γ : jE} (hl : Γ.1.stackTraces = false) {s : Nat → Int → Int} {ε : jEps} {d : Nat} {f : Int → Int} (hd : 4 ≤ d) (p0 : RM s 21 f) : Con Γ (d, 0, 0) mX8_remainingScore [.ref 0] (jmem s ε) (RI (gRemain f) (s) ε) X0 := by
  refine Con.ofJ (by decide +kernel) (by simp [Value.category]) (Nat.le_of_ble_eq_true rfl) ?_ hl
  have hw := RM.w p0
  refine I.iconst dX8_remainingScore_0 ?_
  refine J.istore_n 1 dX8_remainingScore_1 rfl (by decide) rfl ?_
  refine I.iconst dX8_remainingScore_2 ?_
  refine J.istore_n 2 dX8_remainingScore_3 rfl (by decide) rfl ?_
  refine J.fgt (by exact ⟨Or.inr rfl, Or.inr rfl, Or.inr rfl, trivial⟩) (k_X8_remainingScore_4 hl (by omega) p0 ((f (18 + f 1)).toNat) (by first | omega | (dsimp only; omega)) (by first | omega | (dsimp only; omega)) ?_)
  refine J.iload_n 1 dX8_remainingScore_32 rfl rfl ?_
  exact I.iretI dX8_remainingScore_33 rfl (by first | rfl | omega) rfl
set_option maxHeartbeats 1000000 in
theorem c_X8_isPass {Γ : jE} (hl : Γ.1.stackTraces = false) {s : Nat → Int → Int} {ε : jEps} {d : Nat} {i : Int} {f : Int → Int} (hd : 4 ≤ d) (p0 : RM s 21 f) (p1 : -2147483648 ≤ i ∧ i < 2147483648) : Con Γ (d, 1, 6) mX8_isPass [.ref 0, .int (iI i)] (jmem s ε) (RQ (fun w s' => (0 ≤ i ∧ i < gMoves f) ∧ bI (gMvAt f i = 6) = w ∧ s = s') ε) (XT "java/lang/IndexOutOfBoundsException" (¬ (0 ≤ i ∧ i < gMoves f)) s ε) := by
  refine Con.ofJ (by decide +kernel) (by simp [Value.category]) (Nat.le_of_ble_eq_true rfl) ?_ hl
  have hw := RM.w p0
  refine J.aload_n 0 dX8_isPass_0 rfl rfl ?_
  refine J.iload_n 1 dX8_isPass_1 rfl rfl ?_
  refine I.callV1qX (b' := (d - 1, 1, 6)) (mi' := mX8_neededCode) dX8_isPass_2 lX8_208 eX8_neededCode rfl rfl (c_X8_neededCode (d := d - 1) hl (by omega) (by assumption) (by first | omega | assumption)) (show d - 1 + 1 ≤ d ∧ 1 ≤ 1 ∧ 6 ≤ 6 from ⟨by omega, by decide, by decide⟩) (by rintro E M' ⟨rfl, hc, rfl⟩; exact ⟨rfl, by first | exact hc | omega, rfl⟩) (Nat.le_of_ble_eq_true rfl) ?_
  rintro _ _ ⟨ok2, rfl, rfl⟩
  have hlg2 := gMvAt_legal (f := f) hw.2.2.1 ok2.1
  have hz := gLegal_rng hw.2.2.1 hlg2.ok
  refine I.bipush dX8_isPass_5 (by decide) ?_
  refine I.icmp_ne 14 dX8_isPass_7 (by decide) (by omega) (by omega) (fun h7 => ?_) (fun h7 => ?_)
  · skip
    refine I.iconst dX8_isPass_14 ?_
    exact I.zretQ dX8_isPass_15 rfl (by first | exact Or.inl rfl | exact Or.inr rfl | exact bI_01 _ | omega) ⟨by assumption, by first | exact bI_t (by first | assumption | omega) | exact bI_f (by first | assumption | omega) | rfl, rfl⟩
  · skip
    refine I.iconst dX8_isPass_10 ?_
    refine J.goto 15 dX8_isPass_11 (by decide) ?_
    exact I.zretQ dX8_isPass_15 rfl (by first | exact Or.inl rfl | exact Or.inr rfl | exact bI_01 _ | omega) ⟨by assumption, by first | exact bI_t (by first | assumption | omega) | exact bI_f (by first | assumption | omega) | rfl, rfl⟩
set_option maxHeartbeats 1000000 in
theorem c_X8_moveChain {Γ : jE} (hl : Γ.1.stackTraces = false) {s : Nat → Int → Int} {ε : jEps} {d : Nat} {i : Int} {f : Int → Int} (hd : 4 ≤ d) (p0 : RM s 21 f) (p1 : -2147483648 ≤ i ∧ i < 2147483648) : Con Γ (d, 1, 6) mX8_moveChain [.ref 0, .int (iI i)] (jmem s ε) (RQ (fun w s' => (0 ≤ i ∧ i < gMoves f) ∧ gChn (gMvAt f i) = w ∧ s = s') ε) (XT "java/lang/IndexOutOfBoundsException" (¬ (0 ≤ i ∧ i < gMoves f)) s ε) := by
  refine Con.ofJ (by decide +kernel) (by simp [Value.category]) (Nat.le_of_ble_eq_true rfl) ?_ hl
  have hw := RM.w p0
  refine J.aload_n 0 dX8_moveChain_0 rfl rfl ?_
  refine J.iload_n 1 dX8_moveChain_1 rfl rfl ?_
  refine I.callV1qX (b' := (d - 1, 1, 6)) (mi' := mX8_neededCode) dX8_moveChain_2 lX8_208 eX8_neededCode rfl rfl (c_X8_neededCode (d := d - 1) hl (by omega) (by assumption) (by first | omega | assumption)) (show d - 1 + 1 ≤ d ∧ 1 ≤ 1 ∧ 6 ≤ 6 from ⟨by omega, by decide, by decide⟩) (by rintro E M' ⟨rfl, hc, rfl⟩; exact ⟨rfl, by first | exact hc | omega, rfl⟩) (Nat.le_of_ble_eq_true rfl) ?_
  rintro _ _ ⟨ok2, rfl, rfl⟩
  have hlg2 := gMvAt_legal (f := f) hw.2.2.1 ok2.1
  have hz := gLegal_rng hw.2.2.1 hlg2.ok
  refine I.callS1i (d' := d - 1) (mi' := mX8_chainOfCode) dX8_moveChain_5 lX8_211 eX8_chainOfCode rfl (c_X8_chainOfCode (d := d - 1) hl (by omega) (by first | omega | assumption)) (show d - 1 + 1 ≤ d from by omega) (Nat.le_of_ble_eq_true rfl) ?_
  exact I.iretQ dX8_moveChain_8 rfl ⟨by first | exact ⟨by assumption, by assumption⟩ | assumption | omega, by first | rfl | omega, rfl⟩
set_option maxHeartbeats 1000000 in
theorem c_X8_isLeftBurn {Γ : jE} (hl : Γ.1.stackTraces = false) {s : Nat → Int → Int} {ε : jEps} {d : Nat} {i : Int} {f : Int → Int} (hd : 4 ≤ d) (p0 : RM s 21 f) (p1 : -2147483648 ≤ i ∧ i < 2147483648) : Con Γ (d, 1, 6) mX8_isLeftBurn [.ref 0, .int (iI i)] (jmem s ε) (RQ (fun w s' => (0 ≤ i ∧ i < gMoves f) ∧ bI (gMvAt f i ≠ 6 ∧ gMvAt f i % 2 = 0) = w ∧ s = s') ε) (XT "java/lang/IndexOutOfBoundsException" (¬ (0 ≤ i ∧ i < gMoves f)) s ε) := by
  refine Con.ofJ (by decide +kernel) (by simp [Value.category]) (Nat.le_of_ble_eq_true rfl) ?_ hl
  have hw := RM.w p0
  refine J.aload_n 0 dX8_isLeftBurn_0 rfl rfl ?_
  refine J.iload_n 1 dX8_isLeftBurn_1 rfl rfl ?_
  refine I.callV1qX (b' := (d - 1, 1, 6)) (mi' := mX8_neededCode) dX8_isLeftBurn_2 lX8_208 eX8_neededCode rfl rfl (c_X8_neededCode (d := d - 1) hl (by omega) (by assumption) (by first | omega | assumption)) (show d - 1 + 1 ≤ d ∧ 1 ≤ 1 ∧ 6 ≤ 6 from ⟨by omega, by decide, by decide⟩) (by rintro E M' ⟨rfl, hc, rfl⟩; exact ⟨rfl, by first | exact hc | omega, rfl⟩) (Nat.le_of_ble_eq_true rfl) ?_
  rintro _ _ ⟨ok2, rfl, rfl⟩
  have hlg2 := gMvAt_legal (f := f) hw.2.2.1 ok2.1
  have hz := gLegal_rng hw.2.2.1 hlg2.ok
  refine J.istore_n 2 dX8_isLeftBurn_5 rfl (by decide) rfl ?_
  refine J.iload_n 2 dX8_isLeftBurn_6 rfl rfl ?_
  refine I.bipush dX8_isLeftBurn_7 (by decide) ?_
  refine I.icmp_eq 23 dX8_isLeftBurn_9 (by decide) (by omega) (by omega) (fun h9 => ?_) (fun h9 => ?_)
  · skip
    refine I.iconst dX8_isLeftBurn_23 ?_
    exact I.zretQ dX8_isLeftBurn_24 rfl (by first | exact Or.inl rfl | exact Or.inr rfl | exact bI_01 _ | omega) ⟨by assumption, by first | exact bI_t (by first | assumption | omega) | exact bI_f (by first | assumption | omega) | rfl, rfl⟩
  · skip
    refine J.iload_n 2 dX8_isLeftBurn_12 rfl rfl ?_
    refine I.callS1i (d' := d - 1) (mi' := mX8_isLeftCode) dX8_isLeftBurn_13 lX8_214 eX8_isLeftCode rfl (c_X8_isLeftCode (d := d - 1) hl (by omega) (by first | omega | assumption)) (show d - 1 + 1 ≤ d from by omega) (Nat.le_of_ble_eq_true rfl) ?_
    refine I.if_eqB 23 dX8_isLeftBurn_16 (by decide) (fun h16 => ?_) (fun h16 => ?_)
    · skip
      refine I.iconst dX8_isLeftBurn_23 ?_
      exact I.zretQ dX8_isLeftBurn_24 rfl (by first | exact Or.inl rfl | exact Or.inr rfl | exact bI_01 _ | omega) ⟨by assumption, by first | exact bI_t (by first | assumption | omega) | exact bI_f (by first | assumption | omega) | rfl, rfl⟩
    · skip
      refine I.iconst dX8_isLeftBurn_19 ?_
      refine J.goto 24 dX8_isLeftBurn_20 (by decide) ?_
      exact I.zretQ dX8_isLeftBurn_24 rfl (by first | exact Or.inl rfl | exact Or.inr rfl | exact bI_01 _ | omega) ⟨by assumption, by first | exact bI_t (by first | assumption | omega) | exact bI_f (by first | assumption | omega) | rfl, rfl⟩
set_option maxHeartbeats 1000000 in
theorem c_X8_moveScore {Γ : jE} (hl : Γ.1.stackTraces = false) {s : Nat → Int → Int} {ε : jEps} {d : Nat} {i : Int} {f : Int → Int} (hd : 4 ≤ d) (p0 : RM s 21 f) (p1 : -2147483648 ≤ i ∧ i < 2147483648) : Con Γ (d, 1, 6) mX8_moveScore [.ref 0, .int (iI i)] (jmem s ε) (RQ (fun w s' => (0 ≤ i ∧ i < gMoves f) ∧ gPt f (gMvAt f i) = w ∧ s = s') ε) (XT "java/lang/IndexOutOfBoundsException" (¬ (0 ≤ i ∧ i < gMoves f)) s ε) := by
  refine Con.ofJ (by decide +kernel) (by simp [Value.category]) (Nat.le_of_ble_eq_true rfl) ?_ hl
  have hw := RM.w p0
  refine J.aload_n 0 dX8_moveScore_0 rfl rfl ?_
  refine I.getR dX8_moveScore_1 jcls fX8_30 rfl (by decide) rfl rfl ?_
  refine J.aload_n 0 dX8_moveScore_4 rfl rfl ?_
  refine J.iload_n 1 dX8_moveScore_5 rfl rfl ?_
  refine I.callV1qX (b' := (d - 1, 1, 6)) (mi' := mX8_neededCode) dX8_moveScore_6 lX8_208 eX8_neededCode rfl rfl (c_X8_neededCode (d := d - 1) hl (by omega) (by assumption) (by first | omega | assumption)) (show d - 1 + 1 ≤ d ∧ 1 ≤ 1 ∧ 6 ≤ 6 from ⟨by omega, by decide, by decide⟩) (by rintro E M' ⟨rfl, hc, rfl⟩; exact ⟨rfl, by first | exact hc | omega, rfl⟩) (Nat.le_of_ble_eq_true rfl) ?_
  rintro _ _ ⟨ok6, rfl, rfl⟩
  have hlg2 := gMvAt_legal (f := f) hw.2.2.1 ok6.1
  have hz := gLegal_rng hw.2.2.1 hlg2.ok
  refine I.callV1i (d' := d - 1) (mi' := mX2_pointsOfCode) dX8_moveScore_9 lX8_218 eX2_pointsOfCode rfl rfl (c_X2_pointsOfCode (d := d - 1) hl (by omega) jm21 (by assumption) hlg2.ok) (show d - 1 + 1 ≤ d from by omega) (Nat.le_of_ble_eq_true rfl) ?_
  exact I.iretQ dX8_moveScore_12 rfl ⟨by first | exact ⟨by assumption, by assumption⟩ | assumption | omega, by first | rfl | omega, rfl⟩
