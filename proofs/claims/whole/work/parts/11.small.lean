set_option maxHeartbeats 1000000 in
theorem c_X8_put {Γ : jE} (hl : Γ.1.stackTraces = false) {s : Nat → Int → Int} {ε : jEps} {d : Nat} {q : Nat} {n : Nat} {i : Int} {v : Int} (hd : 0 ≤ d) (hq : jsh[q]? = some (100, n)) (p0 : n < 2147483648) (p1 : 0 ≤ i ∧ i < n) : Con Γ (d, 0, 0) mX8_put [.ref q, .int (iI i), .int (iI v)] (jmem s ε) (RV (up s q i v) ε) X0 := by
  refine Con.ofJ (by decide +kernel) (by simp [Value.category]) (Nat.le_of_ble_eq_true rfl) ?_ hl
  refine J.iload_n 1 dX8_put_0 rfl rfl ?_
  refine I.if_lt 14 dX8_put_1 (by decide) (by omega) (fun h1 => ?_) (fun h1 => ?_)
  · exact absurd h1 (by omega)
  · skip
    refine J.iload_n 1 dX8_put_4 rfl rfl ?_
    refine J.aload_n 0 dX8_put_5 rfl rfl ?_
    refine I.alen dX8_put_6 hq (by decide) ?_
    refine I.icmp_ge 14 dX8_put_7 (by decide) (by omega) (by omega) (fun h7 => ?_) (fun h7 => ?_)
    · exact absurd h7 (by omega)
    · skip
      refine J.aload_n 0 dX8_put_10 rfl rfl ?_
      refine J.iload_n 1 dX8_put_11 rfl rfl ?_
      refine J.iload_n 2 dX8_put_12 rfl rfl ?_
      refine I.iast dX8_put_13 hq (by omega) (by omega) ?_
      exact I.vret dX8_put_14 rfl rfl
set_option maxHeartbeats 1000000 in
theorem c_X8_burnCode {Γ : jE} (hl : Γ.1.stackTraces = false) {s : Nat → Int → Int} {ε : jEps} {d : Nat} {c : Int} {b : Int} (hd : 0 ≤ d) (p0 : 0 ≤ c ∧ c < 3) (p1 : 0 ≤ b ∧ b ≤ 1) : Con Γ (d, 0, 0) mX8_burnCode [.int (iI c), .int (iI b)] (jmem s ε) (RI (2 * c + (1 - b)) (s) ε) X0 := by
  refine Con.ofJ (by decide +kernel) (by simp [Value.category]) (Nat.le_of_ble_eq_true rfl) ?_ hl
  refine J.iload_n 1 dX8_burnCode_0 rfl rfl ?_
  refine I.if_eq 10 dX8_burnCode_1 (by decide) (by omega) (fun h1 => ?_) (fun h1 => ?_)
  · skip
    refine I.iconst dX8_burnCode_10 ?_
    refine J.iload_n 0 dX8_burnCode_11 rfl rfl ?_
    refine I.mul dX8_burnCode_12 ?_
    refine I.iconst dX8_burnCode_13 ?_
    refine I.add dX8_burnCode_14 ?_
    exact I.iretI dX8_burnCode_15 rfl (by first | rfl | omega) rfl
  · skip
    refine I.iconst dX8_burnCode_4 ?_
    refine J.iload_n 0 dX8_burnCode_5 rfl rfl ?_
    refine I.mul dX8_burnCode_6 ?_
    refine J.goto 15 dX8_burnCode_7 (by decide) ?_
    exact I.iretI dX8_burnCode_15 rfl (by first | rfl | omega) rfl
set_option maxHeartbeats 1000000 in
theorem c_X8_chainOfCode {Γ : jE} (hl : Γ.1.stackTraces = false) {s : Nat → Int → Int} {ε : jEps} {d : Nat} {c : Int} (hd : 0 ≤ d) (p0 : 0 ≤ c ∧ c ≤ 6) : Con Γ (d, 0, 0) mX8_chainOfCode [.int (iI c)] (jmem s ε) (RI (if c = 6 then -1 else c / 2) (s) ε) X0 := by
  refine Con.ofJ (by decide +kernel) (by simp [Value.category]) (Nat.le_of_ble_eq_true rfl) ?_ hl
  refine J.iload_n 0 dX8_chainOfCode_0 rfl rfl ?_
  refine I.bipush dX8_chainOfCode_1 (by decide) ?_
  refine I.icmp_ne 10 dX8_chainOfCode_3 (by decide) (by omega) (by omega) (fun h3 => ?_) (fun h3 => ?_)
  · skip
    refine J.iload_n 0 dX8_chainOfCode_10 rfl rfl ?_
    refine I.iconst dX8_chainOfCode_11 ?_
    refine I.shr1 dX8_chainOfCode_12 (by omega) ?_
    exact I.iretI dX8_chainOfCode_13 rfl (by first | rfl | omega) rfl
  · skip
    refine I.iconst dX8_chainOfCode_6 ?_
    refine J.goto 13 dX8_chainOfCode_7 (by decide) ?_
    exact I.iretI dX8_chainOfCode_13 rfl (by first | rfl | omega) rfl
set_option maxHeartbeats 1000000 in
theorem c_X8_isLeftCode {Γ : jE} (hl : Γ.1.stackTraces = false) {s : Nat → Int → Int} {ε : jEps} {d : Nat} {c : Int} (hd : 0 ≤ d) (p0 : 0 ≤ c ∧ c ≤ 6) : Con Γ (d, 0, 0) mX8_isLeftCode [.int (iI c)] (jmem s ε) (RI (bI (c % 2 = 0)) (s) ε) X0 := by
  refine Con.ofJ (by decide +kernel) (by simp [Value.category]) (Nat.le_of_ble_eq_true rfl) ?_ hl
  refine J.iload_n 0 dX8_isLeftCode_0 rfl rfl ?_
  refine I.iconst dX8_isLeftCode_1 ?_
  refine I.and1 dX8_isLeftCode_2 (by omega) ?_
  refine I.if_ne 10 dX8_isLeftCode_3 (by decide) (by omega) (fun h3 => ?_) (fun h3 => ?_)
  · skip
    refine I.iconst dX8_isLeftCode_10 ?_
    exact I.zretI dX8_isLeftCode_11 rfl (by first | exact Or.inl rfl | exact Or.inr rfl | exact bI_01 _ | omega) (by first | exact (bI_t (by omega)).symm | exact (bI_f (by omega)).symm | rfl) rfl
  · skip
    refine I.iconst dX8_isLeftCode_6 ?_
    refine J.goto 11 dX8_isLeftCode_7 (by decide) ?_
    exact I.zretI dX8_isLeftCode_11 rfl (by first | exact Or.inl rfl | exact Or.inr rfl | exact bI_01 _ | omega) (by first | exact (bI_t (by omega)).symm | exact (bI_f (by omega)).symm | rfl) rfl
set_option maxHeartbeats 1000000 in
theorem c_X8_leader {Γ : jE} (hl : Γ.1.stackTraces = false) {s : Nat → Int → Int} {ε : jEps} {d : Nat} {l : Int} (hd : 0 ≤ d) (p0 : -2147483648 ≤ l ∧ l < 2147483648) : Con Γ (d, 0, 0) mX8_leader [.int (iI l)] (jmem s ε) (RI (if l = 0 then -1 else if 0 < l then 0 else 1) (s) ε) X0 := by
  refine Con.ofJ (by decide +kernel) (by simp [Value.category]) (Nat.le_of_ble_eq_true rfl) ?_ hl
  refine J.iload_n 0 dX8_leader_0 rfl rfl ?_
  refine I.if_ne 6 dX8_leader_1 (by decide) (by omega) (fun h1 => ?_) (fun h1 => ?_)
  · skip
    refine J.iload_n 0 dX8_leader_6 rfl rfl ?_
    refine I.if_le 14 dX8_leader_7 (by decide) (by omega) (fun h7 => ?_) (fun h7 => ?_)
    · skip
      refine I.iconst dX8_leader_14 ?_
      exact I.iretI dX8_leader_15 rfl (by split <;> first | omega | (split <;> omega)) rfl
    · skip
      refine I.iconst dX8_leader_10 ?_
      refine J.goto 15 dX8_leader_11 (by decide) ?_
      exact I.iretI dX8_leader_15 rfl (by split <;> first | omega | (split <;> omega)) rfl
  · skip
    refine I.iconst dX8_leader_4 ?_
    exact I.iretI dX8_leader_5 rfl (by split <;> first | omega | (split <;> omega)) rfl
set_option maxHeartbeats 1000000 in
theorem c_X1_slotOf {Γ : jE} (hl : Γ.1.stackTraces = false) {s : Nat → Int → Int} {ε : jEps} {d : Nat} {y : Nat} {r : Int} {c : Int} {t : Int} (hd : 0 ≤ d) (hy : jIsY y) : Con Γ (d, 0, 0) mX1_slotOf [.ref y, .int (iI r), .int (iI c), .int (iI t)] (jmem s ε) (RI ((r * 3 + c) * 8 + t) (s) ε) X0 := by
  refine Con.ofJ (by decide +kernel) (by simp [Value.category]) (Nat.le_of_ble_eq_true rfl) ?_ hl
  refine J.iload_n 1 dX1_slotOf_0 rfl rfl ?_
  refine I.iconst dX1_slotOf_1 ?_
  refine I.mul dX1_slotOf_2 ?_
  refine J.iload_n 2 dX1_slotOf_3 rfl rfl ?_
  refine I.add dX1_slotOf_4 ?_
  refine I.bipush dX1_slotOf_5 (by decide) ?_
  refine I.mul dX1_slotOf_7 ?_
  refine J.iload_n 3 dX1_slotOf_8 rfl rfl ?_
  refine I.add dX1_slotOf_9 ?_
  exact I.iretI dX1_slotOf_10 rfl (by first | rfl | omega) rfl
set_option maxHeartbeats 1000000 in
theorem c_X1_lengthOf {Γ : jE} (hl : Γ.1.stackTraces = false) {s : Nat → Int → Int} {ε : jEps} {d : Nat} {y : Nat} {r : Int} {c : Int} {f : Int → Int} (hd : 1 ≤ d) (hy : jIsY y) (p0 : RY s y f) (p1 : FL f) (p2 : 0 ≤ r ∧ r < f 0) (p3 : 0 ≤ c ∧ c < 3) : Con Γ (d, 0, 0) mX1_lengthOf [.ref y, .int (iI r), .int (iI c)] (jmem s ε) (RI (if c < f (18 + r) then f (22 + 3 * r + c) else 0) (s) ε) X0 := by
  refine Con.ofJ (by decide +kernel) (by simp [Value.category]) (Nat.le_of_ble_eq_true rfl) ?_ hl
  have e1 := RY.ch p0 r p2.1 p2.2
  have e2 := FL.ch p1 r p2.1 p2.2
  have e0 := FL.rn p1
  refine J.iload_n 2 dX1_lengthOf_0 rfl rfl ?_
  refine J.aload_n 0 dX1_lengthOf_1 rfl rfl ?_
  refine I.getR dX1_lengthOf_2 jcls fX1_9 (shY hy) (by decide) rfl (taY1 hy) ?_
  refine J.iload_n 1 dX1_lengthOf_5 rfl rfl ?_
  refine I.callSN2i (d' := d - 1) (mi' := mX8_at) dX1_lengthOf_6 nX1_39 eX8_at (c_X8_at (d := d - 1) hl (by omega) (shY1 hy) (by first | omega | assumption) (by first | omega | assumption)) (show d - 1 + 1 ≤ d from by omega) (Nat.le_of_ble_eq_true rfl) ?_
  refine I.icmp_ge 27 dX1_lengthOf_9 (by decide) (by omega) (by omega) (fun h9 => ?_) (fun h9 => ?_)
  · skip
    refine I.iconst dX1_lengthOf_27 ?_
    exact I.iretI dX1_lengthOf_28 rfl (by split <;> omega) rfl
  · skip
    have e3 := RY.len p0 r c p2.1 p2.2 p3.1 (by omega)
    refine J.aload_n 0 dX1_lengthOf_12 rfl rfl ?_
    refine I.getR dX1_lengthOf_13 jcls fX1_15 (shY hy) (by decide) rfl (taY2 hy) ?_
    refine J.iload_n 1 dX1_lengthOf_16 rfl rfl ?_
    refine I.iconst dX1_lengthOf_17 ?_
    refine I.mul dX1_lengthOf_18 ?_
    refine J.iload_n 2 dX1_lengthOf_19 rfl rfl ?_
    refine I.add dX1_lengthOf_20 ?_
    refine I.callSN2i (d' := d - 1) (mi' := mX8_at) dX1_lengthOf_21 nX1_39 eX8_at (c_X8_at (d := d - 1) hl (by omega) (shY2 hy) (by first | omega | assumption) (by first | omega | assumption)) (show d - 1 + 1 ≤ d from by omega) (Nat.le_of_ble_eq_true rfl) ?_
    refine J.goto 28 dX1_lengthOf_24 (by decide) ?_
    exact I.iretI dX1_lengthOf_28 rfl (by split <;> omega) rfl
