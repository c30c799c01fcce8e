set_option maxHeartbeats 1000000 in
theorem c_X8_put {Γ : jE} (hl : Γ.1.stackTraces = false) {s : Nat → Int → Int} {ε : jEps} {d : Nat} {q : Nat} {n : Nat} {i : Int} {v : Int} (hd : 0 ≤ d) (hq : jsh[q]? = some (100, n)) (p0 : n < 2147483648) (p1 : 0 ≤ i ∧ i < n) : Con Γ (d, 0, 0) mX8_put [.ref q, .int (iI i), .int (iI v)] (jmem s ε) (RV (up s q i v) ε) X0 := by
  refine Con.ofJ (by decide +kernel) (by simp [Value.category]) (Nat.le_of_ble_eq_true rfl) ?_ hl
  refine J.iload_n 1 dX8_put_0 rfl rfl ?_
  refine I.if_lt 14 dX8_put_1 (by decide) (by omega) (fun h1 => ?_) (fun h1 => ?_)
  · exact absurd h1 (by omega)
  · skip
    refine J.iload_n 1 dX8_put_4 rfl rfl ?_
    refine J.aload_n 0 dX8_put_5 rfl rfl ?_
    refine I.alen dX8_put_6 hq (by decide) ?_
    refine I.icmp_ge 14 dX8_put_7 (by decide) (by omega) (by omega) (fun h7 => ?_) (fun h7 => ?_)
    · exact absurd h7 (by omega)
    · skip
      refine J.aload_n 0 dX8_put_10 rfl rfl ?_
      refine J.iload_n 1 dX8_put_11 rfl rfl ?_
      refine J.iload_n 2 dX8_put_12 rfl rfl ?_
      refine I.iast dX8_put_13 hq (by omega) (by omega) ?_
      exact I.vret dX8_put_14 rfl rfl
set_option maxHeartbeats 1000000 in
theorem c_X8_burnCode {Γ : jE} (hl : Γ.1.stackTraces = false) {s : Nat → Int → Int} {ε : jEps} {d : Nat} {c : Int} {b : Int} (hd : 0 ≤ d) (p0 : 0 ≤ c ∧ c < 3) (p1 : 0 ≤ b ∧ b ≤ 1) : Con Γ (d, 0, 0) mX8_burnCode [.int (iI c), .int (iI b)] (jmem s ε) (RI (2 * c + (1 - b)) (s) ε) X0 := by
  refine Con.ofJ (by decide +kernel) (by simp [Value.category]) (Nat.le_of_ble_eq_true rfl) ?_ hl
  refine J.iload_n 1 dX8_burnCode_0 rfl rfl ?_
  refine I.if_eq 10 dX8_burnCode_1 (by decide) (by omega) (fun h1 => ?_) (fun h1 => ?_)
  · skip
    refine I.iconst dX8_burnCode_10 ?_
    refine J.iload_n 0 dX8_burnCode_11 rfl rfl ?_
    refine I.mul dX8_burnCode_12 ?_
    refine I.iconst dX8_burnCode_13 ?_
    refine I.add dX8_burnCode_14 ?_
    exact I.iretI dX8_burnCode_15 rfl (by first | rfl | omega) rfl
  · skip
    refine I.iconst dX8_burnCode_4 ?_
    refine J.iload_n 0 dX8_burnCode_5 rfl rfl ?_
    refine I.mul dX8_burnCode_6 ?_
    refine J.goto 15 dX8_burnCode_7 (by decide) ?_
    exact I.iretI dX8_burnCode_15 rfl (by first | rfl | omega) rfl
set_option maxHeartbeats 1000000 in
theorem c_X8_chainOfCode {Γ : jE} (hl : Γ.1.stackTraces = false) {s : Nat → Int → Int} {ε : jEps} {d : Nat} {c : Int} (hd : 0 ≤ d) (p0 : 0 ≤ c ∧ c ≤ 6) : Con Γ (d, 0, 0) mX8_chainOfCode [.int (iI c)] (jmem s ε) (RI (if c = 6 then -1 else c / 2) (s) ε) X0 := by
  refine Con.ofJ (by decide +kernel) (by simp [Value.category]) (Nat.le_of_ble_eq_true rfl) ?_ hl
  refine J.iload_n 0 dX8_chainOfCode_0 rfl rfl ?_
  refine I.bipush dX8_chainOfCode_1 (by decide) ?_
  refine I.icmp_ne 10 dX8_chainOfCode_3 (by decide) (by omega) (by omega) (fun h3 => ?_) (fun h3 => ?_)
  · skip
    refine J.iload_n 0 dX8_chainOfCode_10 rfl rfl ?_
    refine I.iconst dX8_chainOfCode_11 ?_
    refine I.shr1 dX8_chainOfCode_12 (by omega) ?_
    exact I.iretI dX8_chainOfCode_13 rfl (by first | rfl | omega) rfl
  · skip
    refine I.iconst dX8_chainOfCode_6 ?_
    refine J.goto 13 dX8_chainOfCode_7 (by decide) ?_
    exact I.iretI dX8_chainOfCode_13 rfl (by first | rfl | omega) rfl
set_option maxHeartbeats 1000000 in
theorem c_X8_isLeftCode {Γ : jE} (hl : Γ.1.stackTraces = false) {s : Nat → Int → Int} {ε : jEps} {d : Nat} {c : Int} (hd : 0 ≤ d) (p0 : 0 ≤ c ∧ c ≤ 6) : Con Γ (d, 0, 0) mX8_isLeftCode [.int (iI c)] (jmem s ε) (RI (bI (c % 2 = 0)) (s) ε) X0 := by
  refine Con.ofJ (by decide +kernel) (by simp [Value.category]) (Nat.le_of_ble_eq_true rfl) ?_ hl
  refine J.iload_n 0 dX8_isLeftCode_0 rfl rfl ?_
  refine I.iconst dX8_isLeftCode_1 ?_
  refine I.and1 dX8_isLeftCode_2 (by omega) ?_
  refine I.if_ne 10 dX8_isLeftCode_3 (by decide) (by omega) (fun h3 => ?_) (fun h3 => ?_)
  · skip
    refine I.iconst dX8_isLeftCode_10 ?_
    exact I.zretI dX8_isLeftCode_11 rfl (by first | exact Or.inl rfl | exact Or.inr rfl | exact bI_01 _ | omega) (by first | exact (bI_t (by omega)).symm | exact (bI_f (by omega)).symm | rfl) rfl
  · skip
    refine I.iconst dX8_isLeftCode_6 ?_
    refine J.goto 11 dX8_isLeftCode_7 (by decide) ?_
    exact I.zretI dX8_isLeftCode_11 rfl (by first | exact Or.inl rfl | exact Or.inr rfl | exact bI_01 _ | omega) (by first | exact (bI_t (by omega)).symm | exact (bI_f (by omega)).symm | rfl) rfl
set_option maxHeartbeats 1000000 in
theorem c_X8_leader {Γ : jE} (hl : Γ.1.stackTraces = false) {s : Nat → Int → Int} {ε : jEps} {d : Nat} {l : Int} (hd : 0 ≤ d) (p0 : -2147483648 ≤ l ∧ l < 2147483648) : Con Γ (d, 0, 0) mX8_leader [.int (iI l)] (jmem s ε) (RI (if l = 0 then -1 else if 0 < l then 0 else 1) (s) ε) X0 := by
  refine Con.ofJ (by decide +kernel) (by simp [Value.category]) (Nat.le_of_ble_eq_true rfl) ?_ hl
  refine J.iload_n 0 dX8_leader_0 rfl rfl ?_
  refine I.if_ne 6 dX8_leader_1 (by decide) (by omega) (fun h1 => ?_) (fun h1 => ?_)
  · skip
    refine J.iload_n 0 dX8_leader_6 rfl rfl ?_
    refine I.if_le 14 dX8_leader_7 (by decide) (by omega) (fun h7 => ?_) (fun h7 => ?_)
    · skip
      refine I.iconst dX8_leader_14 ?_
      exact I.iretI dX8_leader_15 rfl (by split <;> first | omega | (split <;> omega)) rfl
    · skip
      refine I.iconst dX8_leader_10 ?_
      refine J.goto 15 dX8_leader_11 (by decide) ?_
      exact I.iretI dX8_leader_15 rfl (by split <;> first | omega | (split <;> omega)) rfl
  · skip
    refine I.iconst dX8_leader_4 ?_
    exact I.iretI dX8_leader_5 rfl (by split <;> first | omega | (split <;> omega)) rfl
set_option maxHeartbeats 1000000 in
theorem c_X1_slotOf {Γ : jE} (hl : Γ.1.stackTraces = false) {s : Nat → Int → Int} {ε : jEps} {d : Nat} {y : Nat} {r : Int} {c : Int} {t : Int} (hd : 0 ≤ d) (hy : jIsY y) : Con Γ (d, 0, 0) mX1_slotOf [.ref y, .int (iI r), .int (iI c), .int (iI t)] (jmem s ε) (RI ((r * 3 + c) * 8 + t) (s) ε) X0 := by
  refine Con.ofJ (by decide +kernel) (by simp [Value.category]) (Nat.le_of_ble_eq_true rfl) ?_ hl
  refine J.iload_n 1 dX1_slotOf_0 rfl rfl ?_
  refine I.iconst dX1_slotOf_1 ?_
  refine I.mul dX1_slotOf_2 ?_
  refine J.iload_n 2 dX1_slotOf_3 rfl rfl ?_
  refine I.add dX1_slotOf_4 ?_
  refine I.bipush dX1_slotOf_5 (by decide) ?_
  refine I.mul dX1_slotOf_7 ?_
  refine J.iload_n 3 dX1_slotOf_8 rfl rfl ?_
  refine I.add dX1_slotOf_9 ?_
  exact I.iretI dX1_slotOf_10 rfl (by first | rfl | omega) rfl
set_option maxHeartbeats 1000000 in
theorem c_X1_lengthOf {Γ : jE} (hl : Γ.1.stackTraces = false) {s : Nat → Int → Int} {ε : jEps} {d : Nat} {y : Nat} {r : Int} {c : Int} {f : Int → Int} (hd : 1 ≤ d) (hy : jIsY y) (p0 : RY s y f) (p1 : FL f) (p2 : 0 ≤ r ∧ r < f 0) (p3 : 0 ≤ c ∧ c < 3) : Con Γ (d, 0, 0) mX1_lengthOf [.ref y, .int (iI r), .int (iI c)] (jmem s ε) (RI (if c < f (18 + r) then f (22 + 3 * r + c) else 0) (s) ε) X0 := by
  refine Con.ofJ (by decide +kernel) (by simp [Value.category]) (Nat.le_of_ble_eq_true rfl) ?_ hl
  have e1 := RY.ch p0 r p2.1 p2.2
  have e2 := FL.ch p1 r p2.1 p2.2
  have e0 := FL.rn p1
  refine J.iload_n 2 dX1_lengthOf_0 rfl rfl ?_
  refine J.aload_n 0 dX1_lengthOf_1 rfl rfl ?_
  refine I.getR dX1_lengthOf_2 jcls fX1_9 (shY hy) (by decide) rfl (taY1 hy) ?_
  refine J.iload_n 1 dX1_lengthOf_5 rfl rfl ?_
  refine I.callSN2i (d' := d - 1) (mi' := mX8_at) dX1_lengthOf_6 nX1_39 eX8_at (c_X8_at (d := d - 1) hl (by omega) (shY1 hy) (by first | omega | assumption) (by first | omega | assumption)) (show d - 1 + 1 ≤ d from by omega) (Nat.le_of_ble_eq_true rfl) ?_
  refine I.icmp_ge 27 dX1_lengthOf_9 (by decide) (by omega) (by omega) (fun h9 => ?_) (fun h9 => ?_)
  · skip
    refine I.iconst dX1_lengthOf_27 ?_
    exact I.iretI dX1_lengthOf_28 rfl (by split <;> omega) rfl
  · skip
    have e3 := RY.len p0 r c p2.1 p2.2 p3.1 (by omega)
    refine J.aload_n 0 dX1_lengthOf_12 rfl rfl ?_
    refine I.getR dX1_lengthOf_13 jcls fX1_15 (shY hy) (by decide) rfl (taY2 hy) ?_
    refine J.iload_n 1 dX1_lengthOf_16 rfl rfl ?_
    refine I.iconst dX1_lengthOf_17 ?_
    refine I.mul dX1_lengthOf_18 ?_
    refine J.iload_n 2 dX1_lengthOf_19 rfl rfl ?_
    refine I.add dX1_lengthOf_20 ?_
    refine I.callSN2i (d' := d - 1) (mi' := mX8_at) dX1_lengthOf_21 nX1_39 eX8_at (c_X8_at (d := d - 1) hl (by omega) (shY2 hy) (by first | omega | assumption) (by first | omega | assumption)) (show d - 1 + 1 ≤ d from by omega) (Nat.le_of_ble_eq_true rfl) ?_
    refine J.goto 28 dX1_lengthOf_24 (by decide) ?_
    exact I.iretI dX1_lengthOf_28 rfl (by split <;> omega) rfl
set_option maxHeartbeats 1000000 in
theorem c_X8_copyRow {Γ : jE} (hl : Γ.1.stackTraces = false) {s : Nat → Int → Int} {ε : jEps} {d : Nat} {q : Nat} {n : Nat} {r : Nat} (hd : 0 ≤ d) (hq : jsh[q]? = some (100, n)) (hr : jsh[r]? = some (100, n)) (p0 : n < 1000000) : Con Γ (d, 0, 0) mX8_copyRow [.ref q, .ref r] (jmem s ε) (RV (cpA s q r n) ε) X0 := by
  refine Con.ofJ (by decide +kernel) (by simp [Value.category]) (Nat.le_of_ble_eq_true rfl) ?_ hl
  refine J.aload_n 0 dX8_copyRow_0 rfl rfl ?_
  refine I.iconst dX8_copyRow_1 ?_
  refine J.aload_n 1 dX8_copyRow_2 rfl rfl ?_
  refine I.iconst dX8_copyRow_3 ?_
  refine J.aload_n 0 dX8_copyRow_4 rfl rfl ?_
  refine I.alen dX8_copyRow_5 hq (by decide) ?_
  refine J.aload_n 1 dX8_copyRow_6 rfl rfl ?_
  refine I.alen dX8_copyRow_7 hr (by decide) ?_
  refine I.mmin dX8_copyRow_8 lX8_352 (by omega) (by omega) (Nat.le_of_ble_eq_true rfl) ?_
  refine I.copyi n dX8_copyRow_11 lX8_357 hq hr (by omega) (by omega) (by omega) (by omega) (Nat.le_of_ble_eq_true rfl) ?_
  exact I.vret dX8_copyRow_14 rfl rfl
set_option maxHeartbeats 1000000 in
theorem c_X6_copyFrom {Γ : jE} (hl : Γ.1.stackTraces = false) {s : Nat → Int → Int} {ε : jEps} {d : Nat} {t : Nat} {o : Nat} (hd : 1 ≤ d) (ht : jIsT t) (ho : jIsT o) (p0 : t + 8 ≤ o ∨ o + 8 ≤ t) (p1 : s o 4 = 0 ∨ s o 4 = 1) : Con Γ (d, 0, 0) mX6_copyFrom [.ref t, .ref o] (jmem s ε) (RW (fun s' => (∀ q i, (q < t ∨ t + 8 ≤ q) → s' q i = s q i) ∧ (∀ i, 0 ≤ i → i < 6 → s' t i = s o i) ∧ (∀ i, 0 ≤ i → i < 3 → s' (t + 1) i = s (o + 1) i) ∧ (∀ i, 0 ≤ i → i < 3 → s' (t + 2) i = s (o + 2) i) ∧ (∀ i, 0 ≤ i → i < 8 → s' (t + 3) i = s (o + 3) i) ∧ (∀ i, 0 ≤ i → i < 2 → s' (t + 4) i = s (o + 4) i) ∧ (∀ i, 0 ≤ i → i < 2 → s' (t + 5) i = s (o + 5) i) ∧ (∀ i, 0 ≤ i → i < 42 → s' (t + 6) i = s (o + 6) i) ∧ (∀ i, 0 ≤ i → i < 42 → s' (t + 7) i = s (o + 7) i)) ε) X0 := by
  refine Con.ofJ (by decide +kernel) (by simp [Value.category]) (Nat.le_of_ble_eq_true rfl) ?_ hl
  refine J.aload_n 0 dX6_copyFrom_0 rfl rfl ?_
  refine J.aload_n 1 dX6_copyFrom_1 rfl rfl ?_
  refine I.gI 0 rfl dX6_copyFrom_2 jcls fX6_33 (shT ho) (by decide) rfl ?_
  refine I.sx (show _ = s o 0 from by (repeat (first | rw [up_ne (Or.inl (by omega))] | rw [up_ne (Or.inr (by omega))] | rw [cpA_ne (by omega)])); first | done | rfl) ?_
  refine I.pI 0 rfl dX6_copyFrom_5 jcls fX6_33 (shT ht) (by decide) rfl ?_
  refine J.aload_n 0 dX6_copyFrom_8 rfl rfl ?_
  refine J.aload_n 1 dX6_copyFrom_9 rfl rfl ?_
  refine I.gI 1 rfl dX6_copyFrom_10 jcls fX6_37 (shT ho) (by decide) rfl ?_
  refine I.sx (show _ = s o 1 from by (repeat (first | rw [up_ne (Or.inl (by omega))] | rw [up_ne (Or.inr (by omega))] | rw [cpA_ne (by omega)])); first | done | rfl) ?_
  refine I.pI 1 rfl dX6_copyFrom_13 jcls fX6_37 (shT ht) (by decide) rfl ?_
  refine J.aload_n 0 dX6_copyFrom_16 rfl rfl ?_
  refine J.aload_n 1 dX6_copyFrom_17 rfl rfl ?_
  refine I.gI 2 rfl dX6_copyFrom_18 jcls fX6_40 (shT ho) (by decide) rfl ?_
  refine I.sx (show _ = s o 2 from by (repeat (first | rw [up_ne (Or.inl (by omega))] | rw [up_ne (Or.inr (by omega))] | rw [cpA_ne (by omega)])); first | done | rfl) ?_
  refine I.pI 2 rfl dX6_copyFrom_21 jcls fX6_40 (shT ht) (by decide) rfl ?_
  refine J.aload_n 0 dX6_copyFrom_24 rfl rfl ?_
  refine J.aload_n 1 dX6_copyFrom_25 rfl rfl ?_
  refine I.gI 3 rfl dX6_copyFrom_26 jcls fX6_43 (shT ho) (by decide) rfl ?_
  refine I.sx (show _ = s o 3 from by (repeat (first | rw [up_ne (Or.inl (by omega))] | rw [up_ne (Or.inr (by omega))] | rw [cpA_ne (by omega)])); first | done | rfl) ?_
  refine I.pI 3 rfl dX6_copyFrom_29 jcls fX6_43 (shT ht) (by decide) rfl ?_
  refine J.aload_n 0 dX6_copyFrom_32 rfl rfl ?_
  refine J.aload_n 1 dX6_copyFrom_33 rfl rfl ?_
  refine I.gI 4 rfl dX6_copyFrom_34 jcls fX6_46 (shT ho) (by decide) rfl ?_
  refine I.sx (show _ = s o 4 from by (repeat (first | rw [up_ne (Or.inl (by omega))] | rw [up_ne (Or.inr (by omega))] | rw [cpA_ne (by omega)])); first | done | rfl) ?_
  refine I.pZ 4 rfl dX6_copyFrom_37 jcls fX6_46 (shT ht) (by decide) rfl p1 ?_
  refine J.aload_n 0 dX6_copyFrom_40 rfl rfl ?_
  refine J.aload_n 1 dX6_copyFrom_41 rfl rfl ?_
  refine I.gI 5 rfl dX6_copyFrom_42 jcls fX6_50 (shT ho) (by decide) rfl ?_
  refine I.sx (show _ = s o 5 from by (repeat (first | rw [up_ne (Or.inl (by omega))] | rw [up_ne (Or.inr (by omega))] | rw [cpA_ne (by omega)])); first | done | rfl) ?_
  refine I.pI 5 rfl dX6_copyFrom_45 jcls fX6_50 (shT ht) (by decide) rfl ?_
  refine J.aload_n 1 dX6_copyFrom_48 rfl rfl ?_
  refine I.getR dX6_copyFrom_49 jcls fX6_9 (shT ho) (by decide) rfl (taT6 ho) ?_
  refine J.aload_n 0 dX6_copyFrom_52 rfl rfl ?_
  refine I.getR dX6_copyFrom_53 jcls fX6_9 (shT ht) (by decide) rfl (taT6 ht) ?_
  refine I.callSN2v (d' := d - 1) (mi' := mX8_copyRow) dX6_copyFrom_56 nX6_53 eX8_copyRow (c_X8_copyRow (d := d - 1) hl (by omega) (shT6 ho) (shT6 ht) (by first | omega | assumption)) (show d - 1 + 1 ≤ d from by omega) (Nat.le_of_ble_eq_true rfl) ?_
  refine J.aload_n 1 dX6_copyFrom_59 rfl rfl ?_
  refine I.getR dX6_copyFrom_60 jcls fX6_15 (shT ho) (by decide) rfl (taT7 ho) ?_
  refine J.aload_n 0 dX6_copyFrom_63 rfl rfl ?_
  refine I.getR dX6_copyFrom_64 jcls fX6_15 (shT ht) (by decide) rfl (taT7 ht) ?_
  refine I.callSN2v (d' := d - 1) (mi' := mX8_copyRow) dX6_copyFrom_67 nX6_53 eX8_copyRow (c_X8_copyRow (d := d - 1) hl (by omega) (shT7 ho) (shT7 ht) (by first | omega | assumption)) (show d - 1 + 1 ≤ d from by omega) (Nat.le_of_ble_eq_true rfl) ?_
  refine J.aload_n 1 dX6_copyFrom_70 rfl rfl ?_
  refine I.getR dX6_copyFrom_71 jcls fX6_18 (shT ho) (by decide) rfl (taT8 ho) ?_
  refine J.aload_n 0 dX6_copyFrom_74 rfl rfl ?_
  refine I.getR dX6_copyFrom_75 jcls fX6_18 (shT ht) (by decide) rfl (taT8 ht) ?_
  refine I.callSN2v (d' := d - 1) (mi' := mX8_copyRow) dX6_copyFrom_78 nX6_53 eX8_copyRow (c_X8_copyRow (d := d - 1) hl (by omega) (shT8 ho) (shT8 ht) (by first | omega | assumption)) (show d - 1 + 1 ≤ d from by omega) (Nat.le_of_ble_eq_true rfl) ?_
  refine J.aload_n 1 dX6_copyFrom_81 rfl rfl ?_
  refine I.getR dX6_copyFrom_82 jcls fX6_21 (shT ho) (by decide) rfl (taT9 ho) ?_
  refine J.aload_n 0 dX6_copyFrom_85 rfl rfl ?_
  refine I.getR dX6_copyFrom_86 jcls fX6_21 (shT ht) (by decide) rfl (taT9 ht) ?_
  refine I.callSN2v (d' := d - 1) (mi' := mX8_copyRow) dX6_copyFrom_89 nX6_53 eX8_copyRow (c_X8_copyRow (d := d - 1) hl (by omega) (shT9 ho) (shT9 ht) (by first | omega | assumption)) (show d - 1 + 1 ≤ d from by omega) (Nat.le_of_ble_eq_true rfl) ?_
  refine J.aload_n 1 dX6_copyFrom_92 rfl rfl ?_
  refine I.getR dX6_copyFrom_93 jcls fX6_24 (shT ho) (by decide) rfl (taT10 ho) ?_
  refine J.aload_n 0 dX6_copyFrom_96 rfl rfl ?_
  refine I.getR dX6_copyFrom_97 jcls fX6_24 (shT ht) (by decide) rfl (taT10 ht) ?_
  refine I.callSN2v (d' := d - 1) (mi' := mX8_copyRow) dX6_copyFrom_100 nX6_53 eX8_copyRow (c_X8_copyRow (d := d - 1) hl (by omega) (shT10 ho) (shT10 ht) (by first | omega | assumption)) (show d - 1 + 1 ≤ d from by omega) (Nat.le_of_ble_eq_true rfl) ?_
  refine J.aload_n 1 dX6_copyFrom_103 rfl rfl ?_
  refine I.getR dX6_copyFrom_104 jcls fX6_27 (shT ho) (by decide) rfl (taT11 ho) ?_
  refine J.aload_n 0 dX6_copyFrom_107 rfl rfl ?_
  refine I.getR dX6_copyFrom_108 jcls fX6_27 (shT ht) (by decide) rfl (taT11 ht) ?_
  refine I.callSN2v (d' := d - 1) (mi' := mX8_copyRow) dX6_copyFrom_111 nX6_53 eX8_copyRow (c_X8_copyRow (d := d - 1) hl (by omega) (shT11 ho) (shT11 ht) (by first | omega | assumption)) (show d - 1 + 1 ≤ d from by omega) (Nat.le_of_ble_eq_true rfl) ?_
  refine J.aload_n 1 dX6_copyFrom_114 rfl rfl ?_
  refine I.getR dX6_copyFrom_115 jcls fX6_30 (shT ho) (by decide) rfl (taT12 ho) ?_
  refine J.aload_n 0 dX6_copyFrom_118 rfl rfl ?_
  refine I.getR dX6_copyFrom_119 jcls fX6_30 (shT ht) (by decide) rfl (taT12 ht) ?_
  refine I.callSN2v (d' := d - 1) (mi' := mX8_copyRow) dX6_copyFrom_122 nX6_53 eX8_copyRow (c_X8_copyRow (d := d - 1) hl (by omega) (shT12 ho) (shT12 ht) (by first | omega | assumption)) (show d - 1 + 1 ≤ d from by omega) (Nat.le_of_ble_eq_true rfl) ?_
  exact I.vretQ dX6_copyFrom_125 rfl (by
    refine ⟨?_, ?_, ?_, ?_, ?_, ?_, ?_, ?_, ?_⟩
    · intro q i g; (repeat (first | rw [up_ne (Or.inl (by omega))] | rw [up_eqq ⟨by omega, by omega⟩] | rw [up_ne (Or.inr (by omega))] | rw [cpA_ne (by omega)] | rw [cpA_in ⟨by omega, by omega, by omega⟩])); first | done | rfl
    · intro i a b; have : i = 0 ∨ i = 1 ∨ i = 2 ∨ i = 3 ∨ i = 4 ∨ i = 5 := by omega
      rcases this with rfl | rfl | rfl | rfl | rfl | rfl <;> ((repeat (first | rw [up_ne (Or.inl (by omega))] | rw [up_eqq ⟨by omega, by omega⟩] | rw [up_ne (Or.inr (by omega))] | rw [cpA_ne (by omega)] | rw [cpA_in ⟨by omega, by omega, by omega⟩])); first | done | rfl)
    · intro i a b; (repeat (first | rw [up_ne (Or.inl (by omega))] | rw [up_eqq ⟨by omega, by omega⟩] | rw [up_ne (Or.inr (by omega))] | rw [cpA_ne (by omega)] | rw [cpA_in ⟨by omega, by omega, by omega⟩])); first | done | rfl
    · intro i a b; (repeat (first | rw [up_ne (Or.inl (by omega))] | rw [up_eqq ⟨by omega, by omega⟩] | rw [up_ne (Or.inr (by omega))] | rw [cpA_ne (by omega)] | rw [cpA_in ⟨by omega, by omega, by omega⟩])); first | done | rfl
    · intro i a b; (repeat (first | rw [up_ne (Or.inl (by omega))] | rw [up_eqq ⟨by omega, by omega⟩] | rw [up_ne (Or.inr (by omega))] | rw [cpA_ne (by omega)] | rw [cpA_in ⟨by omega, by omega, by omega⟩])); first | done | rfl
    · intro i a b; (repeat (first | rw [up_ne (Or.inl (by omega))] | rw [up_eqq ⟨by omega, by omega⟩] | rw [up_ne (Or.inr (by omega))] | rw [cpA_ne (by omega)] | rw [cpA_in ⟨by omega, by omega, by omega⟩])); first | done | rfl
    · intro i a b; (repeat (first | rw [up_ne (Or.inl (by omega))] | rw [up_eqq ⟨by omega, by omega⟩] | rw [up_ne (Or.inr (by omega))] | rw [cpA_ne (by omega)] | rw [cpA_in ⟨by omega, by omega, by omega⟩])); first | done | rfl
    · intro i a b; (repeat (first | rw [up_ne (Or.inl (by omega))] | rw [up_eqq ⟨by omega, by omega⟩] | rw [up_ne (Or.inr (by omega))] | rw [cpA_ne (by omega)] | rw [cpA_in ⟨by omega, by omega, by omega⟩])); first | done | rfl
    · intro i a b; (repeat (first | rw [up_ne (Or.inl (by omega))] | rw [up_eqq ⟨by omega, by omega⟩] | rw [up_ne (Or.inr (by omega))] | rw [cpA_ne (by omega)] | rw [cpA_in ⟨by omega, by omega, by omega⟩])); first | done | rfl)
set_option maxHeartbeats 1000000 in
theorem c_X1_copyFrom {Γ : jE} (hl : Γ.1.stackTraces = false) {s : Nat → Int → Int} {ε : jEps} {d : Nat} {y : Nat} {o : Nat} (hd : 1 ≤ d) (hy : jIsY y) (ho : jIsY o) (p0 : y + 6 ≤ o ∨ o + 6 ≤ y) : Con Γ (d, 0, 0) mX1_copyFrom [.ref y, .ref o] (jmem s ε) (RW (fun s' => (∀ q i, (q < y ∨ y + 6 ≤ q) → s' q i = s q i) ∧ s' y 0 = s o 0 ∧ (∀ i, 0 ≤ i → i < 4 → s' (y + 1) i = s (o + 1) i) ∧ (∀ i, 0 ≤ i → i < 12 → s' (y + 2) i = s (o + 2) i) ∧ (∀ i, 0 ≤ i → i < 96 → s' (y + 3) i = s (o + 3) i) ∧ (∀ i, 0 ≤ i → i < 96 → s' (y + 4) i = s (o + 4) i) ∧ (∀ i, 0 ≤ i → i < 96 → s' (y + 5) i = s (o + 5) i)) ε) X0 := by
  refine Con.ofJ (by decide +kernel) (by simp [Value.category]) (Nat.le_of_ble_eq_true rfl) ?_ hl
  refine J.aload_n 0 dX1_copyFrom_0 rfl rfl ?_
  refine J.aload_n 1 dX1_copyFrom_1 rfl rfl ?_
  refine I.gI 0 rfl dX1_copyFrom_2 jcls fX1_27 (shY ho) (by decide) rfl ?_
  refine I.sx (show _ = s o 0 from by (repeat (first | rw [up_ne (Or.inl (by omega))] | rw [up_ne (Or.inr (by omega))] | rw [cpA_ne (by omega)])); first | done | rfl) ?_
  refine I.pI 0 rfl dX1_copyFrom_5 jcls fX1_27 (shY hy) (by decide) rfl ?_
  refine J.aload_n 1 dX1_copyFrom_8 rfl rfl ?_
  refine I.getR dX1_copyFrom_9 jcls fX1_9 (shY ho) (by decide) rfl (taY1 ho) ?_
  refine J.aload_n 0 dX1_copyFrom_12 rfl rfl ?_
  refine I.getR dX1_copyFrom_13 jcls fX1_9 (shY hy) (by decide) rfl (taY1 hy) ?_
  refine I.callSN2v (d' := d - 1) (mi' := mX8_copyRow) dX1_copyFrom_16 nX1_31 eX8_copyRow (c_X8_copyRow (d := d - 1) hl (by omega) (shY1 ho) (shY1 hy) (by first | omega | assumption)) (show d - 1 + 1 ≤ d from by omega) (Nat.le_of_ble_eq_true rfl) ?_
  refine J.aload_n 1 dX1_copyFrom_19 rfl rfl ?_
  refine I.getR dX1_copyFrom_20 jcls fX1_15 (shY ho) (by decide) rfl (taY2 ho) ?_
  refine J.aload_n 0 dX1_copyFrom_23 rfl rfl ?_
  refine I.getR dX1_copyFrom_24 jcls fX1_15 (shY hy) (by decide) rfl (taY2 hy) ?_
  refine I.callSN2v (d' := d - 1) (mi' := mX8_copyRow) dX1_copyFrom_27 nX1_31 eX8_copyRow (c_X8_copyRow (d := d - 1) hl (by omega) (shY2 ho) (shY2 hy) (by first | omega | assumption)) (show d - 1 + 1 ≤ d from by omega) (Nat.le_of_ble_eq_true rfl) ?_
  refine J.aload_n 1 dX1_copyFrom_30 rfl rfl ?_
  refine I.getR dX1_copyFrom_31 jcls fX1_18 (shY ho) (by decide) rfl (taY3 ho) ?_
  refine J.aload_n 0 dX1_copyFrom_34 rfl rfl ?_
  refine I.getR dX1_copyFrom_35 jcls fX1_18 (shY hy) (by decide) rfl (taY3 hy) ?_
  refine I.callSN2v (d' := d - 1) (mi' := mX8_copyRow) dX1_copyFrom_38 nX1_31 eX8_copyRow (c_X8_copyRow (d := d - 1) hl (by omega) (shY3 ho) (shY3 hy) (by first | omega | assumption)) (show d - 1 + 1 ≤ d from by omega) (Nat.le_of_ble_eq_true rfl) ?_
  refine J.aload_n 1 dX1_copyFrom_41 rfl rfl ?_
  refine I.getR dX1_copyFrom_42 jcls fX1_21 (shY ho) (by decide) rfl (taY4 ho) ?_
  refine J.aload_n 0 dX1_copyFrom_45 rfl rfl ?_
  refine I.getR dX1_copyFrom_46 jcls fX1_21 (shY hy) (by decide) rfl (taY4 hy) ?_
  refine I.callSN2v (d' := d - 1) (mi' := mX8_copyRow) dX1_copyFrom_49 nX1_31 eX8_copyRow (c_X8_copyRow (d := d - 1) hl (by omega) (shY4 ho) (shY4 hy) (by first | omega | assumption)) (show d - 1 + 1 ≤ d from by omega) (Nat.le_of_ble_eq_true rfl) ?_
  refine J.aload_n 1 dX1_copyFrom_52 rfl rfl ?_
  refine I.getR dX1_copyFrom_53 jcls fX1_24 (shY ho) (by decide) rfl (taY5 ho) ?_
  refine J.aload_n 0 dX1_copyFrom_56 rfl rfl ?_
  refine I.getR dX1_copyFrom_57 jcls fX1_24 (shY hy) (by decide) rfl (taY5 hy) ?_
  refine I.callSN2v (d' := d - 1) (mi' := mX8_copyRow) dX1_copyFrom_60 nX1_31 eX8_copyRow (c_X8_copyRow (d := d - 1) hl (by omega) (shY5 ho) (shY5 hy) (by first | omega | assumption)) (show d - 1 + 1 ≤ d from by omega) (Nat.le_of_ble_eq_true rfl) ?_
  exact I.vretQ dX1_copyFrom_63 rfl (by
    refine ⟨?_, ?_, ?_, ?_, ?_, ?_, ?_⟩
    · intro q i g; (repeat (first | rw [up_ne (Or.inl (by omega))] | rw [up_eqq ⟨by omega, by omega⟩] | rw [up_ne (Or.inr (by omega))] | rw [cpA_ne (by omega)] | rw [cpA_in ⟨by omega, by omega, by omega⟩])); first | done | rfl
    · (repeat (first | rw [up_ne (Or.inl (by omega))] | rw [up_eqq ⟨by omega, by omega⟩] | rw [up_ne (Or.inr (by omega))] | rw [cpA_ne (by omega)] | rw [cpA_in ⟨by omega, by omega, by omega⟩])); first | done | rfl
    · intro i a b; (repeat (first | rw [up_ne (Or.inl (by omega))] | rw [up_eqq ⟨by omega, by omega⟩] | rw [up_ne (Or.inr (by omega))] | rw [cpA_ne (by omega)] | rw [cpA_in ⟨by omega, by omega, by omega⟩])); first | done | rfl
    · intro i a b; (repeat (first | rw [up_ne (Or.inl (by omega))] | rw [up_eqq ⟨by omega, by omega⟩] | rw [up_ne (Or.inr (by omega))] | rw [cpA_ne (by omega)] | rw [cpA_in ⟨by omega, by omega, by omega⟩])); first | done | rfl
    · intro i a b; (repeat (first | rw [up_ne (Or.inl (by omega))] | rw [up_eqq ⟨by omega, by omega⟩] | rw [up_ne (Or.inr (by omega))] | rw [cpA_ne (by omega)] | rw [cpA_in ⟨by omega, by omega, by omega⟩])); first | done | rfl
    · intro i a b; (repeat (first | rw [up_ne (Or.inl (by omega))] | rw [up_eqq ⟨by omega, by omega⟩] | rw [up_ne (Or.inr (by omega))] | rw [cpA_ne (by omega)] | rw [cpA_in ⟨by omega, by omega, by omega⟩])); first | done | rfl
    · intro i a b; (repeat (first | rw [up_ne (Or.inl (by omega))] | rw [up_eqq ⟨by omega, by omega⟩] | rw [up_ne (Or.inr (by omega))] | rw [cpA_ne (by omega)] | rw [cpA_in ⟨by omega, by omega, by omega⟩])); first | done | rfl)
