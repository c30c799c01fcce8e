def jIsM (m : Nat) : Prop := m = 3 ∨ m = 21 ∨ m = 36
def jIsY (y : Nat) : Prop := y = 4 ∨ y = 22 ∨ y = 37
def jIsT (t : Nat) : Prop := t = 10 ∨ t = 28 ∨ t = 43 ∨ t = 127 ∨ ∃ i : Nat, i < 8 ∧ t = 63 + 8 * i
theorem jm3 : jIsM 3 := Or.inl rfl
theorem jm21 : jIsM 21 := Or.inr (Or.inl rfl)
theorem jm36 : jIsM 36 := Or.inr (Or.inr rfl)
theorem jy4 : jIsY 4 := Or.inl rfl
theorem jy22 : jIsY 22 := Or.inr (Or.inl rfl)
theorem jy37 : jIsY 37 := Or.inr (Or.inr rfl)
theorem yM {m : Nat} (h : jIsM m) : jIsY (m+1) := by
  rcases h with rfl | rfl | rfl
  · exact jy4
  · exact jy22
  · exact jy37
theorem tM {m : Nat} (h : jIsM m) : jIsT (m+7) := by
  rcases h with rfl | rfl | rfl
  · exact Or.inl rfl
  · exact Or.inr (Or.inl rfl)
  · exact Or.inr (Or.inr (Or.inl rfl))
theorem jt28 : jIsT 28 := Or.inr (Or.inl rfl)
theorem jth {i : Nat} (h : i < 8) : jIsT (63 + 8 * i) := Or.inr (Or.inr (Or.inr (Or.inr ⟨i, h, rfl⟩)))
theorem jIsT_all {p : Nat → Prop} (h0 : p 10) (h1 : p 28) (h2 : p 43) (h3 : p 127) (h4 : ∀ i, i < 8 → p (63 + 8 * i)) {t : Nat} (h : jIsT t) : p t := by
  rcases h with rfl | rfl | rfl | rfl | ⟨i, hi, rfl⟩
  · exact h0
  · exact h1
  · exact h2
  · exact h3
  · exact h4 i hi
theorem shM {m : Nat} (h : jIsM m) : jsh[m]? = some (2, 2) := by rcases h with rfl | rfl | rfl <;> rfl
theorem taM0 {m : Nat} (h : jIsM m) : jtau m 0 = some (m+1) := by rcases h with rfl | rfl | rfl <;> rfl
theorem taM1 {m : Nat} (h : jIsM m) : jtau m 1 = some (m+7) := by rcases h with rfl | rfl | rfl <;> rfl
theorem shL {m : Nat} (h : jIsM m) : jsh[m+1]? = some (1, 6) := by rcases h with rfl | rfl | rfl <;> rfl
theorem shS {m : Nat} (h : jIsM m) : jsh[m+7]? = some (6, 13) := by rcases h with rfl | rfl | rfl <;> rfl
theorem shL1 {m : Nat} (h : jIsM m) : jsh[m+2]? = some (100, 4) := by rcases h with rfl | rfl | rfl <;> rfl
theorem taL1 {m : Nat} (h : jIsM m) : jtau (m+1) 1 = some (m+2) := by rcases h with rfl | rfl | rfl <;> rfl
theorem shL3 {m : Nat} (h : jIsM m) : jsh[m+4]? = some (100, 96) := by rcases h with rfl | rfl | rfl <;> rfl
theorem taL3 {m : Nat} (h : jIsM m) : jtau (m+1) 3 = some (m+4) := by rcases h with rfl | rfl | rfl <;> rfl
theorem shL4 {m : Nat} (h : jIsM m) : jsh[m+5]? = some (100, 96) := by rcases h with rfl | rfl | rfl <;> rfl
theorem taL4 {m : Nat} (h : jIsM m) : jtau (m+1) 4 = some (m+5) := by rcases h with rfl | rfl | rfl <;> rfl
theorem shL5 {m : Nat} (h : jIsM m) : jsh[m+6]? = some (100, 96) := by rcases h with rfl | rfl | rfl <;> rfl
theorem taL5 {m : Nat} (h : jIsM m) : jtau (m+1) 5 = some (m+6) := by rcases h with rfl | rfl | rfl <;> rfl
theorem shS6 {m : Nat} (h : jIsM m) : jsh[m+8]? = some (100, 3) := by rcases h with rfl | rfl | rfl <;> rfl
theorem taS6 {m : Nat} (h : jIsM m) : jtau (m+7) 6 = some (m+8) := by rcases h with rfl | rfl | rfl <;> rfl
theorem shS7 {m : Nat} (h : jIsM m) : jsh[m+9]? = some (100, 3) := by rcases h with rfl | rfl | rfl <;> rfl
theorem taS7 {m : Nat} (h : jIsM m) : jtau (m+7) 7 = some (m+9) := by rcases h with rfl | rfl | rfl <;> rfl
theorem shS8 {m : Nat} (h : jIsM m) : jsh[m+10]? = some (100, 8) := by rcases h with rfl | rfl | rfl <;> rfl
theorem taS8 {m : Nat} (h : jIsM m) : jtau (m+7) 8 = some (m+10) := by rcases h with rfl | rfl | rfl <;> rfl
theorem shS9 {m : Nat} (h : jIsM m) : jsh[m+11]? = some (100, 2) := by rcases h with rfl | rfl | rfl <;> rfl
theorem taS9 {m : Nat} (h : jIsM m) : jtau (m+7) 9 = some (m+11) := by rcases h with rfl | rfl | rfl <;> rfl
theorem shS10 {m : Nat} (h : jIsM m) : jsh[m+12]? = some (100, 2) := by rcases h with rfl | rfl | rfl <;> rfl
theorem taS10 {m : Nat} (h : jIsM m) : jtau (m+7) 10 = some (m+12) := by rcases h with rfl | rfl | rfl <;> rfl
theorem shY {y : Nat} (h : jIsY y) : jsh[y]? = some (1, 6) := by rcases h with rfl | rfl | rfl <;> rfl
theorem shY1 {y : Nat} (h : jIsY y) : jsh[y+1]? = some (100, 4) := by rcases h with rfl | rfl | rfl <;> rfl
theorem taY1 {y : Nat} (h : jIsY y) : jtau y 1 = some (y+1) := by rcases h with rfl | rfl | rfl <;> rfl
theorem shY2 {y : Nat} (h : jIsY y) : jsh[y+2]? = some (100, 12) := by rcases h with rfl | rfl | rfl <;> rfl
theorem taY2 {y : Nat} (h : jIsY y) : jtau y 2 = some (y+2) := by rcases h with rfl | rfl | rfl <;> rfl
theorem shY3 {y : Nat} (h : jIsY y) : jsh[y+3]? = some (100, 96) := by rcases h with rfl | rfl | rfl <;> rfl
theorem taY3 {y : Nat} (h : jIsY y) : jtau y 3 = some (y+3) := by rcases h with rfl | rfl | rfl <;> rfl
theorem shY4 {y : Nat} (h : jIsY y) : jsh[y+4]? = some (100, 96) := by rcases h with rfl | rfl | rfl <;> rfl
theorem taY4 {y : Nat} (h : jIsY y) : jtau y 4 = some (y+4) := by rcases h with rfl | rfl | rfl <;> rfl
theorem shY5 {y : Nat} (h : jIsY y) : jsh[y+5]? = some (100, 96) := by rcases h with rfl | rfl | rfl <;> rfl
theorem taY5 {y : Nat} (h : jIsY y) : jtau y 5 = some (y+5) := by rcases h with rfl | rfl | rfl <;> rfl
theorem shT {t : Nat} (h : jIsT t) : jsh[t]? = some (6, 13) := jIsT_all (p := fun t => jsh[t]? = some (6, 13)) rfl rfl rfl rfl (by decide) h
theorem shT6 {t : Nat} (h : jIsT t) : jsh[t+1]? = some (100, 3) := jIsT_all (p := fun t => jsh[t+1]? = some (100, 3)) rfl rfl rfl rfl (by decide) h
theorem taT6 {t : Nat} (h : jIsT t) : jtau t 6 = some (t+1) := jIsT_all (p := fun t => jtau t 6 = some (t+1)) rfl rfl rfl rfl (by decide) h
theorem shT7 {t : Nat} (h : jIsT t) : jsh[t+2]? = some (100, 3) := jIsT_all (p := fun t => jsh[t+2]? = some (100, 3)) rfl rfl rfl rfl (by decide) h
theorem taT7 {t : Nat} (h : jIsT t) : jtau t 7 = some (t+2) := jIsT_all (p := fun t => jtau t 7 = some (t+2)) rfl rfl rfl rfl (by decide) h
theorem shT8 {t : Nat} (h : jIsT t) : jsh[t+3]? = some (100, 8) := jIsT_all (p := fun t => jsh[t+3]? = some (100, 8)) rfl rfl rfl rfl (by decide) h
theorem taT8 {t : Nat} (h : jIsT t) : jtau t 8 = some (t+3) := jIsT_all (p := fun t => jtau t 8 = some (t+3)) rfl rfl rfl rfl (by decide) h
theorem shT9 {t : Nat} (h : jIsT t) : jsh[t+4]? = some (100, 2) := jIsT_all (p := fun t => jsh[t+4]? = some (100, 2)) rfl rfl rfl rfl (by decide) h
theorem taT9 {t : Nat} (h : jIsT t) : jtau t 9 = some (t+4) := jIsT_all (p := fun t => jtau t 9 = some (t+4)) rfl rfl rfl rfl (by decide) h
theorem shT10 {t : Nat} (h : jIsT t) : jsh[t+5]? = some (100, 2) := jIsT_all (p := fun t => jsh[t+5]? = some (100, 2)) rfl rfl rfl rfl (by decide) h
theorem taT10 {t : Nat} (h : jIsT t) : jtau t 10 = some (t+5) := jIsT_all (p := fun t => jtau t 10 = some (t+5)) rfl rfl rfl rfl (by decide) h
theorem shT11 {t : Nat} (h : jIsT t) : jsh[t+6]? = some (100, 42) := jIsT_all (p := fun t => jsh[t+6]? = some (100, 42)) rfl rfl rfl rfl (by decide) h
theorem taT11 {t : Nat} (h : jIsT t) : jtau t 11 = some (t+6) := jIsT_all (p := fun t => jtau t 11 = some (t+6)) rfl rfl rfl rfl (by decide) h
theorem shT12 {t : Nat} (h : jIsT t) : jsh[t+7]? = some (100, 42) := jIsT_all (p := fun t => jsh[t+7]? = some (100, 42)) rfl rfl rfl rfl (by decide) h
theorem taT12 {t : Nat} (h : jIsT t) : jtau t 12 = some (t+7) := jIsT_all (p := fun t => jtau t 12 = some (t+7)) rfl rfl rfl rfl (by decide) h
set_option maxHeartbeats 1000000 in
theorem c_X8_at {Γ : jE} (hl : Γ.1.stackTraces = false) {s : Nat → Int → Int} {ε : jEps} {d : Nat} {q : Nat} {n : Nat} {i : Int} (hd : 0 ≤ d) (hq : jsh[q]? = some (100, n)) (p0 : n < 2147483648) (p1 : 0 ≤ i ∧ i < n) : Con Γ (d, 0, 0) mX8_at [.ref q, .int (iI i)] (jmem s ε) (RI (s q i) (s) ε) X0 := by
  refine Con.ofJ (by decide +kernel) (by simp [Value.category]) (Nat.le_of_ble_eq_true rfl) ?_ hl
  refine J.iload_n 1 dX8_at_0 rfl rfl ?_
  refine I.if_lt 16 dX8_at_1 (by decide) (by omega) (fun h1 => ?_) (fun h1 => ?_)
  · exact absurd h1 (by omega)
  · skip
    refine J.iload_n 1 dX8_at_4 rfl rfl ?_
    refine J.aload_n 0 dX8_at_5 rfl rfl ?_
    refine I.alen dX8_at_6 hq (by decide) ?_
    refine I.icmp_ge 16 dX8_at_7 (by decide) (by omega) (by omega) (fun h7 => ?_) (fun h7 => ?_)
    · exact absurd h7 (by omega)
    · skip
      refine J.aload_n 0 dX8_at_10 rfl rfl ?_
      refine J.iload_n 1 dX8_at_11 rfl rfl ?_
      refine I.iald dX8_at_12 hq (by omega) (by omega) ?_
      refine J.goto 17 dX8_at_13 (by decide) ?_
      exact I.iretI dX8_at_17 rfl (by first | rfl | omega) rfl
