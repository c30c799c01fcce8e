/-- the bytes of a word -/
def gB4 (z k : Int) : Int := if k = 0 then z / 16777216 % 256 else if k = 1 then z / 65536 % 256 else if k = 2 then z / 256 % 256 else z % 256
theorem ushr_bv (x : Int32) (n : Nat) (hn : n = 0 ∨ n = 8 ∨ n = 16 ∨ n = 24) : ((x.toUInt32 >>> ((iI n).toUInt32 &&& Int32.toUInt32 31)).toInt32 &&& iI 255).toBitVec = (x.toBitVec >>> n) &&& 255#32 := by
  rcases hn with rfl | rfl | rfl | rfl <;> rfl
theorem byte_u {z : Int} (hz : -2147483648 ≤ z ∧ z < 2147483648) (n : Nat) (hn : n = 0 ∨ n = 8 ∨ n = 16 ∨ n = 24) : ((iI z).toUInt32 >>> ((iI n).toUInt32 &&& Int32.toUInt32 31)).toInt32 &&& iI 255 = iI (z / 2 ^ n % 256) := by
  rw [← Int32.toInt_inj]
  have e : (((iI z).toUInt32 >>> ((iI n).toUInt32 &&& Int32.toUInt32 31)).toInt32 &&& iI 255).toInt = (((iI z).toBitVec >>> n) &&& 255#32).toInt := congrArg BitVec.toInt (ushr_bv (iI z) n hn)
  have t : (((iI z).toBitVec >>> n) &&& 255#32).toNat = (iI z).toBitVec.toNat / 2 ^ n % 256 := by
    rw [BitVec.toNat_and, BitVec.toNat_ushiftRight, Nat.shiftRight_eq_div_pow, show (255#32).toNat = 2 ^ 8 - 1 from rfl, Nat.and_two_pow_sub_one_eq_mod]
  have lt : (iI z).toBitVec.toNat / 2 ^ n % 256 < 256 := Nat.mod_lt _ (by decide)
  have z1 : (iI z).toBitVec.toInt = z := iI_toInt hz
  have z2 := BitVec.toInt_eq_toNat_cond (iI z).toBitVec
  have b := (iI z).toBitVec.isLt
  rw [e, BitVec.toInt_eq_toNat_cond, t, if_pos (by omega)]
  rw [z1] at z2
  generalize (iI z).toBitVec.toNat = u at *
  have g : ((u / 2 ^ n % 256 : Nat) : Int) = z / 2 ^ n % 256 := by
    rcases hn with rfl | rfl | rfl | rfl
    · show ((u / 1 % 256 : Nat) : Int) = z / 1 % 256
      split at z2 <;> omega
    · show ((u / 256 % 256 : Nat) : Int) = z / 256 % 256
      split at z2 <;> omega
    · show ((u / 65536 % 256 : Nat) : Int) = z / 65536 % 256
      split at z2 <;> omega
    · show ((u / 16777216 % 256 : Nat) : Int) = z / 16777216 % 256
      split at z2 <;> omega
  rw [iI_toInt (by omega)]
  exact g
section JB
variable {Γ : jE} {b : Nat × Nat × Nat} {mi : jMI} {pc : Nat} {L : List (Option Value)} {S : List Value} {M : jM} {P : Option Value → jM → Prop} {X : String → jM → Prop}
theorem gB4_n (z : Int) (n : Nat) (k : Int) (h : (n = 24 ∧ k = 0) ∨ (n = 16 ∧ k = 1) ∨ (n = 8 ∧ k = 2) ∨ (n = 0 ∧ k = 3)) : z / 2 ^ n % 256 = gB4 z k := by
  rcases h with ⟨rfl, rfl⟩ | ⟨rfl, rfl⟩ | ⟨rfl, rfl⟩ | ⟨rfl, rfl⟩
  · rfl
  · rfl
  · rfl
  · show z / 1 % 256 = z % 256; rw [Int.ediv_one]
/-- (x >>> n) & 255 -/
theorem I.ushrB {z h : Int} (n : Nat) (k : Int) (d1 : decode mi.2.1 pc = .ok (.iushr, 1)) (d2 : decode mi.2.1 (pc + 1) = .ok (.sipush 255, 3)) (d3 : decode mi.2.1 (pc + 1 + 3) = .ok (.iand, 1)) (hh : h = (n : Int)) (hn : (n = 24 ∧ k = 0) ∨ (n = 16 ∧ k = 1) ∨ (n = 8 ∧ k = 2) ∨ (n = 0 ∧ k = 3)) (hz : -2147483648 ≤ z ∧ z < 2147483648)
    (kk : J Γ b mi (pc + 1 + 3 + 1) L (.int (iI (gB4 z k)) :: S) M P X) : J Γ b mi pc L (.int (iI h) :: .int (iI z) :: S) M P X := by
  refine J.iushr d1 (J.sipush (iI 255) d2 (by decide) (J.iand d3 ?_))
  rw [hh, byte_u hz n (by omega), gB4_n z n k hn]; exact kk
end JB
/-- four bytes more -/
def gFd (t : Int → Int) (l z : Int) : Int → Int := fun i => if i = l then gB4 z 0 else if i = l + 1 then gB4 z 1 else if i = l + 2 then gB4 z 2 else if i = l + 3 then gB4 z 3 else t i
theorem gFd_eq {t u : Int → Int} {l z : Int} (h : ∀ i, 0 ≤ i → i < l → t i = u i) : ∀ i, 0 ≤ i → i < l + 4 → gFd t l z i = gFd u l z i := fun i a b => by
  unfold gFd
  (repeat' split) <;> first | rfl | exact h i a (by omega)
theorem feed_up {s : Nat → Int → Int} {q p : Nat} {j l b0 b1 b2 b3 x0 x1 x2 x3 : Int} (hq : q ≠ p) (i : Int) :
    up (up (up (up (up (up (up (up s q l b0) p j x0) q (l + 1) b1) p j x1) q (l + 1 + 1) b2) p j x2) q (l + 1 + 1 + 1) b3) p j x3 q i = if i = l then b0 else if i = l + 1 then b1 else if i = l + 2 then b2 else if i = l + 3 then b3 else s q i := by
  rw [up_ne (Or.inl hq)]
  by_cases h3 : i = l + 3
  · rw [up_eqq ⟨rfl, by omega⟩, if_neg (by omega), if_neg (by omega), if_neg (by omega), if_pos h3]
  · rw [up_ne (Or.inr (by omega)), up_ne (Or.inl hq)]
    by_cases h2 : i = l + 2
    · rw [up_eqq ⟨rfl, by omega⟩, if_neg (by omega), if_neg (by omega), if_pos h2]
    · rw [up_ne (Or.inr (by omega)), up_ne (Or.inl hq)]
      by_cases h1 : i = l + 1
      · rw [up_eqq ⟨rfl, by omega⟩, if_neg (by omega), if_pos h1]
      · rw [up_ne (Or.inr (by omega)), up_ne (Or.inl hq)]
        by_cases h0 : i = l
        · rw [up_eqq ⟨rfl, by omega⟩, if_pos h0]
        · rw [up_ne (Or.inr (by omega)), if_neg h0, if_neg h1, if_neg h2, if_neg h3]
/-- a text's signs -/
def tOk (n : Nat) (x : List Int) : Prop := x.length ≤ n ∧ ∀ z ∈ x, 0 ≤ z ∧ z < 65536
theorem tOk.add {n : Nat} {x : List Int} {z : Int} (h : tOk n x) (hz : 0 ≤ z ∧ z < 65536) : tOk (n + 1) (x ++ [z]) := ⟨by rw [List.length_append]; have := h.1; simp; omega, fun y hy => by
  rcases List.mem_append.mp hy with q | q
  · exact h.2 y q
  · rw [List.mem_singleton.mp q]; exact hz⟩
section IN
variable {s s' : Nat → Int → Int} {a : AS} {t : Int → Int} {l : Int}
theorem CI.inp (h : CI s a) (k : ∀ q i, q ≠ 1 → (q ≠ 0 ∨ i ≠ 1) → s' q i = s q i) (k1 : s' 0 1 = l) (k2 : ∀ i, 0 ≤ i → i < l → s' 1 i = t i) : CI s' (aIn a t l) := by
  obtain ⟨c1, c2, c3, c4, c5, c6, c7, c8⟩ := h
  refine ⟨c1.congr fun q i a b => k q i (by omega) (by omega), c2.keep fun q j x => k q j (by omega) (by omega), ⟨by rw [k _ _ (by omega) (by omega)]; exact c3.1, by rw [k _ _ (by omega) (by omega)]; exact c3.2.1, by rw [k _ _ (by omega) (by omega)]; exact c3.2.2.1, fun j j0 j1 => ?_⟩, ⟨by rw [k _ _ (by omega) (by omega)]; exact c4.1, fun b => (c4.2 b).congr fun q i a b => k q i (by omega) (by omega)⟩, c5.congr (k _ _ (by omega) (by omega)) (fun i => k _ _ (by omega) (by omega)), ⟨k1, k2⟩, by rw [k _ _ (by omega) (by omega)]; exact c7, by rw [k _ _ (by omega) (by omega)]; exact c8⟩
  rw [k 61 2 (by omega) (by omega)]
  exact (c3.2.2.2 j j0 j1).congr fun q i a b => k q i (by omega) (by omega)
theorem MI.inp (h : MI s a) (k : ∀ q i, q ≠ 139 → (q ≠ 137 ∨ i ≠ 0 ∧ i ≠ 7) → s' q i = s q i) (k1 : s' 137 7 = l) (k2 : ∀ i, 0 ≤ i → i < l → s' 139 i = gSg (t i)) : MI s' (aIn a t l) := by
  obtain ⟨m1, m2, m3, m4, m5, m6, m7, m8⟩ := h
  refine ⟨by rw [k _ _ (by omega) (by omega)]; exact m1, fun j j0 j1 => by rw [k _ _ (by omega) (by omega)]; exact m2 j j0 j1, ⟨by rw [k _ _ (by omega) (by omega)]; exact m3.1, by rw [k _ _ (by omega) (by omega)]; exact m3.2.1, by rw [k _ _ (by omega) (by omega)]; exact m3.2.2.1, fun x x0 x1 j j0 j1 => ?_⟩, ⟨by rw [k _ _ (by omega) (by omega)]; exact m4.1, fun b j j0 j1 => by rw [k _ _ (by omega) (by omega)]; exact m4.2 b j j0 j1⟩, m5.congr (k _ _ (by omega) (by omega)) (fun i => k _ _ (by omega) (by omega)), ⟨k1, k2⟩, by rw [k _ _ (by omega) (by omega)]; exact m7, by rw [k _ _ (by omega) (by omega)]; exact m8⟩
  rw [k 137 4 (by omega) (by omega), k _ _ (by omega) (by omega)]
  exact m3.2.2.2 x x0 x1 j j0 j1
theorem AI.inp (i : AI a) (h : 0 ≤ l ∧ l ≤ 500) (k : ∀ i, 0 ≤ i → i < l → 0 ≤ t i ∧ t i ≤ 255) : AI (aIn a t l) := by
  obtain ⟨i1, i2, i3, i4, i5, i6, i7, i8, i9⟩ := i
  exact ⟨i1, i2, i3, i4, i5, i6, h, k, i9⟩
end IN
