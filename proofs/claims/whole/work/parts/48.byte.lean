/-- the bytes of a word -/
def gB4 (z k : Int) : Int := if k = 0 then z / 16777216 % 256 else if k = 1 then z / 65536 % 256 else if k = 2 then z / 256 % 256 else z % 256
theorem gB4_rng (z k : Int) : 0 ≤ gB4 z k ∧ gB4 z k ≤ 255 := by unfold gB4; (repeat' split) <;> omega
theorem gSg_rng {x : Int} (h : 0 ≤ x ∧ x ≤ 255) : -128 ≤ gSg x ∧ gSg x < 128 := by unfold gSg; split <;> omega
theorem shr_n (x : Int32) (n : Nat) (hn : n = 0 ∨ n = 8 ∨ n = 16 ∨ n = 24) : (x >>> (iI n &&& 31)).toInt = x.toInt / 2 ^ n := by
  rcases hn with rfl | rfl | rfl | rfl
  · rw [show iI ((0 : Nat) : Int) &&& 31 = 0 from by decide]
    show (x.toBitVec.sshiftRight' ((0 : Int32).toBitVec.smod 32)).toInt = _
    rw [BitVec.toInt_sshiftRight', Int.shiftRight_eq_div_pow, show ((0 : Int32).toBitVec.smod 32).toNat = 0 from by decide]; rfl
  · rw [show iI ((8 : Nat) : Int) &&& 31 = 8 from by decide]
    show (x.toBitVec.sshiftRight' ((8 : Int32).toBitVec.smod 32)).toInt = _
    rw [BitVec.toInt_sshiftRight', Int.shiftRight_eq_div_pow, show ((8 : Int32).toBitVec.smod 32).toNat = 8 from by decide]; rfl
  · rw [show iI ((16 : Nat) : Int) &&& 31 = 16 from by decide]
    show (x.toBitVec.sshiftRight' ((16 : Int32).toBitVec.smod 32)).toInt = _
    rw [BitVec.toInt_sshiftRight', Int.shiftRight_eq_div_pow, show ((16 : Int32).toBitVec.smod 32).toNat = 16 from by decide]; rfl
  · rw [show iI ((24 : Nat) : Int) &&& 31 = 24 from by decide]
    show (x.toBitVec.sshiftRight' ((24 : Int32).toBitVec.smod 32)).toInt = _
    rw [BitVec.toInt_sshiftRight', Int.shiftRight_eq_div_pow, show ((24 : Int32).toBitVec.smod 32).toNat = 24 from by decide]; rfl
theorem i2b_eq (x : Int32) : x.toInt8.toInt32 = iI (gSg (x.toInt % 256)) := by
  rw [← Int32.toInt_inj, Int8.toInt_toInt32, Int32.toInt_toInt8]
  have r := gSg_rng (x := x.toInt % 256) (by omega)
  rw [iI_toInt (by omega)]
  unfold gSg
  rw [Int.bmod_def]
  split <;> split <;> omega
theorem nar_byte {x : Int} (h : -128 ≤ x ∧ x < 128) : vp_nar .byte (iI x) = iI x := by
  show (iI x).toInt8.toInt32 = iI x
  rw [i2b_eq, iI_toInt (by omega)]
  congr 1
  unfold gSg
  split <;> omega
theorem byte_s {z : Int} (hz : -2147483648 ≤ z ∧ z < 2147483648) (n : Nat) (hn : n = 0 ∨ n = 8 ∨ n = 16 ∨ n = 24) : (iI z >>> (iI n &&& 31)).toInt8.toInt32 = iI (gSg (z / 2 ^ n % 256)) := by
  rw [i2b_eq, shr_n _ n hn, iI_toInt hz]
theorem ushr_bv (x : Int32) (n : Nat) (hn : n = 0 ∨ n = 8 ∨ n = 16 ∨ n = 24) : ((x.toUInt32 >>> ((iI n).toUInt32 &&& Int32.toUInt32 31)).toInt32 &&& iI 255).toBitVec = (x.toBitVec >>> n) &&& 255#32 := by
  rcases hn with rfl | rfl | rfl | rfl <;> rfl
theorem byte_u {z : Int} (hz : -2147483648 ≤ z ∧ z < 2147483648) (n : Nat) (hn : n = 0 ∨ n = 8 ∨ n = 16 ∨ n = 24) : ((iI z).toUInt32 >>> ((iI n).toUInt32 &&& Int32.toUInt32 31)).toInt32 &&& iI 255 = iI (z / 2 ^ n % 256) := by
  rw [← Int32.toInt_inj]
  have e : (((iI z).toUInt32 >>> ((iI n).toUInt32 &&& Int32.toUInt32 31)).toInt32 &&& iI 255).toInt = (((iI z).toBitVec >>> n) &&& 255#32).toInt := congrArg BitVec.toInt (ushr_bv (iI z) n hn)
  have t : (((iI z).toBitVec >>> n) &&& 255#32).toNat = (iI z).toBitVec.toNat / 2 ^ n % 256 := by
    rw [BitVec.toNat_and, BitVec.toNat_ushiftRight, Nat.shiftRight_eq_div_pow, show (255#32).toNat = 2 ^ 8 - 1 from rfl, Nat.and_two_pow_sub_one_eq_mod]
  have lt : (iI z).toBitVec.toNat / 2 ^ n % 256 < 256 := Nat.mod_lt _ (by decide)
  have z1 : (iI z).toBitVec.toInt = z := iI_toInt hz
  have z2 := BitVec.toInt_eq_toNat_cond (iI z).toBitVec
  have b := (iI z).toBitVec.isLt
  rw [e, BitVec.toInt_eq_toNat_cond, t, if_pos (by omega)]
  rw [z1] at z2
  generalize (iI z).toBitVec.toNat = u at *
  have g : ((u / 2 ^ n % 256 : Nat) : Int) = z / 2 ^ n % 256 := by
    rcases hn with rfl | rfl | rfl | rfl
    · show ((u / 1 % 256 : Nat) : Int) = z / 1 % 256
      split at z2 <;> omega
    · show ((u / 256 % 256 : Nat) : Int) = z / 256 % 256
      split at z2 <;> omega
    · show ((u / 65536 % 256 : Nat) : Int) = z / 65536 % 256
      split at z2 <;> omega
    · show ((u / 16777216 % 256 : Nat) : Int) = z / 16777216 % 256
      split at z2 <;> omega
  rw [iI_toInt (by omega)]
  exact g
section JB
variable {Γ : jE} {b : Nat × Nat × Nat} {mi : jMI} {pc : Nat} {L : List (Option Value)} {S : List Value} {M : jM} {P : Option Value → jM → Prop} {X : String → jM → Prop}
theorem gB4_n (z : Int) (n : Nat) (k : Int) (h : (n = 24 ∧ k = 0) ∨ (n = 16 ∧ k = 1) ∨ (n = 8 ∧ k = 2) ∨ (n = 0 ∧ k = 3)) : z / 2 ^ n % 256 = gB4 z k := by
  rcases h with ⟨rfl, rfl⟩ | ⟨rfl, rfl⟩ | ⟨rfl, rfl⟩ | ⟨rfl, rfl⟩
  · rfl
  · rfl
  · rfl
  · show z / 1 % 256 = z % 256; rw [Int.ediv_one]
/-- (x >>> n) & 255 -/
theorem I.ushrB {z h : Int} (n : Nat) (k : Int) (d1 : decode mi.2.1 pc = .ok (.iushr, 1)) (d2 : decode mi.2.1 (pc + 1) = .ok (.sipush 255, 3)) (d3 : decode mi.2.1 (pc + 1 + 3) = .ok (.iand, 1)) (hh : h = (n : Int)) (hn : (n = 24 ∧ k = 0) ∨ (n = 16 ∧ k = 1) ∨ (n = 8 ∧ k = 2) ∨ (n = 0 ∧ k = 3)) (hz : -2147483648 ≤ z ∧ z < 2147483648)
    (kk : J Γ b mi (pc + 1 + 3 + 1) L (.int (iI (gB4 z k)) :: S) M P X) : J Γ b mi pc L (.int (iI h) :: .int (iI z) :: S) M P X := by
  refine J.iushr d1 (J.sipush (iI 255) d2 (by decide) (J.iand d3 ?_))
  rw [hh, byte_u hz n (by omega), gB4_n z n k hn]; exact kk
/-- (byte) (x >> n) -/
theorem I.shrB {z h : Int} (n : Nat) (k : Int) (d1 : decode mi.2.1 pc = .ok (.ishr, 1)) (d2 : decode mi.2.1 (pc + 1) = .ok (.i2b, 1)) (hh : h = (n : Int)) (hn : (n = 24 ∧ k = 0) ∨ (n = 16 ∧ k = 1) ∨ (n = 8 ∧ k = 2) ∨ (n = 0 ∧ k = 3)) (hz : -2147483648 ≤ z ∧ z < 2147483648)
    (kk : J Γ b mi (pc + 1 + 1) L (.int (iI (gSg (gB4 z k))) :: S) M P X) : J Γ b mi pc L (.int (iI h) :: .int (iI z) :: S) M P X := by
  refine J.ishr d1 (J.i2b d2 ?_)
  rw [hh, byte_s hz n (by omega), gB4_n z n k hn]; exact kk
end JB
/-- four bytes more -/
def gFd (t : Int → Int) (l z : Int) : Int → Int := fun i => if i = l then gB4 z 0 else if i = l + 1 then gB4 z 1 else if i = l + 2 then gB4 z 2 else if i = l + 3 then gB4 z 3 else t i
def gFdM (t : Int → Int) (l z : Int) : Int → Int := fun i => if i = l then gSg (gB4 z 0) else if i = l + 1 then gSg (gB4 z 1) else if i = l + 2 then gSg (gB4 z 2) else if i = l + 3 then gSg (gB4 z 3) else t i
theorem gFd_eq {t u : Int → Int} {l z : Int} (h : ∀ i, 0 ≤ i → i < l → t i = u i) : ∀ i, 0 ≤ i → i < l + 4 → gFd t l z i = gFd u l z i := fun i a b => by
  unfold gFd
  (repeat' split) <;> first | rfl | exact h i a (by omega)
theorem gFdM_eq {t u : Int → Int} {l z : Int} (h : ∀ i, 0 ≤ i → i < l → t i = gSg (u i)) : ∀ i, 0 ≤ i → i < l + 4 → gFdM t l z i = gSg (gFd u l z i) := fun i a b => by
  unfold gFd gFdM
  (repeat' split) <;> first | rfl | exact h i a (by omega)
theorem gFd_rng {t : Int → Int} {l z : Int} (h : ∀ i, 0 ≤ i → i < l → 0 ≤ t i ∧ t i ≤ 255) : ∀ i, 0 ≤ i → i < l + 4 → 0 ≤ gFd t l z i ∧ gFd t l z i ≤ 255 := fun i a b => by
  unfold gFd
  (repeat' split) <;> first | exact gB4_rng _ _ | exact h i a (by omega)
theorem feed_up {s : Nat → Int → Int} {q p : Nat} {j l b0 b1 b2 b3 x0 x1 x2 x3 : Int} (hq : q ≠ p) (i : Int) :
    up (up (up (up (up (up (up (up s q l b0) p j x0) q (l + 1) b1) p j x1) q (l + 1 + 1) b2) p j x2) q (l + 1 + 1 + 1) b3) p j x3 q i = if i = l then b0 else if i = l + 1 then b1 else if i = l + 2 then b2 else if i = l + 3 then b3 else s q i := by
  rw [up_ne (Or.inl hq)]
  by_cases h3 : i = l + 3
  · rw [up_eqq ⟨rfl, by omega⟩, if_neg (by omega), if_neg (by omega), if_neg (by omega), if_pos h3]
  · rw [up_ne (Or.inr (by omega)), up_ne (Or.inl hq)]
    by_cases h2 : i = l + 2
    · rw [up_eqq ⟨rfl, by omega⟩, if_neg (by omega), if_neg (by omega), if_pos h2]
    · rw [up_ne (Or.inr (by omega)), up_ne (Or.inl hq)]
      by_cases h1 : i = l + 1
      · rw [up_eqq ⟨rfl, by omega⟩, if_neg (by omega), if_pos h1]
      · rw [up_ne (Or.inr (by omega)), up_ne (Or.inl hq)]
        by_cases h0 : i = l
        · rw [up_eqq ⟨rfl, by omega⟩, if_pos h0]
        · rw [up_ne (Or.inr (by omega)), if_neg h0, if_neg h1, if_neg h2, if_neg h3]
/-- a chain's text -/
def gChS (f : Int → Int) (c : Int) (t : Int) (x : List Int) : List Int := (if 0 < t then x ++ [45] else x) ++ [48 + gT f c t / 10] ++ [48 + gT f c t % 10]
def gChT (f : Int → Int) (c : Int) : List Int := foldF (gChS f c) (f (37 + c) - f (34 + c) + 1).toNat 0 []
theorem gChS_len {f : Int → Int} {c t : Int} {x : List Int} : (gChS f c t x).length ≤ x.length + 3 ∧ x.length ≤ (gChS f c t x).length := by
  unfold gChS; split <;> simp
/-- a text's signs -/
def tOk (n : Nat) (x : List Int) : Prop := x.length ≤ n ∧ ∀ z ∈ x, 0 ≤ z ∧ z < 65536
theorem tOk.add {n : Nat} {x : List Int} {z : Int} (h : tOk n x) (hz : 0 ≤ z ∧ z < 65536) : tOk (n + 1) (x ++ [z]) := ⟨by rw [List.length_append]; have := h.1; simp; omega, fun y hy => by
  rcases List.mem_append.mp hy with q | q
  · exact h.2 y q
  · rw [List.mem_singleton.mp q]; exact hz⟩
theorem tOk.le {n m : Nat} {x : List Int} (h : tOk n x) (hm : n ≤ m) : tOk m x := ⟨Nat.le_trans h.1 hm, h.2⟩
theorem gChT_ok {f : Int → Int} (hl : FL f) (hv : FS f) {c : Int} (c0 : 0 ≤ c) (c1 : c < f (18 + f 1)) : tOk 126 (gChT f c) := by
  have e := hv.e hl c c0 c1
  have k : ∀ (k : Nat) (t : Int) (x : List Int) (n : Nat), 0 ≤ t → t + k ≤ f (37 + c) - f (34 + c) + 1 → tOk n x → tOk (n + 3 * k) (foldF (gChS f c) k t x) := by
    intro k
    induction k with
    | zero => intro t x n _ _ h; exact h
    | succ k ih =>
      intro t x n t0 t1 h
      rw [foldF_s, show n + 3 * (k + 1) = n + 3 + 3 * k by omega]
      refine ih (t + 1) _ (n + 3) (by omega) (by omega) ?_
      have g := gT_rng hl hv c0 c1 t0 (by omega)
      unfold gChS
      split
      · exact ((h.add (by omega)).add (by omega)).add (by omega)
      · exact ((h.add (z := 48 + gT f c t / 10) (by omega)).add (by omega)).le (by omega)
  have := k (f (37 + c) - f (34 + c) + 1).toNat 0 [] 0 (by omega) (by omega) ⟨Nat.le_refl 0, fun z hz => absurd hz List.not_mem_nil⟩
  exact this.le (by omega)
theorem gLogT_ok {f : Int → Int} (hv : FS f) {a : Int} (a0 : 0 ≤ a) : tOk 126 (gLogT f a) := by
  have m := hv.moves
  have k : ∀ (k : Nat) (i : Int) (x : List Int) (n : Nat), 0 ≤ i → i + k ≤ f 5 → tOk n x → tOk (n + 3 * k) (foldF (gLogS f a) k i x) := by
    intro k
    induction k with
    | zero => intro t x n _ _ h; exact h
    | succ k ih =>
      intro t x n t0 t1 h
      rw [foldF_s, show n + 3 * (k + 1) = n + 3 + 3 * k by omega]
      refine ih (t + 1) _ (n + 3) (by omega) (by omega) ?_
      have g := hv.lg t t0 (by omega)
      unfold gLogS gPiece
      split <;> split
      · exact ((h.add (by omega)).add (by omega)).le (by omega)
      · rw [app2]; exact ((h.add (by omega)).add (by split <;> omega)).add (by omega)
      · exact (h.add (by omega)).le (by omega)
      · rw [app2]; exact ((h.add (by split <;> omega)).add (by omega)).le (by omega)
  by_cases q : a ≤ f 5
  · have := k (f 5 - a).toNat a [] 0 a0 (by omega) ⟨Nat.le_refl 0, fun z hz => absurd hz List.not_mem_nil⟩
    exact this.le (by omega)
  · have : gLogT f a = [] := by unfold gLogT; rw [show (f 5 - a).toNat = 0 by omega]; rfl
    rw [this]; exact ⟨Nat.zero_le _, fun z hz => absurd hz List.not_mem_nil⟩
section IN
variable {s s' : Nat → Int → Int} {a : AS} {t : Int → Int} {l : Int}
theorem CI.inp (h : CI s a) (k : ∀ q i, q ≠ 1 → (q ≠ 0 ∨ i ≠ 1) → s' q i = s q i) (k1 : s' 0 1 = l) (k2 : ∀ i, 0 ≤ i → i < l → s' 1 i = t i) : CI s' (aIn a t l) := by
  obtain ⟨c1, c2, c3, c4, c5, c6, c7, c8⟩ := h
  refine ⟨c1.congr fun q i a b => k q i (by omega) (by omega), c2.keep fun q j x => k q j (by omega) (by omega), ⟨by rw [k _ _ (by omega) (by omega)]; exact c3.1, by rw [k _ _ (by omega) (by omega)]; exact c3.2.1, by rw [k _ _ (by omega) (by omega)]; exact c3.2.2.1, fun j j0 j1 => ?_⟩, ⟨by rw [k _ _ (by omega) (by omega)]; exact c4.1, fun b => (c4.2 b).congr fun q i a b => k q i (by omega) (by omega)⟩, c5.congr (k _ _ (by omega) (by omega)) (fun i => k _ _ (by omega) (by omega)), ⟨k1, k2⟩, by rw [k _ _ (by omega) (by omega)]; exact c7, by rw [k _ _ (by omega) (by omega)]; exact c8⟩
  rw [k 61 2 (by omega) (by omega)]
  exact (c3.2.2.2 j j0 j1).congr fun q i a b => k q i (by omega) (by omega)
theorem MI.inp (h : MI s a) (k : ∀ q i, q ≠ 139 → (q ≠ 137 ∨ i ≠ 0 ∧ i ≠ 7) → s' q i = s q i) (k1 : s' 137 7 = l) (k2 : ∀ i, 0 ≤ i → i < l → s' 139 i = gSg (t i)) : MI s' (aIn a t l) := by
  obtain ⟨m1, m2, m3, m4, m5, m6, m7, m8⟩ := h
  refine ⟨by rw [k _ _ (by omega) (by omega)]; exact m1, fun j j0 j1 => by rw [k _ _ (by omega) (by omega)]; exact m2 j j0 j1, ⟨by rw [k _ _ (by omega) (by omega)]; exact m3.1, by rw [k _ _ (by omega) (by omega)]; exact m3.2.1, by rw [k _ _ (by omega) (by omega)]; exact m3.2.2.1, fun x x0 x1 j j0 j1 => ?_⟩, ⟨by rw [k _ _ (by omega) (by omega)]; exact m4.1, fun b j j0 j1 => by rw [k _ _ (by omega) (by omega)]; exact m4.2 b j j0 j1⟩, m5.congr (k _ _ (by omega) (by omega)) (fun i => k _ _ (by omega) (by omega)), ⟨k1, k2⟩, by rw [k _ _ (by omega) (by omega)]; exact m7, by rw [k _ _ (by omega) (by omega)]; exact m8⟩
  rw [k 137 4 (by omega) (by omega), k _ _ (by omega) (by omega)]
  exact m3.2.2.2 x x0 x1 j j0 j1
theorem AI.inp (i : AI a) (h : 0 ≤ l ∧ l ≤ 500) (k : ∀ i, 0 ≤ i → i < l → 0 ≤ t i ∧ t i ≤ 255) : AI (aIn a t l) := by
  obtain ⟨i1, i2, i3, i4, i5, i6, i7, i8, i9⟩ := i
  exact ⟨i1, i2, i3, i4, i5, i6, h, k, i9⟩
end IN
