/-- the state of a game: the row, the edits that can be undone and their rows (latest first), whether there is a saved row, that row, the text, the input and its length, the fault's kind and place -/
abbrev AS : Type := (Int → Int) × Int × (Int → Int → Int) × Int × (Int → Int) × List Int × (Int → Int) × Int × Int × Int
abbrev aF (a : AS) : Int → Int := a.1
abbrev aN (a : AS) : Int := a.2.1
abbrev aH (a : AS) : Int → Int → Int := a.2.2.1
abbrev aB (a : AS) : Int := a.2.2.2.1
abbrev aG (a : AS) : Int → Int := a.2.2.2.2.1
abbrev aX (a : AS) : List Int := a.2.2.2.2.2.1
abbrev aT (a : AS) : Int → Int := a.2.2.2.2.2.2.1
abbrev aL (a : AS) : Int := a.2.2.2.2.2.2.2.1
abbrev aK (a : AS) : Int := a.2.2.2.2.2.2.2.2.1
abbrev aP (a : AS) : Int := a.2.2.2.2.2.2.2.2.2
def aSet (a : AS) (f : Int → Int) : AS := (f, a.2)
def hPush (f : Int → Int) (h : Int → Int → Int) : Int → Int → Int := fun k => if k = 0 then f else h (k - 1)
def aRec (a : AS) : AS := (a.1, min (aN a + 1) 8, hPush a.1 (aH a), a.2.2.2)
def aIn (a : AS) (t : Int → Int) (l : Int) : AS := (a.1, a.2.1, a.2.2.1, a.2.2.2.1, a.2.2.2.2.1, a.2.2.2.2.2.1, t, l, a.2.2.2.2.2.2.2.2)
/-- what holds of such a state -/
def AI (a : AS) : Prop := (FL (aF a) ∧ FS (aF a)) ∧ (0 ≤ aN a ∧ aN a ≤ 8) ∧ (∀ k, 0 ≤ k → k < aN a → gLay (aF a) (aH a k) ∧ FS (aH a k)) ∧ (aB a = 0 ∨ aB a = 1) ∧ (aB a = 1 → gLay (aF a) (aG a) ∧ FS (aG a)) ∧
  ((aX a).length ≤ 126 ∧ ∀ z ∈ aX a, 0 ≤ z ∧ z < 65536) ∧ (0 ≤ aL a ∧ aL a ≤ 500) ∧ (∀ i, 0 ≤ i → i < aL a → 0 ≤ aT a i ∧ aT a i ≤ 255) ∧ (0 ≤ aK a ∧ aK a ≤ 6) ∧ (-1 ≤ aP a ∧ aP a ≤ 500)
/-- the class's memory holds it -/
def CI (s : Nat → Int → Int) (a : AS) : Prop := RM s 21 (aF a) ∧ SO s (aF a) ∧
  (s 61 1 = aN a ∧ 0 ≤ s 61 2 ∧ s 61 2 < 8 ∧ ∀ k, 0 ≤ k → k < aN a → RT s (63 + 8 * ((s 61 2 - 1 - k) % 8).toNat) (aH a k)) ∧ (s 0 10 = aB a ∧ (aB a = 1 → RT s 127 (aG a))) ∧
  TX s 136 135 1 (aX a) ∧ (s 0 1 = aL a ∧ ∀ i, 0 ≤ i → i < aL a → s 1 i = aT a i) ∧ s 0 2 = aK a ∧ s 0 3 = aP a
def gSg (x : Int) : Int := if x < 128 then x else x - 256
/-- the model's memory holds it -/
def MI (s : Nat → Int → Int) (a : AS) : Prop := s 137 2 = 0 ∧ (∀ k, 0 ≤ k → k < 232 → s 138 k = aF a k) ∧
  (s 137 3 = aN a ∧ 0 ≤ s 137 4 ∧ s 137 4 < 8 ∧ ∀ k, 0 ≤ k → k < aN a → ∀ j, 0 ≤ j → j < 232 → s 138 (232 * (1 + (s 137 4 + aN a - 1 - k) % 8) + j) = aH a k j) ∧
  (s 137 5 = aB a ∧ (aB a = 1 → ∀ j, 0 ≤ j → j < 232 → s 138 (2088 + j) = aG a j)) ∧ TX s 140 137 11 (aX a) ∧ (s 137 7 = aL a ∧ ∀ i, 0 ≤ i → i < aL a → s 139 i = gSg (aT a i)) ∧ s 137 8 = aK a ∧ s 137 9 = aP a
def HiE (s s' : Nat → Int → Int) : Prop := ∀ q i, 137 ≤ q → s' q i = s q i
def LoE (s s' : Nat → Int → Int) : Prop := ∀ q i, q < 137 → s' q i = s q i
section IV
variable {s s' : Nat → Int → Int} {a : AS} {f : Int → Int}
theorem CI.m (h : CI s a) : RM s 21 (aF a) := h.1
theorem CI.so (h : CI s a) : SO s (aF a) := h.2.1
theorem MI.w (h : MI s a) (i : AI a) : MW s (aF a) := ⟨⟨Or.inl h.1, fun k k0 k1 => by rw [h.1, Int.zero_add]; exact h.2.1 k k0 k1⟩, i.1⟩
theorem TX.keep {q l : Nat} {j : Int} {x : List Int} (h : TX s q l j x) (h1 : s' l j = s l j) (h2 : ∀ i, s' q i = s q i) : TX s' q l j x := h.congr h1 h2
/-- the class's memory changed elsewhere -/
theorem CI.keep (h : CI s a) (ho : SO s' (aF a)) (k : ∀ q i, (q ≤ 1 ∨ 21 ≤ q ∧ q < 36 ∨ 61 ≤ q ∧ q < 137) → s' q i = s q i) : CI s' a := by
  obtain ⟨c1, c2, c3, c4, c5, c6, c7, c8⟩ := h
  refine ⟨c1.congr fun q i a b => k q i (by omega), ho, ⟨by rw [k _ _ (by omega)]; exact c3.1, by rw [k _ _ (by omega)]; exact c3.2.1, by rw [k _ _ (by omega)]; exact c3.2.2.1, fun j j0 j1 => ?_⟩, ⟨by rw [k _ _ (by omega)]; exact c4.1, fun b => (c4.2 b).congr fun q i a b => k q i (by omega)⟩, c5.congr (k _ _ (by omega)) (fun i => k _ _ (by omega)), ⟨by rw [k _ _ (by omega)]; exact c6.1, fun i i0 i1 => by rw [k _ _ (by omega)]; exact c6.2 i i0 i1⟩, by rw [k _ _ (by omega)]; exact c7, by rw [k _ _ (by omega)]; exact c8⟩
  rw [k 61 2 (by omega)]
  exact (c3.2.2.2 j j0 j1).congr fun q i a b => k q i (by omega)
theorem CI.hi (h : CI s a) (k : LoE s s') : CI s' a := h.keep (h.so.keep fun q j x => k q j (by omega)) (fun q i x => k q i (by omega))
/-- another row for the match, of the same layout -/
theorem CI.set (h : CI s a) (hl : FL (aF a)) (r : RM s' 21 f) (ly : gLay (aF a) f) (k : ∀ q i, (q < 28 ∨ 36 ≤ q) → (q < 51 ∨ 60 < q) → s' q i = s q i) (ho : SO s' (aF a)) : CI s' (aSet a f) := by
  obtain ⟨c1, c2, c3, c4, c5, c6, c7, c8⟩ := h
  refine ⟨r, ho.lay ly hl, ⟨by rw [k _ _ (by omega) (by omega)]; exact c3.1, by rw [k _ _ (by omega) (by omega)]; exact c3.2.1, by rw [k _ _ (by omega) (by omega)]; exact c3.2.2.1, fun j j0 j1 => ?_⟩, ⟨by rw [k _ _ (by omega) (by omega)]; exact c4.1, fun b => (c4.2 b).congr fun q i a b => k q i (by omega) (by omega)⟩, c5.congr (k _ _ (by omega) (by omega)) (fun i => k _ _ (by omega) (by omega)), ⟨by rw [k _ _ (by omega) (by omega)]; exact c6.1, fun i i0 i1 => by rw [k _ _ (by omega) (by omega)]; exact c6.2 i i0 i1⟩, by rw [k _ _ (by omega) (by omega)]; exact c7, by rw [k _ _ (by omega) (by omega)]; exact c8⟩
  rw [k 61 2 (by omega) (by omega)]
  exact (c3.2.2.2 j j0 j1).congr fun q i a b => k q i (by omega) (by omega)
theorem AI.set (i : AI a) (ly : gLay (aF a) f) (hv : FS f) : AI (aSet a f) := by
  obtain ⟨i1, i2, i3, i4, i5, i6⟩ := i
  exact ⟨⟨i1.1.lay ly, hv⟩, i2, fun k k0 k1 => ⟨ly.symm.trans (i3 k k0 k1).1, (i3 k k0 k1).2⟩, i4, fun b => ⟨ly.symm.trans (i5 b).1, (i5 b).2⟩, i6⟩
theorem AI.rec (i : AI a) : AI (aRec a) := by
  obtain ⟨i1, i2, i3, i4, i5, i6⟩ := i
  refine ⟨i1, ⟨by show 0 ≤ min (aN a + 1) 8; omega, by show min (aN a + 1) 8 ≤ 8; omega⟩, fun k k0 k1 => ?_, i4, i5, i6⟩
  have k1 : k < min (aN a + 1) 8 := k1
  show gLay a.1 (hPush a.1 (aH a) k) ∧ FS (hPush a.1 (aH a) k)
  unfold hPush
  by_cases e : k = 0
  · rw [if_pos e]; exact ⟨gLay.refl _, i1.2⟩
  · rw [if_neg e]; exact i3 (k - 1) (by omega) (by omega)
/-- the state before an edit, kept by the class -/
def HRem (s s' : Nat → Int → Int) : Prop := (∀ q i, q ≠ 61 → (q < 63 + 8 * (s 61 2).toNat ∨ 63 + 8 * (s 61 2).toNat + 8 ≤ q) → s' q i = s q i) ∧ s' 61 2 = (if s 61 2 + 1 < 8 then s 61 2 + 1 else 0) ∧ s' 61 1 = min (s 61 1 + 1) 8 ∧ RT s' (63 + 8 * (s 61 2).toNat) f
theorem CI.rec (h : CI s a) (i : AI a) (r : HRem (f := aF a) s s') : CI s' (aRec a) ∧ HiE s s' := by
  obtain ⟨c1, c2, c3, c4, c5, c6, c7, c8⟩ := h
  obtain ⟨r1, r2, r3, r4⟩ := r
  have i2 := i.2.1
  obtain ⟨n, hn⟩ : ∃ n : Nat, s 61 2 = (n : Int) := ⟨(s 61 2).toNat, by omega⟩
  have k : ∀ q j, (q < 61 ∨ 127 ≤ q) → s' q j = s q j := fun q j x => r1 q j (by omega) (by omega)
  refine ⟨⟨c1.congr fun q i a b => k q i (by omega), c2.keep fun q j x => k q j (by omega), ⟨?_, ?_, ?_, fun j j0 j1 => ?_⟩, ⟨by rw [k _ _ (by omega)]; exact c4.1, fun b => (c4.2 b).congr fun q i a b => k q i (by omega)⟩, c5.congr (k _ _ (by omega)) (fun i => k _ _ (by omega)), ⟨by rw [k _ _ (by omega)]; exact c6.1, fun i i0 i1 => by rw [k _ _ (by omega)]; exact c6.2 i i0 i1⟩, by rw [k _ _ (by omega)]; exact c7, by rw [k _ _ (by omega)]; exact c8⟩, fun q i x => k q i (by omega)⟩
  · rw [r3, c3.1]; rfl
  · rw [r2]; split <;> omega
  · rw [r2]; split <;> omega
  · have j1 : j < min (aN a + 1) 8 := j1
    show RT s' _ (hPush a.1 (aH a) j)
    unfold hPush
    by_cases e : j = 0
    · rw [if_pos e, show (s' 61 2 - 1 - j) % 8 = s 61 2 by rw [r2]; split <;> omega]
      exact r4
    · rw [if_neg e]
      have x := c3.2.2.2 (j - 1) (by omega) (by omega)
      have e1 : (s' 61 2 - 1 - j) % 8 = (s 61 2 - 1 - (j - 1)) % 8 := by rw [r2]; split <;> omega
      rw [e1]
      exact x.congr fun q i a b => r1 q i (by omega) (by omega)
/-- the model's memory changed elsewhere -/
theorem MI.keep (h : MI s a) (k : ∀ q i, 137 ≤ q → q < 141 → (q ≠ 137 ∨ i ≠ 0 ∧ i < 12) → (q ≠ 138 ∨ i < 2320) → s' q i = s q i) : MI s' a := by
  obtain ⟨m1, m2, m3, m4, m5, m6, m7, m8⟩ := h
  refine ⟨by rw [k _ _ (by omega) (by omega) (by omega) (by omega)]; exact m1, fun j j0 j1 => by rw [k _ _ (by omega) (by omega) (by omega) (by omega)]; exact m2 j j0 j1, ⟨by rw [k _ _ (by omega) (by omega) (by omega) (by omega)]; exact m3.1, by rw [k _ _ (by omega) (by omega) (by omega) (by omega)]; exact m3.2.1, by rw [k _ _ (by omega) (by omega) (by omega) (by omega)]; exact m3.2.2.1, fun x x0 x1 j j0 j1 => ?_⟩, ⟨by rw [k _ _ (by omega) (by omega) (by omega) (by omega)]; exact m4.1, fun b j j0 j1 => by rw [k _ _ (by omega) (by omega) (by omega) (by omega)]; exact m4.2 b j j0 j1⟩, m5.congr (k _ _ (by omega) (by omega) (by omega) (by omega)) (fun i => k _ _ (by omega) (by omega) (by omega) (by omega)), ⟨by rw [k _ _ (by omega) (by omega) (by omega) (by omega)]; exact m6.1, fun i i0 i1 => by rw [k _ _ (by omega) (by omega) (by omega) (by omega)]; exact m6.2 i i0 i1⟩, by rw [k _ _ (by omega) (by omega) (by omega) (by omega)]; exact m7, by rw [k _ _ (by omega) (by omega) (by omega) (by omega)]; exact m8⟩
  rw [k 137 4 (by omega) (by omega) (by omega) (by omega), k _ _ (by omega) (by omega) (by omega) (by omega)]
  exact m3.2.2.2 x x0 x1 j j0 j1
theorem MI.lo (h : MI s a) (k : HiE s s') : MI s' a := h.keep fun q i a _ _ _ => k q i a
theorem MI.set (h : MI s a) (r : ∀ k, 0 ≤ k → k < 232 → s' 138 k = f k) (k : ∀ q i, 137 ≤ q → q < 141 → (q ≠ 137 ∨ i ≠ 0 ∧ i < 12) → (q ≠ 138 ∨ 232 ≤ i ∧ i < 2320) → s' q i = s q i) : MI s' (aSet a f) := by
  obtain ⟨m1, m2, m3, m4, m5, m6, m7, m8⟩ := h
  refine ⟨by rw [k _ _ (by omega) (by omega) (by omega) (by omega)]; exact m1, r, ⟨by rw [k _ _ (by omega) (by omega) (by omega) (by omega)]; exact m3.1, by rw [k _ _ (by omega) (by omega) (by omega) (by omega)]; exact m3.2.1, by rw [k _ _ (by omega) (by omega) (by omega) (by omega)]; exact m3.2.2.1, fun x x0 x1 j j0 j1 => ?_⟩, ⟨by rw [k _ _ (by omega) (by omega) (by omega) (by omega)]; exact m4.1, fun b j j0 j1 => by rw [k _ _ (by omega) (by omega) (by omega) (by omega)]; exact m4.2 b j j0 j1⟩, m5.congr (k _ _ (by omega) (by omega) (by omega) (by omega)) (fun i => k _ _ (by omega) (by omega) (by omega) (by omega)), ⟨by rw [k _ _ (by omega) (by omega) (by omega) (by omega)]; exact m6.1, fun i i0 i1 => by rw [k _ _ (by omega) (by omega) (by omega) (by omega)]; exact m6.2 i i0 i1⟩, by rw [k _ _ (by omega) (by omega) (by omega) (by omega)]; exact m7, by rw [k _ _ (by omega) (by omega) (by omega) (by omega)]; exact m8⟩
  rw [k 137 4 (by omega) (by omega) (by omega) (by omega), k _ _ (by omega) (by omega) (by omega) (by omega)]
  exact m3.2.2.2 x x0 x1 j j0 j1
/-- the model keeps a row before an edit -/
def MRem (s s' : Nat → Int → Int) : Prop := (∀ q i, q ≠ 138 → (q ≠ 137 ∨ i ≠ 3 ∧ i ≠ 4) → s' q i = s q i) ∧ s' 137 3 = min (s 137 3 + 1) 8 ∧ s' 137 4 = (if s 137 3 = 8 then (s 137 4 + 1) % 8 else s 137 4) ∧
  (∀ j, (j < 232 * (1 + (s 137 4 + s 137 3) % 8) ∨ 232 * (1 + (s 137 4 + s 137 3) % 8) + 232 ≤ j) → s' 138 j = s 138 j) ∧ ∀ j, 0 ≤ j → j < 232 → s' 138 (232 * (1 + (s 137 4 + s 137 3) % 8) + j) = s 138 j
theorem MI.rec (h : MI s a) (i : AI a) (r : MRem s s') : MI s' (aRec a) ∧ LoE s s' := by
  obtain ⟨m1, m2, m3, m4, m5, m6, m7, m8⟩ := h
  obtain ⟨r1, r2, r3, r4, r5⟩ := r
  have i2 := i.2.1
  refine ⟨⟨by rw [r1 _ _ (by omega) (by omega)]; exact m1, fun j j0 j1 => by rw [r4 j (by omega)]; exact m2 j j0 j1, ⟨by rw [r2, m3.1]; rfl, ?_, ?_, fun x x0 x1 j j0 j1 => ?_⟩, ⟨by rw [r1 _ _ (by omega) (by omega)]; exact m4.1, fun b j j0 j1 => by rw [r4 _ (by omega)]; exact m4.2 b j j0 j1⟩, m5.congr (r1 _ _ (by omega) (by omega)) (fun i => r1 _ _ (by omega) (by omega)), ⟨by rw [r1 _ _ (by omega) (by omega)]; exact m6.1, fun i i0 i1 => by rw [r1 _ _ (by omega) (by omega)]; exact m6.2 i i0 i1⟩, by rw [r1 _ _ (by omega) (by omega)]; exact m7, by rw [r1 _ _ (by omega) (by omega)]; exact m8⟩, fun q i x => r1 q i (by omega) (by omega)⟩
  · rw [r3]; split <;> omega
  · rw [r3]; split <;> omega
  · have x1 : x < min (aN a + 1) 8 := x1
    show s' 138 (232 * (1 + (s' 137 4 + min (aN a + 1) 8 - 1 - x) % 8) + j) = hPush a.1 (aH a) x j
    rw [m3.1] at r3 r4 r5
    have e : (s' 137 4 + min (aN a + 1) 8 - 1 - x) % 8 = (s 137 4 + aN a - x) % 8 := by rw [r3]; split <;> omega
    rw [e]
    unfold hPush
    by_cases q : x = 0
    · rw [if_pos q, show s 137 4 + aN a - x = s 137 4 + aN a by omega, r5 j j0 j1]; exact m2 j j0 j1
    · rw [if_neg q]
      have y := m3.2.2.2 (x - 1) (by omega) (by omega) j j0 j1
      rw [show s 137 4 + aN a - 1 - (x - 1) = s 137 4 + aN a - x by omega] at y
      rw [r4 _ (by omega)]; exact y
end IV
