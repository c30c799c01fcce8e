theorem jtau62 : ∀ {k : Nat}, k < 8 → jtau 62 k = some (63 + 8 * k) := by
  have : ∀ k, k < 8 → jtau 62 k = some (63 + 8 * k) := by decide
  exact fun {k} h => this k h
/-- the text that a Text holds: the row's cell, the cell and the place of its length -/
def TX (s : Nat → Int → Int) (a l : Nat) (j : Int) (x : List Int) : Prop := s l j = (x.length : Int) ∧ ∀ i : Nat, i < x.length → s a i = x.getD i 0
theorem TX.nil {s : Nat → Int → Int} {a l : Nat} {j : Int} (h : s l j = 0) : TX s a l j [] := ⟨h, fun i hi => absurd hi (Nat.not_lt_zero i)⟩
theorem TX.add {s : Nat → Int → Int} {a l : Nat} {j z : Int} {x : List Int} (hal : a ≠ l) (h : TX s a l j x) : TX (up (up s a (s l j) z) l j (s l j + 1)) a l j (x ++ [z]) := by
  obtain ⟨h1, h2⟩ := h
  refine ⟨?_, fun i hi => ?_⟩
  · rw [up_eq, h1, List.length_append]; simp
  · rw [up_ne (Or.inl hal)]
    rw [List.length_append] at hi
    by_cases g : i < x.length
    · rw [up_ne (Or.inr (by omega)), h2 i g, List.getD_eq_getElem?_getD, List.getD_eq_getElem?_getD, List.getElem?_append_left g]
    · have : i = x.length := by simp at hi; omega
      subst this
      rw [up_eqq ⟨rfl, h1.symm⟩]; simp
theorem TX.congr {s s' : Nat → Int → Int} {a l : Nat} {j : Int} {x : List Int} (h : TX s a l j x) (h1 : s' l j = s l j) (h2 : ∀ i, s' a i = s a i) : TX s' a l j x := ⟨h1.trans h.1, fun i hi => (h2 _).trans (h.2 i hi)⟩
