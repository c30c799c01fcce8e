section PE
variable {T : Int → Int} {n r c t q : Int} {g : Int → Int}
end PE
def FrN (s s' : Nat → Int → Int) : Prop := (∀ q j, q ≠ 138 → (q ≠ 137 ∨ j < 13 ∨ 16 < j) → s' q j = s q j) ∧ ∀ j, (j < 2320 ∨ 2552 ≤ j) → s' 138 j = s 138 j
def MR (T : Int → Int) (n : Int) (s s' : Nat → Int → Int) (w : Int) (z : Int × Int × (Int → Int)) (ok : Prop) : Prop :=
  FrN s s' ∧ (w = 1 ∧ z.1 = 0 ∧ pTok T n z.2.1 ∧ ok ∨ w = 0 ∧ s' 137 14 = pS T n z.2.1 ∧ (z.1 ≠ 0 ∧ s' 137 16 = z.1 ∨ z.1 = 0 ∧ ¬ pTok T n z.2.1 ∧ s' 137 16 = 1))
section MRs
variable {T : Int → Int} {n q w e : Int} {g : Int → Int} {s s' z : Nat → Int → Int} {r t : Int × Int × (Int → Int)} {ok ok2 : Prop}
theorem FrN.refl : FrN s s := ⟨fun _ _ _ _ => rfl, fun _ _ => rfl⟩
theorem FrN.trans (a : FrN s z) (b : FrN z s') : FrN s s' := ⟨fun q j h h2 => (b.1 q j h h2).trans (a.1 q j h h2), fun j h => (b.2 j h).trans (a.2 j h)⟩
theorem MR.bad (f : FrN s z) (h : MK T n z q) (e1 : r = (e, q, g)) (ne : e ≠ 0) : MR T n s (up z 137 16 e) 0 r ok := by
  subst e1
  exact ⟨f.trans ⟨fun a j x y => up_ne (by omega), fun j x => up_ne (by omega)⟩, Or.inr ⟨rfl, (up_ne (by omega)).trans h.2.2.2.1, Or.inl ⟨ne, up_eq _ _ _ _⟩⟩⟩
theorem MR.good (f : FrN s z) (e1 : r.1 = 0) (h1 : pTok T n r.2.1) (h : ok) : MR T n s z 1 r ok := ⟨f, Or.inl ⟨rfl, e1, h1, h⟩⟩
theorem MR.went (h : MR T n z s' w r ok) (h0 : w ≠ 0) : r.1 = 0 ∧ pTok T n r.2.1 ∧ ok := by
  obtain ⟨_, ⟨a, b⟩ | ⟨a, b⟩⟩ := h
  · exact b
  · exact absurd a h0
/-- a part has failed: with its error, or at a token that the language has not -/
theorem MR.fails (f : FrN s z) (h : MR T n z s' w r ok) (h0 : w = 0) (e1 : r.1 ≠ 0 → t = r) (e2 : r.1 = 0 → ¬ pTok T n r.2.1 → t.2.1 = r.2.1 ∧ t.1 = 1) : MR T n s s' 0 t ok2 := by
  obtain ⟨f2, ⟨a, b⟩ | ⟨a, b, c⟩⟩ := h
  · omega
  · refine ⟨f.trans f2, Or.inr ⟨rfl, ?_⟩⟩
    rcases c with ⟨c, d⟩ | ⟨c, d, x⟩
    · rw [e1 c]; exact ⟨b, Or.inl ⟨c, d⟩⟩
    · obtain ⟨y, y2⟩ := e2 c d
      exact ⟨by rw [y]; exact b, Or.inl ⟨by omega, by omega⟩⟩
theorem MR.rng (h : MR T n s s' w r ok) : 0 ≤ w ∧ w ≤ 1 := by
  obtain ⟨f2, ⟨a, b⟩ | ⟨a, b⟩⟩ := h <;> omega
end MRs
