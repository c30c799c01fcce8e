/-- a whole reading's outcome -/
def MF (T : Int → Int) (n : Int) (s s' : Nat → Int → Int) (w : Int) (z : Int × Int × (Int → Int)) : Prop :=
  FrN s s' ∧ (w = 1 ∧ z.1 = 0 ∧ (MV s' z.2.2 ∧ s' 137 2 = 2320) ∧ FL z.2.2 ∧ FS z.2.2 ∨ w = 0 ∧ z.1 ≠ 0 ∧ s' 137 14 = pS T n z.2.1 ∧ s' 137 16 = z.1)
section MFs
variable {T : Int → Int} {n q e : Int} {g h : Int → Int} {s s' z : Nat → Int → Int} {r t : Int × Int × (Int → Int)} {ok : Prop}
theorem MF.bad (f : FrN s z) (h : MK T n z q) (e1 : r = (e, q, g)) (ne : e ≠ 0) : MF T n s (up z 137 16 e) 0 r := by
  subst e1
  exact ⟨f.trans ⟨fun a j x y => up_ne (by omega), fun j x => up_ne (by omega)⟩, Or.inr ⟨rfl, ne, (up_ne (by omega)).trans h.2.2.2.1, up_eq _ _ _ _⟩⟩
/-- a part that failed, at no token that the language has not -/
theorem MF.fails {w : Int} (f : FrN s z) (h : MR T n z s' w r ok) (h0 : w = 0) (e1 : r.1 ≠ 0 → t = r) (e2 : r.1 = 0 → pTok T n r.2.1) : MF T n s s' 0 t := by
  obtain ⟨f2, ⟨a, b⟩ | ⟨a, b, c⟩⟩ := h
  · omega
  · rcases c with ⟨c, d⟩ | ⟨c, d, x⟩
    · rw [e1 c]; exact ⟨f.trans f2, Or.inr ⟨rfl, c, b, d⟩⟩
    · exact absurd (e2 c) d
theorem MF.rng {w : Int} (h : MF T n s s' w r) : 0 ≤ w ∧ w ≤ 1 := by
  obtain ⟨f2, ⟨a, b⟩ | ⟨a, b⟩⟩ := h <;> omega
theorem MB.at (h : MB T n s) (f : FrM s s') : MB T n s' := ⟨fun i a b => (f.1 _ _ (by omega)).trans (h.1 i a b), (f.1 _ _ (by omega)).trans h.2⟩
end MFs
