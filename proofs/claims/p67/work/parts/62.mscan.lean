/-- the model's text -/
def MB (T : Int → Int) (n : Int) (s : Nat → Int → Int) : Prop := (∀ i, 0 ≤ i → i < n → s 139 i = gSg (T i)) ∧ s 137 7 = n
def pSrt (k : Int) : Int := if k = 3 then 4 else if k = 4 ∨ k = 5 then 3 else k
/-- the model looks at the token that it went to from q -/
def MK (T : Int → Int) (n : Int) (s : Nat → Int → Int) (q : Int) : Prop := MB T n s ∧ (0 ≤ q ∧ q ≤ n) ∧ s 137 13 = pN T n q ∧ s 137 14 = pS T n q ∧ s 137 15 = pSrt (pK T n q)
def FrT (s s' : Nat → Int → Int) : Prop := ∀ q j, (q ≠ 137 ∨ j < 13 ∨ 16 < j) → s' q j = s q j
section MKs
variable {T : Int → Int} {n q : Int} {s s' z : Nat → Int → Int}
theorem FrT.trans (a : FrT s z) (b : FrT z s') : FrT s s' := fun q j h => (b q j h).trans (a q j h)
theorem MB.fr (h : MB T n s) (f : FrT s s') : MB T n s' := ⟨fun i a b => (f _ _ (by omega)).trans (h.1 i a b), (f _ _ (by omega)).trans h.2⟩
theorem MK.w (t : PTx T n) (h : MK T n s q) : (0 ≤ q ∧ q ≤ n ∧ n ≤ 500) ∧ (0 ≤ pK T n q ∧ pK T n q ≤ 5) ∧ (q ≤ pS T n q ∧ pS T n q ≤ n) ∧ (pS T n q ≤ pN T n q ∧ pN T n q ≤ n) ∧ (pK T n q ≠ 0 → pS T n q < pN T n q) := by
  have a := pS_le (T := T) h.2.1.2
  have b := pN_le (T := T) h.2.1.2
  refine ⟨⟨h.2.1.1, h.2.1.2, t.1.2⟩, pK_rng, a, ⟨?_, b.2⟩, fun k => (pN_gt h.2.1.2 k).1⟩
  by_cases k : pK T n q = 0
  · have := pK_end h.2.1.2 k; omega
  · have := pN_gt h.2.1.2 k; omega
theorem MK.keep (h : MK T n s q) (f : ∀ a j, (a = 139 ∨ a = 137 ∧ (j = 7 ∨ j = 13 ∨ j = 14 ∨ j = 15)) → s' a j = s a j) : MK T n s' q :=
  ⟨⟨fun i a b => (f _ _ (by omega)).trans (h.1.1 i a b), (f _ _ (by omega)).trans h.1.2⟩, h.2.1, (f _ _ (by omega)).trans h.2.2.1, (f _ _ (by omega)).trans h.2.2.2.1, (f _ _ (by omega)).trans h.2.2.2.2⟩
end MKs
