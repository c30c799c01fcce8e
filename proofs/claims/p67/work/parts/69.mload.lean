section MIl
variable {a : AS} {s s' : Nat → Int → Int} {g : Int → Int} {e p : Int}
/-- the model behind a text with a fault -/
theorem MI.bad (h : MI s a) (f : ∀ q j, 137 ≤ q → q < 141 → (q ≠ 137 ∨ j ≠ 0 ∧ j ≠ 2 ∧ j ≠ 7 ∧ j ≠ 8 ∧ j ≠ 9 ∧ (j < 13 ∨ 16 < j)) → (q ≠ 138 ∨ j < 2320) → s' q j = s q j) (k0 : s' 137 2 = 0) (k1 : s' 137 7 = 0) (k2 : s' 137 8 = e) (k3 : s' 137 9 = p) : MI s' (aBad a e p) := by
  obtain ⟨m1, m2, m3, m4, m5, m6, m7, m8⟩ := h
  refine ⟨k0, fun j j0 j1 => by rw [f _ _ (by omega) (by omega) (by omega) (by omega)]; exact m2 j j0 j1, ⟨by rw [f _ _ (by omega) (by omega) (by omega) (by omega)]; exact m3.1, by rw [f _ _ (by omega) (by omega) (by omega) (by omega)]; exact m3.2.1, by rw [f _ _ (by omega) (by omega) (by omega) (by omega)]; exact m3.2.2.1, fun x x0 x1 j j0 j1 => ?_⟩, ⟨by rw [f _ _ (by omega) (by omega) (by omega) (by omega)]; exact m4.1, fun b j j0 j1 => by rw [f _ _ (by omega) (by omega) (by omega) (by omega)]; exact m4.2 b j j0 j1⟩, m5.congr (f _ _ (by omega) (by omega) (by omega) (by omega)) (fun i => f _ _ (by omega) (by omega) (by omega) (by omega)), ⟨k1, fun i i0 (i1 : i < 0) => by omega⟩, k2, k3⟩
  rw [f 137 4 (by omega) (by omega) (by omega) (by omega), f _ _ (by omega) (by omega) (by omega) (by omega)]
  exact m3.2.2.2 x x0 x1 j j0 j1
/-- .. behind a good one -/
theorem MI.ld (t5 : TX s' 140 137 11 (aX a)) (r : ∀ k, 0 ≤ k → k < 232 → s' 138 k = g k) (k0 : s' 137 2 = 0) (k3 : s' 137 3 = 0) (k4 : s' 137 4 = 0) (k5 : s' 137 5 = 0) (k7 : s' 137 7 = 0) (k8 : s' 137 8 = 0) (k9 : s' 137 9 = -1) : MI s' (aLd a g) :=
  ⟨k0, r, ⟨k3, by omega, by omega, fun x x0 (x1 : x < 0) => by omega⟩, ⟨k5, fun (b : (0 : Int) = 1) => absurd b (by decide)⟩, t5, ⟨k7, fun i i0 (i1 : i < 0) => by omega⟩, k8, k9⟩
end MIl
