def upr (f : Int → Int) (k v : Int) : Int → Int := fun j => if j = k then v else f j
theorem upr_eqq {f : Int → Int} {k v j : Int} (h : j = k) : upr f k v j = v := if_pos h
theorem upr_ne {f : Int → Int} {k v j : Int} (h : j ≠ k) : upr f k v j = f j := if_neg h
/-- nothing but the row that is looked at has changed -/
def FrM (s s' : Nat → Int → Int) : Prop := (∀ q i, q ≠ 138 → s' q i = s q i) ∧ ∀ j, (j < s 137 2 ∨ s 137 2 + 232 ≤ j) → s' 138 j = s 138 j
theorem FrM.refl (s : Nat → Int → Int) : FrM s s := ⟨fun _ _ _ => rfl, fun _ _ => rfl⟩
theorem FrM.trans {s s' s'' : Nat → Int → Int} (h : FrM s s') (g : FrM s' s'') : FrM s s'' := by
  have e := h.1 137 2 (by decide)
  refine ⟨fun q i hq => (g.1 q i hq).trans (h.1 q i hq), fun j hj => (g.2 j ?_).trans (h.2 j hj)⟩
  rw [e]; exact hj
theorem MV.congr {s : Nat → Int → Int} {f g : Int → Int} (h : MV s f) (e : ∀ k, 0 ≤ k → k < 232 → f k = g k) : MV s g := ⟨h.1, fun k a b => (h.2 k a b).trans (e k a b)⟩
theorem MV.set {s : Nat → Int → Int} {f : Int → Int} {k v : Int} (h : MV s f) (hk : 0 ≤ k ∧ k < 232) : MV (up s 138 (s 137 2 + k) v) (upr f k v) ∧ FrM s (up s 138 (s 137 2 + k) v) := by
  refine ⟨⟨by rw [up_ne (Or.inl (by decide))]; exact h.1, fun j a b => ?_⟩, ⟨fun q i hq => up_ne (Or.inl hq), fun j hj => up_ne (Or.inr (by omega))⟩⟩
  rw [up_ne (q := 138) (a := 137) (Or.inl (by decide))]
  by_cases g : j = k
  · rw [up_eqq ⟨rfl, by omega⟩, upr_eqq g]
  · rw [up_ne (Or.inr (by omega)), upr_ne g]; exact h.2 j a b
/-- the place of an end that a code names -/
def gE (z : Int) : Int := (if z % 2 = 0 then 34 else 37) + z / 2
def gRem (f : Int → Int) (z : Int) : Int → Int := upr f (gE z) (f (gE z) + (if z % 2 = 0 then 1 else -1))
/-- one row of the model -/
def mrow (s : Nat → Int → Int) (o : Int) : Int → Int := fun k => s 138 (o + k)
theorem MV.of {s : Nat → Int → Int} (h : s 137 2 = 0 ∨ s 137 2 = 2320 ∨ s 137 2 = 2552) : MV s (mrow s (s 137 2)) := ⟨h, fun _ _ _ => rfl⟩
