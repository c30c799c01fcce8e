def gRemain (f : Int → Int) : Int := foldF (fun c a => a + gSum f c) (f (18 + f 1)).toNat 0 0
def gChn (z : Int) : Int := if z = 6 then -1 else z / 2
theorem foldF_rng {st : Int → Int → Int} {b : Int} (h : ∀ i a, a ≤ st i a ∧ st i a ≤ a + b) : ∀ (k : Nat) (i a : Int), a ≤ foldF st k i a ∧ foldF st k i a ≤ a + b * k
  | 0, i, a => by simp [foldF]
  | k + 1, i, a => by
    have h1 := h i a
    have h2 := foldF_rng h k (i + 1) (st i a)
    rw [foldF_s]
    have e : b * ((k + 1 : Nat) : Int) = b * k + b := by rw [Int.natCast_add, Int.mul_add]; simp
    omega
