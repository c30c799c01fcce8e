/-- the moves of the optimal line -/
def gLok (f : Int → Int) (i : Int) : Prop := 0 ≤ i ∧ gCnt i.toNat f = i ∧ ¬ gOver (gRun i.toNat f)
theorem gCnt_rng : ∀ (k : Nat) {f : Int → Int}, 0 ≤ gCnt k f ∧ gCnt k f ≤ k
  | 0, f => ⟨Int.le_refl 0, Int.le_refl 0⟩
  | k + 1, f => by
    by_cases ho : gOver f
    · rw [gCnt_o ho]; omega
    · rw [gCnt_n ho]; have := @gCnt_rng k (gPlay f (gMvAt f (gFo f))); omega
theorem VFr.t {s t : Nat → Int → Int} (h : VFr s t) : RFr s t := (RFr.refl s).v h
