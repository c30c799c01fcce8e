/-- the model's row that is looked at, as numbers -/
def MV (s : Nat → Int → Int) (f : Int → Int) : Prop := (s 137 2 = 0 ∨ s 137 2 = 2320 ∨ s 137 2 = 2552) ∧ ∀ k, 0 ≤ k → k < 232 → s 138 (s 137 2 + k) = f k
def MW (s : Nat → Int → Int) (f : Int → Int) : Prop := MV s f ∧ FL f ∧ FS f
theorem MW.m {s : Nat → Int → Int} {f : Int → Int} (h : MW s f) : MV s f := h.1
theorem MW.l {s : Nat → Int → Int} {f : Int → Int} (h : MW s f) : FL f := h.2.1
theorem MW.v {s : Nat → Int → Int} {f : Int → Int} (h : MW s f) : FS f := h.2.2
theorem MV.at {s : Nat → Int → Int} {f : Int → Int} (h : MV s f) : 0 ≤ s 137 2 ∧ s 137 2 ≤ 2552 := by rcases h.1 with h | h | h <;> omega
theorem MW.w {s : Nat → Int → Int} {f : Int → Int} (h : MW s f) : (0 ≤ f 1 ∧ f 1 < f 0) ∧ (1 ≤ f 0 ∧ f 0 ≤ 4) ∧ (1 ≤ f (18 + f 1) ∧ f (18 + f 1) ≤ 3) ∧ (0 ≤ f 2 ∧ f 2 ≤ 1) ∧ (0 ≤ f 3 ∧ f 3 ≤ 1) ∧ (0 ≤ f 4 ∧ f 4 ≤ 2) :=
  ⟨h.v.cur, h.l.rn, h.l.ch _ h.v.cur.1 h.v.cur.2, h.v.turn, h.v.first, h.v.passed⟩
theorem FS.e {f : Int → Int} (hl : FL f) (hv : FS f) (c : Int) (h0 : 0 ≤ c) (h1 : c < f (18 + f 1)) : 0 ≤ f (34 + c) ∧ f (34 + c) ≤ f (37 + c) ∧ f (37 + c) < f (22 + 3 * f 1 + c) ∧ f (22 + 3 * f 1 + c) ≤ 8 ∧ c < 3 := by
  have := hl.ch _ hv.cur.1 hv.cur.2
  have := hv.ends c h0 h1
  have := hl.len _ c hv.cur.1 hv.cur.2 h0 h1
  omega
theorem MW.e {s : Nat → Int → Int} {f : Int → Int} (h : MW s f) (c : Int) (h0 : 0 ≤ c) (h1 : c < f (18 + f 1)) : 0 ≤ f (34 + c) ∧ f (34 + c) ≤ f (37 + c) ∧ f (37 + c) < f (22 + 3 * f 1 + c) ∧ f (22 + 3 * f 1 + c) ≤ 8 ∧ c < 3 := h.v.e h.l c h0 h1
theorem FS.sr {f : Int → Int} (hl : FL f) (hv : FS f) (r p : Int) (h0 : 0 ≤ r) (h1 : r < 4) (h2 : 0 ≤ p) (h3 : p ≤ 1) : 0 ≤ f (6 + 2 * r + p) ∧ f (6 + 2 * r + p) ≤ 504 := by
  have := gBt_rng hl hv
  have h9 := hv.sc r p h0 h1 h2 h3
  refine ⟨h9.1, ?_⟩
  have h9 := h9.2
  split at h9
  · exact h9
  · split at h9 <;> omega
/-- the greedy player's burn, as the model finds it -/
def gGr (f : Int → Int) : Int := foldF (fun z b => if 1 < f (37 + z / 2) - f (34 + z / 2) + 1 then (if b = -1 ∨ gPt f b < gPt f z then z else b) else b) (2 * f (18 + f 1)).toNat 0 (-1)
