/-- a row with the same rounds, chains and tiles -/
def gLay (f g : Int → Int) : Prop := g 0 = f 0 ∧ (∀ j, 18 ≤ j → j < 34 → g j = f j) ∧ ∀ j, 40 ≤ j → j < 136 → g j = f j
theorem gLay.refl (f : Int → Int) : gLay f f := ⟨rfl, fun _ _ _ => rfl, fun _ _ _ => rfl⟩
theorem gLay.symm {f g : Int → Int} (h : gLay f g) : gLay g f := ⟨h.1.symm, fun j a b => (h.2.1 j a b).symm, fun j a b => (h.2.2 j a b).symm⟩
theorem gLay.trans {f g h : Int → Int} (a : gLay f g) (b : gLay g h) : gLay f h := ⟨b.1.trans a.1, fun j x y => (b.2.1 j x y).trans (a.2.1 j x y), fun j x y => (b.2.2 j x y).trans (a.2.2 j x y)⟩
theorem FL.lay {f g : Int → Int} (hl : FL f) (h : gLay f g) : FL g := by
  obtain ⟨h0, h1, h2⟩ := h
  have hr := hl.rn
  refine ⟨by rw [h0]; exact hr, fun r a b => ?_, fun r c a b c0 c1 => ?_, fun r c t a b c0 c1 t0 t1 => ?_⟩
  · rw [h0] at b; rw [h1 _ (by omega) (by omega)]; exact hl.ch r a b
  · rw [h0] at b; rw [h1 _ (by omega) (by omega)] at c1
    have := hl.ch r a b
    rw [h1 _ (by omega) (by omega)]; exact hl.len r c a b c0 c1
  · rw [h0] at b; rw [h1 _ (by omega) (by omega)] at c1
    have := hl.ch r a b
    rw [h1 _ (by omega) (by omega)] at t1
    have := hl.len r c a b c0 c1
    rw [h2 _ (by omega) (by omega)]; exact hl.tile r c t a b c0 c1 t0 t1
theorem RY.lay {s : Nat → Int → Int} {y : Nat} {f g : Int → Int} (hy : RY s y f) (hl : FL f) (h : gLay f g) : RY s y g := by
  obtain ⟨h0, h1, h2⟩ := h
  have hr := hl.rn
  have key : ∀ r c t, 0 ≤ r → r < g 0 → 0 ≤ c → c < g (18 + r) → 0 ≤ t → t < g (22 + 3 * r + c) → (r < f 0 ∧ c < f (18 + r) ∧ t < f (22 + 3 * r + c)) ∧ g (40 + 8 * (3 * r + c) + t) = f (40 + 8 * (3 * r + c) + t) := by
    intro r c t a b c0 c1 t0 t1
    rw [h0] at b; rw [h1 _ (by omega) (by omega)] at c1
    have := hl.ch r a b
    rw [h1 _ (by omega) (by omega)] at t1
    have := hl.len r c a b c0 c1
    exact ⟨⟨b, c1, t1⟩, h2 _ (by omega) (by omega)⟩
  refine ⟨by rw [h0]; exact hy.rn, fun r a b => ?_, fun r c a b c0 c1 => ?_, fun r c t a b c0 c1 t0 t1 => ?_, fun r c t a b c0 c1 t0 t1 => ?_, fun r c t a b c0 c1 t0 t1 => ?_⟩
  · rw [h0] at b; rw [h1 _ (by omega) (by omega)]; exact hy.ch r a b
  · rw [h0] at b; rw [h1 _ (by omega) (by omega)] at c1
    have := hl.ch r a b
    rw [h1 _ (by omega) (by omega)]; exact hy.len r c a b c0 c1
  · obtain ⟨⟨k1, k2, k3⟩, k4⟩ := key r c t a b c0 c1 t0 t1
    rw [k4]; exact hy.left r c t a k1 c0 k2 t0 k3
  · obtain ⟨⟨k1, k2, k3⟩, k4⟩ := key r c t a b c0 c1 t0 t1
    rw [k4]; exact hy.right r c t a k1 c0 k2 t0 k3
  · obtain ⟨⟨k1, k2, k3⟩, k4⟩ := key r c t a b c0 c1 t0 t1
    rw [k4]; exact hy.points r c t a k1 c0 k2 t0 k3
/-- the row after a move -/
def gPlay (f : Int → Int) (z : Int) : Int → Int := fun j =>
  if j = 2 then 1 - f 2
  else if j = 4 then (if z = 6 then f 4 + 1 else 0)
  else if j = 5 then f 5 + 1
  else if j = 6 + 2 * f 1 + f 2 then f (6 + 2 * f 1 + f 2) + gPt f z
  else if j = 14 + f 2 then (if z = 6 then f (14 + f 2) else f (14 + f 2) + 1)
  else if j = 16 + f 2 then (if z = 6 then f (16 + f 2) + 1 else f (16 + f 2))
  else if j = 34 + z / 2 ∧ z ≠ 6 ∧ z % 2 = 0 then f (34 + z / 2) + 1
  else if j = 37 + z / 2 ∧ z ≠ 6 ∧ z % 2 = 1 then f (37 + z / 2) - 1
  else if j = 136 + f 5 then z
  else if j = 184 + f 5 then gPt f z
  else f j
section GP
variable {f : Int → Int} {z : Int}
theorem gPlay_o {j : Int} (hl : FL f) (hv : FS f) (hz : gLegal f z) (h : j = 0 ∨ j = 1 ∨ j = 3 ∨ 18 ≤ j ∧ j < 34 ∨ 40 ≤ j ∧ j < 136) : gPlay f z j = f j := by
  have := hv.cur; have := hl.rn; have := hv.turn; have := hv.moves; have := hl.ch _ hv.cur.1 hv.cur.2
  have := gLegal_rng (hl.ch _ hv.cur.1 hv.cur.2) hz.ok
  unfold gPlay
  repeat rw [if_neg (by omega)]
theorem gPlay_lay (hl : FL f) (hv : FS f) (hz : gLegal f z) : gLay f (gPlay f z) :=
  ⟨gPlay_o hl hv hz (Or.inl rfl), fun j a b => gPlay_o hl hv hz (by omega), fun j a b => gPlay_o hl hv hz (by omega)⟩
theorem gPlay_1 (hl : FL f) (hv : FS f) (hz : gLegal f z) : gPlay f z 1 = f 1 := gPlay_o hl hv hz (by omega)
theorem gPlay_2 : gPlay f z 2 = 1 - f 2 := if_pos rfl
theorem gPlay_4 : gPlay f z 4 = if z = 6 then f 4 + 1 else 0 := by unfold gPlay; rw [if_neg (by decide), if_pos rfl]
theorem gPlay_5 : gPlay f z 5 = f 5 + 1 := by unfold gPlay; rw [if_neg (by decide), if_neg (by decide), if_pos rfl]
theorem gPlay_C (hl : FL f) (hv : FS f) (hz : gLegal f z) : gPlay f z (18 + gPlay f z 1) = f (18 + f 1) := by
  have := hv.cur; have := hl.rn
  rw [gPlay_1 hl hv hz]; exact gPlay_o hl hv hz (by omega)
theorem gPlay_lo (hl : FL f) (hv : FS f) (hz : gLegal f z) {c : Int} (h0 : 0 ≤ c) (h1 : c < 3) : gPlay f z (34 + c) = if c = z / 2 ∧ z ≠ 6 ∧ z % 2 = 0 then f (34 + c) + 1 else f (34 + c) := by
  have := hv.cur; have := hl.rn; have := hv.turn; have := hv.moves; have hc := hl.ch _ hv.cur.1 hv.cur.2
  have := gLegal_rng hc hz.ok
  unfold gPlay
  iterate 6 rw [if_neg (by omega)]
  by_cases h : c = z / 2 ∧ z ≠ 6 ∧ z % 2 = 0
  · rw [if_pos h, if_pos (by omega), ← h.1]
  · rw [if_neg h, if_neg (by omega), if_neg (by omega), if_neg (by omega), if_neg (by omega)]
theorem gPlay_hi (hl : FL f) (hv : FS f) (hz : gLegal f z) {c : Int} (h0 : 0 ≤ c) (h1 : c < 3) : gPlay f z (37 + c) = if c = z / 2 ∧ z ≠ 6 ∧ z % 2 = 1 then f (37 + c) - 1 else f (37 + c) := by
  have := hv.cur; have := hl.rn; have := hv.turn; have := hv.moves; have hc := hl.ch _ hv.cur.1 hv.cur.2
  have := gLegal_rng hc hz.ok
  unfold gPlay
  iterate 7 rw [if_neg (by omega)]
  by_cases h : c = z / 2 ∧ z ≠ 6 ∧ z % 2 = 1
  · rw [if_pos h, if_pos (by omega), ← h.1]
  · rw [if_neg h, if_neg (by omega), if_neg (by omega), if_neg (by omega)]
theorem gPlay_sc (hv : FS f) (hl : FL f) (hz : gLegal f z) {r p : Int} (h0 : 0 ≤ r) (h1 : r < 4) (h2 : 0 ≤ p) (h3 : p ≤ 1) : gPlay f z (6 + 2 * r + p) = if r = f 1 ∧ p = f 2 then f (6 + 2 * r + p) + gPt f z else f (6 + 2 * r + p) := by
  have := hv.cur; have := hl.rn; have := hv.turn; have := hv.moves; have hc := hl.ch _ hv.cur.1 hv.cur.2
  have := gLegal_rng hc hz.ok
  unfold gPlay
  iterate 3 rw [if_neg (by omega)]
  by_cases h : r = f 1 ∧ p = f 2
  · rw [if_pos h, if_pos (by omega), h.1, h.2]
  · rw [if_neg h]; iterate 7 rw [if_neg (by omega)]
theorem gPlay_bu (hv : FS f) (hl : FL f) (hz : gLegal f z) {p : Int} (h2 : 0 ≤ p) (h3 : p ≤ 1) : gPlay f z (14 + p) = if p = f 2 ∧ z ≠ 6 then f (14 + p) + 1 else f (14 + p) := by
  have := hv.cur; have := hl.rn; have := hv.turn; have := hv.moves; have hc := hl.ch _ hv.cur.1 hv.cur.2
  have := gLegal_rng hc hz.ok
  unfold gPlay
  iterate 4 rw [if_neg (by omega)]
  by_cases h : p = f 2
  · rw [if_pos (by omega), h]
    by_cases g : z = 6
    · rw [if_pos g, if_neg (by omega)]
    · rw [if_neg g, if_pos ⟨rfl, g⟩]
  · rw [if_neg (c := p = f 2 ∧ _) (by omega)]; iterate 6 rw [if_neg (by omega)]
theorem gPlay_pa (hv : FS f) (hl : FL f) (hz : gLegal f z) {p : Int} (h2 : 0 ≤ p) (h3 : p ≤ 1) : gPlay f z (16 + p) = if p = f 2 ∧ z = 6 then f (16 + p) + 1 else f (16 + p) := by
  have := hv.cur; have := hl.rn; have := hv.turn; have := hv.moves; have hc := hl.ch _ hv.cur.1 hv.cur.2
  have := gLegal_rng hc hz.ok
  unfold gPlay
  iterate 5 rw [if_neg (by omega)]
  by_cases h : p = f 2
  · rw [if_pos (by omega), h]
    by_cases g : z = 6
    · rw [if_pos g, if_pos ⟨rfl, g⟩]
    · rw [if_neg g, if_neg (by omega)]
  · rw [if_neg (c := p = f 2 ∧ _) (by omega)]; iterate 5 rw [if_neg (by omega)]
theorem gBt_lt (hl : FL f) (hv : FS f) (ho : ¬ gOver f) : gBt f ≤ 20 := by
  have hc := hl.ch _ hv.cur.1 hv.cur.2
  have ho2 : ¬ gShort f := fun h => ho (Or.inr h)
  have k0 := fun h => hv.ends 0 (by omega) h
  have k1 := fun h => hv.ends 1 (by omega) h
  have k2 := fun h => hv.ends 2 (by omega) h
  have l0 := fun h => hl.len _ 0 hv.cur.1 hv.cur.2 (by omega) h
  have l1 := fun h => hl.len _ 1 hv.cur.1 hv.cur.2 (by omega) h
  have l2 := fun h => hl.len _ 2 hv.cur.1 hv.cur.2 (by omega) h
  apply Classical.byContradiction
  intro hn
  apply ho2
  intro c h0 h1
  unfold gBt gS3 at hn
  dsimp only at hn
  rw [if_pos (by omega)] at hn
  have := k0 (by omega)
  have := l0 (by omega)
  by_cases g1 : 1 < f (18 + f 1)
  · have := k1 (by omega)
    have := l1 (by omega)
    rw [if_pos g1] at hn
    by_cases g2 : 2 < f (18 + f 1)
    · have := k2 (by omega)
      have := l2 (by omega)
      rw [if_pos g2] at hn
      have hcc : c = 0 ∨ c = 1 ∨ c = 2 := by omega
      rcases hcc with rfl | rfl | rfl <;> omega
    · rw [if_neg g2] at hn
      have hcc : c = 0 ∨ c = 1 := by omega
      rcases hcc with rfl | rfl <;> omega
  · rw [if_neg g1, if_neg (by omega)] at hn
    have hcc : c = 0 := by omega
    subst hcc; omega
theorem gPlay_Bt (hl : FL f) (hv : FS f) (hz : gLegal f z) : gBt (gPlay f z) = gBt f + (if z = 6 then 0 else 1) := by
  have hc := hl.ch _ hv.cur.1 hv.cur.2
  have hr := hl.rn
  have hu := hv.cur
  have hz6 := gLegal_rng hc hz.ok
  unfold gBt
  rw [gPlay_C hl hv hz, gPlay_1 hl hv hz]
  unfold gS3
  dsimp only
  rw [gPlay_o (j := 22 + 3 * f 1 + 0) hl hv hz (by omega), gPlay_o (j := 22 + 3 * f 1 + 1) hl hv hz (by omega), gPlay_o (j := 22 + 3 * f 1 + 2) hl hv hz (by omega),
    gPlay_lo hl hv hz (c := 0) (by omega) (by omega), gPlay_lo hl hv hz (c := 1) (by omega) (by omega), gPlay_lo hl hv hz (c := 2) (by omega) (by omega),
    gPlay_hi hl hv hz (c := 0) (by omega) (by omega), gPlay_hi hl hv hz (c := 1) (by omega) (by omega), gPlay_hi hl hv hz (c := 2) (by omega) (by omega)]
  rcases hz with hz | ⟨h0, h1, h2⟩
  · simp only [hz]; simp
  · by_cases g6 : z = 6
    · simp only [g6]; simp
    · have e2 : z % 2 = 0 ∨ z % 2 = 1 := by omega
      have e3 : z / 2 = 0 ∨ z / 2 = 1 ∨ z / 2 = 2 := by omega
      rw [if_neg g6]
      rcases e3 with e3 | e3 | e3 <;> rcases e2 with e2 | e2 <;> rw [e3] at h1 <;> simp only [e2, e3, g6, ne_eq, not_false_eq_true, true_and, and_true, Int.reduceEq, false_and, and_false, if_false, if_true] <;> (repeat' split) <;> omega
theorem gPlay_FS (hl : FL f) (hv : FS f) (hz : gLegal f z) (ho : ¬ gOver f) : FS (gPlay f z) := by
  have hc := hl.ch _ hv.cur.1 hv.cur.2
  have hr := hl.rn
  have hu := hv.cur
  have ht := hv.turn
  have hz6 := gLegal_rng hc hz.ok
  have hB := gPlay_Bt hl hv hz
  have hp := gPt_rng hl hv hz.ok
  have h4 : f 4 ≤ 1 := by have := hv.passed; have : ¬ f 4 = 2 := fun h => ho (Or.inl h); omega
  have hm := hv.moves
  have hB0 := gBt_rng hl hv
  have hB1 := gBt_lt hl hv ho
  refine ⟨?_, ?_, ?_, ?_, ?_, ?_, ?_, ?_, ?_⟩
  · rw [gPlay_1 hl hv hz, gPlay_o hl hv hz (Or.inl rfl)]; exact hu
  · rw [gPlay_2]; omega
  · rw [gPlay_o (j := 3) hl hv hz (by omega)]; exact hv.first
  · rw [gPlay_4]; have := hv.passed; split <;> omega
  · rw [gPlay_4, gPlay_5, hB]; have := hv.passed; split <;> omega
  · intro c c0 c1
    rw [gPlay_C hl hv hz] at c1
    rw [gPlay_lo hl hv hz c0 (by omega), gPlay_hi hl hv hz c0 (by omega), gPlay_1 hl hv hz, gPlay_o (j := 22 + 3 * f 1 + c) hl hv hz (by omega)]
    have e := hv.ends c c0 c1
    rcases hz with hz | ⟨h0, h1, h2⟩
    · rw [if_neg (by omega), if_neg (by omega)]; exact e
    · by_cases g : c = z / 2
      · rw [← g] at h2
        split
        · rw [if_neg (by omega)]; omega
        · split <;> omega
      · rw [if_neg (by omega), if_neg (by omega)]; exact e
  · intro r p r0 r1 p0 p1
    rw [gPlay_sc hv hl hz r0 r1 p0 p1, gPlay_1 hl hv hz, hB]
    have h9 := hv.sc r p r0 r1 p0 p1
    by_cases g1 : r < f 1
    · rw [if_pos g1] at h9 ⊢; rw [if_neg (by omega)]; exact h9
    · rw [if_neg g1] at h9 ⊢
      by_cases g2 : r = f 1
      · rw [if_pos g2] at h9 ⊢
        by_cases g6 : z = 6
        · rw [g6, gPt_6]; simp only [if_true]; split <;> omega
        · rw [if_neg g6]; split <;> omega
      · rw [if_neg g2] at h9 ⊢; rw [if_neg (by omega)]; exact h9
  · intro p p0 p1
    have h9 := hv.bu p p0 p1
    rw [gPlay_bu hv hl hz p0 p1, gPlay_1 hl hv hz, hB]
    split <;> split <;> omega
  · intro i i0 i1
    rw [gPlay_5] at i1
    by_cases g : i = f 5
    · have : gPlay f z (136 + i) = z := by
        unfold gPlay
        iterate 8 rw [if_neg (by omega)]
        rw [if_pos (by omega)]
      rw [this]; exact hz6
    · have : gPlay f z (136 + i) = f (136 + i) := by
        unfold gPlay
        repeat rw [if_neg (by omega)]
      rw [this]; exact hv.lg i i0 (by omega)
end GP
