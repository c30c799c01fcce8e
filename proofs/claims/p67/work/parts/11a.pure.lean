theorem gMvn_s {f : Int → Int} {k : Nat} {c a : Int} : gMvn f (k + 1) c a = gMvn f k (c + 1) (if 1 < f (37 + c) - f (34 + c) + 1 then a + 2 else a) := rfl
theorem gMvn_rng {f : Int → Int} : ∀ (k : Nat) (c a : Int), a ≤ gMvn f k c a ∧ gMvn f k c a ≤ a + 2 * k
  | 0, c, a => by simp [gMvn, foldF]
  | k + 1, c, a => by
    rw [gMvn_s]
    by_cases h : 1 < f (37 + c) - f (34 + c) + 1
    · rw [if_pos h]; have := gMvn_rng (f := f) k (c + 1) (a + 2); omega
    · rw [if_neg h]; have := gMvn_rng (f := f) k (c + 1) a; omega
theorem gMvn_2 {f : Int → Int} : ∀ (k : Nat) (c a : Int), gMvn f k c (a + 2) = gMvn f k c a + 2
  | 0, c, a => rfl
  | k + 1, c, a => by
    rw [gMvn_s, gMvn_s]
    by_cases h : 1 < f (37 + c) - f (34 + c) + 1
    · rw [if_pos h, if_pos h]; exact gMvn_2 k (c + 1) (a + 2)
    · rw [if_neg h, if_neg h]; exact gMvn_2 k (c + 1) a
theorem gMv_s1 {f : Int → Int} {k : Nat} {c z : Int} (h : 1 < f (37 + c) - f (34 + c) + 1) (hz : 2 ≤ z) : gMv f (k + 1) c z = gMv f k (c + 1) (z - 2) := (if_pos h).trans (if_neg (by omega))
theorem gMv_s2 {f : Int → Int} {k : Nat} {c z : Int} (h : 1 < f (37 + c) - f (34 + c) + 1) (hz : z < 2) : gMv f (k + 1) c z = 2 * c + z := (if_pos h).trans (if_pos hz)
theorem gMv_s3 {f : Int → Int} {k : Nat} {c z : Int} (h : ¬ 1 < f (37 + c) - f (34 + c) + 1) : gMv f (k + 1) c z = gMv f k (c + 1) z := if_neg h
theorem gMv_no {f : Int → Int} {k : Nat} {c z : Int} (h : ¬ 1 < f (37 + c) - f (34 + c) + 1) : (if z < gMvn f k (c + 1) 1 then gMv f k (c + 1) z else -1) = (if z < gMvn f (k + 1) c 1 then gMv f (k + 1) c z else -1) := by
  rw [gMvn_s, gMv_s3 h, if_neg h]
theorem gMv_yes {f : Int → Int} {k : Nat} {c z : Int} (h : 1 < f (37 + c) - f (34 + c) + 1) (hz : 2 ≤ z) : (if z + -2 < gMvn f k (c + 1) 1 then gMv f k (c + 1) (z + -2) else -1) = (if z < gMvn f (k + 1) c 1 then gMv f (k + 1) c z else -1) := by
  rw [gMvn_s, gMv_s1 h hz, if_pos h, gMvn_2 k (c + 1) 1]
  by_cases g : z + -2 < gMvn f k (c + 1) 1
  · rw [if_pos g, if_pos (c := z < _) (by omega)]; rfl
  · rw [if_neg g, if_neg (c := z < _) (by omega)]
theorem gMv_now {f : Int → Int} {k : Nat} {c z : Int} (h : 1 < f (37 + c) - f (34 + c) + 1) (hz : z < 2) : (if z < gMvn f (k + 1) c 1 then gMv f (k + 1) c z else -1) = 2 * c + z := by
  rw [gMvn_s, gMv_s2 h hz, if_pos h]
  exact if_pos (by have := (gMvn_rng (f := f) k (c + 1) (1 + 2)).1; omega)
theorem gMoves_not {f : Int → Int} (ho : ¬ gOver f) : gMoves f = gMvn f (f (18 + f 1)).toNat 0 1 := if_neg (by rw [bI_f ho]; decide)
theorem gMoves_over {f : Int → Int} (ho : gOver f) : gMoves f = 0 := if_pos (bI_t ho)
theorem gCode_eq {f : Int → Int} {i : Int} (h : 0 ≤ i) (ho : ¬ gOver f) : (if i < gMvn f (f (18 + f 1)).toNat 0 1 then gMv f (f (18 + f 1)).toNat 0 i else -1) = gCode f i := by
  unfold gCode gMvAt
  rw [gMoves_not ho]
  by_cases g : i < gMvn f (f (18 + f 1)).toNat 0 1
  · rw [if_pos g]; exact (if_pos ⟨h, g⟩).symm
  · rw [if_neg g]; exact (if_neg (fun e => g e.2)).symm
theorem gMoves_rng {f : Int → Int} (hc : 1 ≤ f (18 + f 1) ∧ f (18 + f 1) ≤ 3) : 0 ≤ gMoves f ∧ gMoves f ≤ 7 := by
  by_cases ho : gOver f
  · rw [gMoves_over ho]; omega
  · rw [gMoves_not ho]; have := gMvn_rng (f := f) (f (18 + f 1)).toNat 0 1; omega
theorem gMv_ok {f : Int → Int} : ∀ (k : Nat) (c i : Int), 0 ≤ i → 0 ≤ c → gMv f k c i = 6 ∨ 2 * c ≤ gMv f k c i ∧ gMv f k c i / 2 < c + k ∧ f (34 + gMv f k c i / 2) < f (37 + gMv f k c i / 2)
  | 0, c, i, _, _ => Or.inl rfl
  | k + 1, c, i, h, hc => by
    by_cases g : 1 < f (37 + c) - f (34 + c) + 1
    · by_cases g2 : i < 2
      · rw [gMv_s2 g g2]
        refine Or.inr ⟨by omega, by omega, ?_⟩
        have e : (2 * c + i) / 2 = c := by omega
        rw [e]; omega
      · rw [gMv_s1 g (by omega)]
        rcases gMv_ok k (c + 1) (i - 2) (by omega) (by omega) with g | ⟨g1, g2, g3⟩
        · exact Or.inl g
        · exact Or.inr ⟨by omega, by omega, g3⟩
    · rw [gMv_s3 g]
      rcases gMv_ok k (c + 1) i (by omega) (by omega) with g | ⟨g1, g2, g3⟩
      · exact Or.inl g
      · exact Or.inr ⟨by omega, by omega, g3⟩
/-- a code of a move that may be made -/
def gLegal (f : Int → Int) (z : Int) : Prop := z = 6 ∨ 0 ≤ z ∧ z / 2 < f (18 + f 1) ∧ f (34 + z / 2) < f (37 + z / 2)
theorem gLegal.ok {f : Int → Int} {z : Int} (h : gLegal f z) : gOk f z := by rcases h with h | h; exact Or.inl h; exact Or.inr ⟨h.1, h.2.1⟩
theorem gCode_in {f : Int → Int} {i : Int} (h : 0 ≤ i ∧ i < gMoves f) : gCode f i = gMvAt f i := if_pos h
theorem gMvAt_legal {f : Int → Int} (hc : 1 ≤ f (18 + f 1) ∧ f (18 + f 1) ≤ 3) {i : Int} (h : 0 ≤ i) : gLegal f (gMvAt f i) := by
  unfold gMvAt
  rcases gMv_ok (f := f) (f (18 + f 1)).toNat 0 i h (by omega) with g | ⟨g1, g2, g3⟩
  · exact Or.inl g
  · exact Or.inr ⟨by omega, by omega, g3⟩
theorem gLegal_rng {f : Int → Int} (hc : 1 ≤ f (18 + f 1) ∧ f (18 + f 1) ≤ 3) {z : Int} (h : gOk f z) : 0 ≤ z ∧ z ≤ 6 := by
  rcases h with h | h <;> omega
theorem gPt_rng {f : Int → Int} (hl : FL f) (hv : FS f) {z : Int} (h : gOk f z) : 0 ≤ gPt f z ∧ gPt f z ≤ 24 := by
  unfold gPt
  split
  · omega
  · rcases h with h | h
    · omega
    · have hc := hl.ch _ hv.cur.1 hv.cur.2
      have e := hv.ends (z / 2) (by omega) h.2
      split
      · exact hl.pts hv.cur.1 hv.cur.2 (by omega) h.2 (by omega) (by omega)
      · exact hl.pts hv.cur.1 hv.cur.2 (by omega) h.2 (by omega) (by omega)
theorem gPt_6 {f : Int → Int} : gPt f 6 = 0 := if_pos rfl
theorem gPt_l {f : Int → Int} {z : Int} (h : z ≠ 6) (g : z % 2 = 0) : gPt f z = gSc (f (40 + 8 * (3 * f 1 + z / 2) + f (34 + z / 2))) := by
  unfold gPt; rw [if_neg h, if_pos g]
theorem gPt_r {f : Int → Int} {z : Int} (h : z ≠ 6) (g : ¬ z % 2 = 0) : gPt f z = gSc (f (40 + 8 * (3 * f 1 + z / 2) + f (37 + z / 2))) := by
  unfold gPt; rw [if_neg h, if_neg g]
/-- the greedy player's choice: most points, then first -/
noncomputable def gGp (f : Int → Int) (k : Int) (a : Int × Int) : Int × Int := if a.1 < gPt f (gCode f k) then (gPt f (gCode f k), k) else a
noncomputable def gGi (f : Int → Int) : Int := (foldF (gGp f) (gMoves f - 1).toNat 0 (-1, -1)).2
