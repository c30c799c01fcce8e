/-- the counts over the match -/
def RC (s : Nat → Int → Int) (t : Nat) (f : Int → Int) : Prop :=
  (∀ r p, 0 ≤ r → r < 4 → 0 ≤ p → p ≤ 1 → s (t + 3) (r * 2 + p) = f (6 + 2 * r + p)) ∧ (∀ p, 0 ≤ p → p ≤ 1 → s (t + 4) p = f (14 + p)) ∧ ∀ p, 0 ≤ p → p ≤ 1 → s (t + 5) p = f (16 + p)
/-- a round may be dealt -/
def FD (f : Int → Int) (r : Int) : Prop :=
  (0 ≤ r ∧ r < f 0) ∧ (∀ a p, 0 ≤ a → a < 4 → 0 ≤ p → p ≤ 1 → 0 ≤ f (6 + 2 * a + p) ∧ f (6 + 2 * a + p) ≤ (if a < r then 504 else 0)) ∧ ∀ p, 0 ≤ p → p ≤ 1 → 0 ≤ f (14 + p) ∧ f (14 + p) ≤ 21 * r
/-- the row as a round begins -/
def gDeal (f : Int → Int) (r st : Int) : Int → Int := fun j =>
  if j = 1 then r else if j = 2 ∨ j = 3 then st else if j = 4 ∨ j = 5 then 0 else if 34 ≤ j ∧ j < 37 then 0 else if 37 ≤ j ∧ j < 40 then f (22 + 3 * r + (j - 37)) - 1 else f j
section GD
variable {f : Int → Int} {r st : Int}
theorem gDeal_o {j : Int} (h : j = 0 ∨ 6 ≤ j ∧ j < 34 ∨ 40 ≤ j) : gDeal f r st j = f j := by
  unfold gDeal
  repeat rw [if_neg (by omega)]
theorem gDeal_lay : gLay f (gDeal f r st) := ⟨gDeal_o (Or.inl rfl), fun j a b => gDeal_o (by omega), fun j a b => gDeal_o (by omega)⟩
theorem gDeal_1 : gDeal f r st 1 = r := rfl
theorem gDeal_2 : gDeal f r st 2 = st := rfl
theorem gDeal_3 : gDeal f r st 3 = st := rfl
theorem gDeal_4 : gDeal f r st 4 = 0 := rfl
theorem gDeal_5 : gDeal f r st 5 = 0 := rfl
theorem gDeal_lo {c : Int} (h0 : 0 ≤ c) (h1 : c < 3) : gDeal f r st (34 + c) = 0 := by
  unfold gDeal
  iterate 3 rw [if_neg (by omega)]
  rw [if_pos (by omega)]
theorem gDeal_hi {c : Int} (h0 : 0 ≤ c) (h1 : c < 3) : gDeal f r st (37 + c) = f (22 + 3 * r + c) - 1 := by
  unfold gDeal
  iterate 4 rw [if_neg (by omega)]
  rw [if_pos (by omega)]
  congr 2; omega
theorem gDeal_C (hl : FL f) (hd : FD f r) : gDeal f r st (18 + gDeal f r st 1) = f (18 + r) := by
  have := hl.rn; have := hd.1
  rw [gDeal_1]; exact gDeal_o (by omega)
theorem gDeal_Bt (hl : FL f) (hd : FD f r) : gBt (gDeal f r st) = 0 := by
  have hr := hl.rn; have h1 := hd.1
  unfold gBt
  rw [gDeal_C hl hd, gDeal_1]
  unfold gS3
  dsimp only
  rw [gDeal_o (j := 22 + 3 * r + 0) (by omega), gDeal_o (j := 22 + 3 * r + 1) (by omega), gDeal_o (j := 22 + 3 * r + 2) (by omega),
    gDeal_lo (c := 0) (by omega) (by omega), gDeal_lo (c := 1) (by omega) (by omega), gDeal_lo (c := 2) (by omega) (by omega),
    gDeal_hi (c := 0) (by omega) (by omega), gDeal_hi (c := 1) (by omega) (by omega), gDeal_hi (c := 2) (by omega) (by omega)]
  (repeat' split) <;> omega
theorem gDeal_FS (hl : FL f) (hd : FD f r) (hs : 0 ≤ st ∧ st ≤ 1) : FS (gDeal f r st) := by
  have hr := hl.rn
  obtain ⟨h1, h2, h3⟩ := hd
  have hd : FD f r := ⟨h1, h2, h3⟩
  have hc := hl.ch r h1.1 h1.2
  refine ⟨by rw [gDeal_1, gDeal_o (Or.inl rfl)]; exact h1, by rw [gDeal_2]; exact hs, by rw [gDeal_3]; exact hs, by rw [gDeal_4]; omega, by rw [gDeal_5, gDeal_4, gDeal_Bt hl hd]; omega, ?_, ?_, ?_, ?_⟩
  · intro c c0 c1
    rw [gDeal_C hl hd] at c1
    have := hl.len r c h1.1 h1.2 c0 c1
    rw [gDeal_lo c0 (by omega), gDeal_hi c0 (by omega), gDeal_1, gDeal_o (j := 22 + 3 * r + c) (by omega)]
    omega
  · intro a p a0 a1 p0 p1
    rw [gDeal_o (j := 6 + 2 * a + p) (by omega), gDeal_1, gDeal_Bt hl hd]
    have := h2 a p a0 a1 p0 p1
    by_cases g : a < r
    · rw [if_pos g] at this ⊢; exact this
    · rw [if_neg g] at this ⊢; split <;> omega
  · intro p p0 p1
    rw [gDeal_o (j := 14 + p) (by omega), gDeal_1, gDeal_Bt hl hd]
    have := h3 p p0 p1
    omega
  · intro i i0 i1
    rw [gDeal_5] at i1; omega
end GD
theorem RM_deal {s s0 : Nat → Int → Int} {m : Nat} {f : Int → Int} {r st b : Int} (hy : RY s (m + 1) f) (hl : FL f) (hc : RC s (m + 7) f) (hd : FD f r) (hs : 0 ≤ st ∧ st ≤ 1)
    (a : ∀ q i, (q < m + 7 ∨ m + 10 ≤ q) → s0 q i = s q i) (b0 : s0 (m + 7) 0 = r) (b1 : s0 (m + 7) 1 = st) (b2 : s0 (m + 7) 2 = st) (b3 : s0 (m + 7) 3 = 0) (b5 : s0 (m + 7) 5 = 0)
    (c8 : ∀ c, 0 ≤ c → c < 3 → s0 (m + 8) c = 0) (c9 : ∀ c, 0 ≤ c → c < 3 → s0 (m + 9) c = if c < f (18 + r) then f (22 + 3 * r + c) - 1 else 0)
    (b4 : b = bI (s0 (m + 9) 0 - s0 (m + 8) 0 + (s0 (m + 9) 1 - s0 (m + 8) 1) + (s0 (m + 9) 2 - s0 (m + 8) 2) = 0)) :
    RM (up s0 (m + 7) 4 b) m (gDeal f r st) ∧ ∀ q i, (q < m + 7 ∨ m + 15 ≤ q) → up s0 (m + 7) 4 b q i = s q i := by
  have e : ∀ q i, q ≠ m + 7 → up s0 (m + 7) 4 b q i = s0 q i := fun q i g => up_ne (Or.inl g)
  have e2 : ∀ i, i ≠ 4 → up s0 (m + 7) 4 b (m + 7) i = s0 (m + 7) i := fun i g => up_ne (Or.inr g)
  have hv := gDeal_FS hl hd hs
  have hl' := hl.lay (gDeal_lay (f := f) (r := r) (st := st))
  have C := gDeal_C (st := st) hl hd
  have hr := hl.rn
  have lo : ∀ c, 0 ≤ c → c < 3 → s0 (m + 8) c = if c < gDeal f r st (18 + gDeal f r st 1) then gDeal f r st (34 + c) else 0 := by
    intro c h0 h1
    rw [c8 c h0 h1, gDeal_lo h0 h1]; split <;> rfl
  have hi : ∀ c, 0 ≤ c → c < 3 → s0 (m + 9) c = if c < gDeal f r st (18 + gDeal f r st 1) then gDeal f r st (37 + c) else 0 := by
    intro c h0 h1
    rw [c9 c h0 h1, C, gDeal_hi h0 h1]
  refine ⟨⟨(hy.congr fun q i q1 q2 => by rw [e _ _ (by omega)]; exact a q i (by omega)).lay hl gDeal_lay, ⟨?_, ?_, ?_, ?_, ?_, ?_, fun c h0 h1 => ?_, fun c h0 h1 => ?_, ?_, ?_, ?_, ?_, ?_⟩, hl', hv⟩, fun q i g => by rw [e _ _ (by omega)]; exact a q i (by omega)⟩
  · rw [e2 _ (by decide)]; exact b0
  · rw [e2 _ (by decide)]; exact b1
  · rw [e2 _ (by decide)]; exact b2
  · rw [e2 _ (by decide)]; exact b3
  · rw [up_eq, b4]
    refine bI_congr ?_
    rw [short_sum (l := s0 (m + 8)) (h := s0 (m + 9)) hl' hv lo hi]
    unfold gOver
    rw [gDeal_4]
    constructor
    · exact Or.inr
    · rintro (g | g)
      · cases g
      · exact g
  · rw [e2 _ (by decide)]; exact b5
  · rw [e _ _ (by omega)]; exact lo c h0 h1
  · rw [e _ _ (by omega)]; exact hi c h0 h1
  · intro x p x0 x1 p0 p1
    have hx := hd.1
    rw [e _ _ (by omega), gDeal_o (j := 6 + 2 * x + p) (by omega), a _ _ (by omega)]
    exact hc.1 x p x0 x1 p0 p1
  · intro p p0 p1
    rw [e _ _ (by omega), gDeal_o (j := 14 + p) (by omega), a _ _ (by omega)]
    exact hc.2.1 p p0 p1
  · intro p p0 p1
    rw [e _ _ (by omega), gDeal_o (j := 16 + p) (by omega), a _ _ (by omega)]
    exact hc.2.2 p p0 p1
  · intro i i0 i1
    rw [gDeal_5] at i1; omega
  · intro i i0 i1
    rw [gDeal_5] at i1; omega
/-- the next round -/
def gNextSt (f : Int → Int) : Int := if f (6 + 2 * f 1 + 0) = f (6 + 2 * f 1 + 1) then f 3 else if f (6 + 2 * f 1 + 1) < f (6 + 2 * f 1 + 0) then 1 else 0
def gNext (f : Int → Int) : Int → Int := gDeal f (f 1 + 1) (gNextSt f)
theorem FD_next {f : Int → Int} (hl : FL f) (hv : FS f) (h : f 1 + 1 < f 0) : FD f (f 1 + 1) := by
  have hu := hv.cur
  have hB := gBt_rng hl hv
  refine ⟨⟨by omega, h⟩, fun a p a0 a1 p0 p1 => ?_, fun p p0 p1 => ?_⟩
  · have := hv.sc a p a0 a1 p0 p1
    by_cases g : a < f 1
    · rw [if_pos g] at this; rw [if_pos (by omega)]; exact this
    · rw [if_neg g] at this
      by_cases g2 : a = f 1
      · rw [if_pos g2] at this; rw [if_pos (by omega)]; omega
      · rw [if_neg g2] at this; rw [if_neg (by omega)]; exact this
  · have := hv.bu p p0 p1
    omega
theorem RT.rc {s : Nat → Int → Int} {t : Nat} {f : Int → Int} (h : RT s t f) : RC s t f := ⟨h.sc, h.bu, h.pa⟩
