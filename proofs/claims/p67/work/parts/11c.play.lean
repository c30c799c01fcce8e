theorem short_sum {g l h : Int → Int} (hl : FL g) (hv : FS g) (lo : ∀ c, 0 ≤ c → c < 3 → l c = if c < g (18 + g 1) then g (34 + c) else 0) (hi : ∀ c, 0 ≤ c → c < 3 → h c = if c < g (18 + g 1) then g (37 + c) else 0) :
    (h 0 - l 0 + (h 1 - l 1) + (h 2 - l 2) = 0) ↔ gShort g := by
  have hc := hl.ch _ hv.cur.1 hv.cur.2
  have e := hv.ends
  have l0 := lo 0 (by omega) (by omega)
  have l1 := lo 1 (by omega) (by omega)
  have l2 := lo 2 (by omega) (by omega)
  have h0 := hi 0 (by omega) (by omega)
  have h1 := hi 1 (by omega) (by omega)
  have h2 := hi 2 (by omega) (by omega)
  have e0 := e 0 (by omega) (by omega)
  rw [if_pos (by omega)] at l0 h0
  by_cases g1 : 1 < g (18 + g 1)
  · rw [if_pos g1] at l1 h1
    have e1 := e 1 (by omega) g1
    by_cases g2 : 2 < g (18 + g 1)
    · rw [if_pos g2] at l2 h2
      have e2 := e 2 (by omega) g2
      constructor
      · intro hs c c0 c1
        have hcc : c = 0 ∨ c = 1 ∨ c = 2 := by omega
        rcases hcc with rfl | rfl | rfl <;> omega
      · intro hs
        have a0 := hs 0 (by omega) (by omega)
        have a1 := hs 1 (by omega) (by omega)
        have a2 := hs 2 (by omega) (by omega)
        omega
    · rw [if_neg g2] at l2 h2
      constructor
      · intro hs c c0 c1
        have hcc : c = 0 ∨ c = 1 := by omega
        rcases hcc with rfl | rfl <;> omega
      · intro hs
        have a0 := hs 0 (by omega) (by omega)
        have a1 := hs 1 (by omega) (by omega)
        omega
  · rw [if_neg g1] at l1 h1
    rw [if_neg (by omega)] at l2 h2
    constructor
    · intro hs c c0 c1
      have hcc : c = 0 := by omega
      subst hcc; omega
    · intro hs
      have a0 := hs 0 (by omega) (by omega)
      omega
theorem RM_play {s s' : Nat → Int → Int} {m : Nat} {f : Int → Int} {z : Int} (h : RM s m f) (hz : gLegal f z) (ho : ¬ gOver f)
    (a : ∀ q i, (q < m + 7 ∨ m + 15 ≤ q) → s' q i = s q i) (b0 : s' (m + 7) 0 = f 1) (b1 : s' (m + 7) 1 = f 3) (b2 : s' (m + 7) 2 = 1 - f 2) (b3 : s' (m + 7) 3 = if z = 6 then f 4 + 1 else 0) (b5 : s' (m + 7) 5 = f 5 + 1)
    (c8 : ∀ i, s' (m + 8) i = if i = z / 2 ∧ z ≠ 6 ∧ z % 2 = 0 then s (m + 8) i + 1 else s (m + 8) i) (c9 : ∀ i, s' (m + 9) i = if i = z / 2 ∧ z ≠ 6 ∧ z % 2 = 1 then s (m + 9) i - 1 else s (m + 9) i)
    (c10 : ∀ i, s' (m + 10) i = if i = f 1 * 2 + f 2 ∧ z ≠ 6 then s (m + 10) i + gPt f z else s (m + 10) i) (c11 : ∀ i, s' (m + 11) i = if i = f 2 ∧ z ≠ 6 then s (m + 11) i + 1 else s (m + 11) i)
    (c12 : ∀ i, s' (m + 12) i = if i = f 2 ∧ z = 6 then s (m + 12) i + 1 else s (m + 12) i) (c13 : ∀ i, s' (m + 13) i = if i = f 5 then z else s (m + 13) i) (c14 : ∀ i, s' (m + 14) i = if i = f 5 then gPt f z else s (m + 14) i)
    (b4 : s' (m + 7) 4 = bI (1 < s' (m + 7) 3 ∨ s' (m + 9) 0 - s' (m + 8) 0 + (s' (m + 9) 1 - s' (m + 8) 1) + (s' (m + 9) 2 - s' (m + 8) 2) = 0)) : RM s' m (gPlay f z) := by
  have hl := h.l
  have hv := h.v
  have hr := hl.rn
  have hu := hv.cur
  have hm := hv.moves
  have ht := hv.turn
  have hp := hv.passed
  have hc := h.c
  have hz6 := gLegal_rng hc hz.ok
  have hl' := hl.lay (gPlay_lay hl hv hz)
  have hv' := gPlay_FS hl hv hz ho
  have C := gPlay_C hl hv hz
  have hzc : z = 6 ∨ 0 ≤ z ∧ z / 2 < f (18 + f 1) := by rcases hz with g | g; exact Or.inl g; exact Or.inr ⟨g.1, g.2.1⟩
  have lo : ∀ c, 0 ≤ c → c < 3 → s' (m + 8) c = if c < gPlay f z (18 + gPlay f z 1) then gPlay f z (34 + c) else 0 := by
    intro c h0 h1
    rw [C, c8, gPlay_lo hl hv hz h0 h1]
    have := h.t.lo c h0 h1
    change s (m + 8) c = _ at this
    rw [this]
    by_cases g : c < f (18 + f 1)
    · rw [if_pos g, if_pos g]
    · rw [if_neg g, if_neg g, if_neg (by omega)]
  have hi : ∀ c, 0 ≤ c → c < 3 → s' (m + 9) c = if c < gPlay f z (18 + gPlay f z 1) then gPlay f z (37 + c) else 0 := by
    intro c h0 h1
    rw [C, c9, gPlay_hi hl hv hz h0 h1]
    have := h.t.hi c h0 h1
    change s (m + 9) c = _ at this
    rw [this]
    by_cases g : c < f (18 + f 1)
    · rw [if_pos g, if_pos g]
    · rw [if_neg g, if_neg g, if_neg (by omega)]
  refine ⟨(h.y.congr fun q i q1 q2 => a q i (by omega)).lay hl (gPlay_lay hl hv hz), ⟨?_, ?_, ?_, ?_, ?_, ?_, lo, hi, ?_, ?_, ?_, ?_, ?_⟩, hl', hv'⟩
  · rw [gPlay_1 hl hv hz]; exact b0
  · rw [gPlay_o (j := 3) hl hv hz (by omega)]; exact b1
  · rw [gPlay_2]; exact b2
  · rw [gPlay_4]; exact b3
  · refine b4.trans (bI_congr ?_)
    rw [short_sum (l := s' (m + 8)) (h := s' (m + 9)) hl' hv' lo hi]
    unfold gOver
    rw [b3, gPlay_4]
    have h4 : ¬ f 4 = 2 := fun g => ho (Or.inl g)
    by_cases g : z = 6
    · rw [if_pos g]
      constructor
      · rintro (g1 | g1)
        · exact Or.inl (by omega)
        · exact Or.inr g1
      · rintro (g1 | g1)
        · exact Or.inl (by omega)
        · exact Or.inr g1
    · rw [if_neg g]
      constructor
      · rintro (g1 | g1)
        · omega
        · exact Or.inr g1
      · rintro (g1 | g1)
        · omega
        · exact Or.inr g1
  · rw [gPlay_5]; exact b5
  · intro r p r0 r1 p0 p1
    have := h.t.sc r p r0 r1 p0 p1
    change s (m + 10) _ = _ at this
    change s' (m + 10) _ = _
    rw [gPlay_sc hv hl hz r0 r1 p0 p1, c10, this]
    by_cases g : r = f 1 ∧ p = f 2
    · rw [if_pos g]
      by_cases g6 : z = 6
      · rw [if_neg (by omega), g6, gPt_6]; omega
      · rw [if_pos (by omega)]
    · rw [if_neg g, if_neg (by omega)]
  · intro p p0 p1
    have := h.t.bu p p0 p1
    change s (m + 11) _ = _ at this
    change s' (m + 11) _ = _
    rw [gPlay_bu hv hl hz p0 p1, c11, this]
  · intro p p0 p1
    have := h.t.pa p p0 p1
    change s (m + 12) _ = _ at this
    change s' (m + 12) _ = _
    rw [gPlay_pa hv hl hz p0 p1, c12, this]
  · intro i i0 i1
    rw [gPlay_5] at i1
    change s' (m + 13) _ = _
    have hB0 := gBt_lt hl hv ho
    rw [c13]
    unfold gPlay
    by_cases g : i = f 5
    · rw [if_pos g]; repeat' (first | rw [if_neg (by omega)] | rw [if_pos (by omega)])
    · rw [if_neg g, h.logCodes i i0 (by omega)]; repeat' (first | rw [if_neg (by omega)])
  · intro i i0 i1
    rw [gPlay_5] at i1
    change s' (m + 14) _ = _
    have hB0 := gBt_lt hl hv ho
    rw [c14]
    unfold gPlay
    by_cases g : i = f 5
    · rw [if_pos g]; repeat' (first | rw [if_neg (by omega)] | rw [if_pos (by omega)])
    · rw [if_neg g, h.logPoints i i0 (by omega)]; repeat' (first | rw [if_neg (by omega)])
/-- an end taken -/
def upE (s : Nat → Int → Int) (m : Nat) (z : Int) : Nat → Int → Int := fun q i => if q = m + 8 ∧ i = z / 2 ∧ z % 2 = 0 then s q i + 1 else if q = m + 9 ∧ i = z / 2 ∧ z % 2 = 1 then s q i - 1 else s q i
theorem upE_l {s : Nat → Int → Int} {m : Nat} {z : Int} (h : z % 2 = 0) : up s (m + 8) (z / 2) (s (m + 8) (z / 2) + 1) = upE s m z := by
  funext q i
  unfold up upE
  by_cases g : q = m + 8 ∧ i = z / 2
  · rw [if_pos g, if_pos ⟨g.1, g.2, h⟩, g.1, g.2]
  · rw [if_neg g, if_neg (fun e => g ⟨e.1, e.2.1⟩), if_neg (by omega)]
theorem upE_r {s : Nat → Int → Int} {m : Nat} {z : Int} (h : ¬ z % 2 = 0) : up s (m + 9) (z / 2) (s (m + 9) (z / 2) - 1) = upE s m z := by
  funext q i
  unfold up upE
  by_cases g : q = m + 9 ∧ i = z / 2
  · rw [if_pos g, if_neg (by omega), if_pos ⟨g.1, g.2, by omega⟩, g.1, g.2]
  · rw [if_neg g, if_neg (by omega), if_neg (by omega)]
theorem upE_ne {s : Nat → Int → Int} {m q : Nat} {z i : Int} (h : q ≠ m + 8 ∧ q ≠ m + 9) : upE s m z q i = s q i := by
  unfold upE
  rw [if_neg (fun e => h.1 e.1), if_neg (fun e => h.2 e.1)]
theorem RM_play2 {s s0 : Nat → Int → Int} {m : Nat} {f : Int → Int} {z b : Int} (h : RM s m f) (hz : gLegal f z) (ho : ¬ gOver f)
    (a : ∀ q i, (q < m + 7 ∨ m + 15 ≤ q) → s0 q i = s q i) (b0 : s0 (m + 7) 0 = f 1) (b1 : s0 (m + 7) 1 = f 3) (b2 : s0 (m + 7) 2 = 1 - f 2) (b3 : s0 (m + 7) 3 = if z = 6 then f 4 + 1 else 0) (b5 : s0 (m + 7) 5 = f 5 + 1)
    (c8 : ∀ i, s0 (m + 8) i = if i = z / 2 ∧ z ≠ 6 ∧ z % 2 = 0 then s (m + 8) i + 1 else s (m + 8) i) (c9 : ∀ i, s0 (m + 9) i = if i = z / 2 ∧ z ≠ 6 ∧ z % 2 = 1 then s (m + 9) i - 1 else s (m + 9) i)
    (c10 : ∀ i, s0 (m + 10) i = if i = f 1 * 2 + f 2 ∧ z ≠ 6 then s (m + 10) i + gPt f z else s (m + 10) i) (c11 : ∀ i, s0 (m + 11) i = if i = f 2 ∧ z ≠ 6 then s (m + 11) i + 1 else s (m + 11) i)
    (c12 : ∀ i, s0 (m + 12) i = if i = f 2 ∧ z = 6 then s (m + 12) i + 1 else s (m + 12) i) (c13 : ∀ i, s0 (m + 13) i = if i = f 5 then z else s (m + 13) i) (c14 : ∀ i, s0 (m + 14) i = if i = f 5 then gPt f z else s (m + 14) i)
    (b4 : b = bI (1 < (if z = 6 then f 4 + 1 else 0) ∨ s0 (m + 9) 0 - s0 (m + 8) 0 + (s0 (m + 9) 1 - s0 (m + 8) 1) + (s0 (m + 9) 2 - s0 (m + 8) 2) = 0)) :
    RM (up s0 (m + 7) 4 b) m (gPlay f z) ∧ ∀ q i, (q < m + 7 ∨ m + 15 ≤ q) → up s0 (m + 7) 4 b q i = s q i := by
  have e : ∀ q i, q ≠ m + 7 → up s0 (m + 7) 4 b q i = s0 q i := fun q i g => up_ne (Or.inl g)
  have e2 : ∀ i, i ≠ 4 → up s0 (m + 7) 4 b (m + 7) i = s0 (m + 7) i := fun i g => up_ne (Or.inr g)
  refine ⟨RM_play h hz ho ?_ ?_ ?_ ?_ ?_ ?_ ?_ ?_ ?_ ?_ ?_ ?_ ?_ ?_, fun q i g => by rw [e _ _ (by omega)]; exact a q i g⟩
  · intro q i g; rw [e _ _ (by omega)]; exact a q i g
  · rw [e2 _ (by decide)]; exact b0
  · rw [e2 _ (by decide)]; exact b1
  · rw [e2 _ (by decide)]; exact b2
  · rw [e2 _ (by decide)]; exact b3
  · rw [e2 _ (by decide)]; exact b5
  · intro i; rw [e _ _ (by omega)]; exact c8 i
  · intro i; rw [e _ _ (by omega)]; exact c9 i
  · intro i; rw [e _ _ (by omega)]; exact c10 i
  · intro i; rw [e _ _ (by omega)]; exact c11 i
  · intro i; rw [e _ _ (by omega)]; exact c12 i
  · intro i; rw [e _ _ (by omega)]; exact c13 i
  · intro i; rw [e _ _ (by omega)]; exact c14 i
  · rw [up_eq, e2 3 (by decide), b3, e _ _ (by omega), e _ _ (by omega), e _ _ (by omega), e _ _ (by omega), e _ _ (by omega), e _ _ (by omega)]
    exact b4
theorem RM.b {s : Nat → Int → Int} {m : Nat} {f : Int → Int} (h : RM s m f) {c : Int} (h0 : 0 ≤ c) (h1 : c < 3) : (0 ≤ s (m + 8) c ∧ s (m + 8) c ≤ 8) ∧ 0 ≤ s (m + 9) c ∧ s (m + 9) c ≤ 8 := by
  have e1 := h.t.lo c h0 h1
  have e2 := h.t.hi c h0 h1
  change s (m + 8) c = _ at e1
  change s (m + 9) c = _ at e2
  by_cases g : c < f (18 + f 1)
  · rw [if_pos g] at e1 e2
    have := h.e c h0 g
    omega
  · rw [if_neg g] at e1 e2; omega
