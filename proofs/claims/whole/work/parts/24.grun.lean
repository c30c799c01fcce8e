noncomputable def gHigh (f : Int → Int) : Int := if bI (gOver f) = 1 then 0 else gPt f (gGr f)
theorem gHigh_o {f : Int → Int} (h : gOver f) : gHigh f = 0 := if_pos (bI_t h)
theorem gHigh_n {f : Int → Int} (h : ¬ gOver f) : gHigh f = gPt f (gGr f) := if_neg (by rw [bI_f h]; decide)
/-- greedy play to the end -/
noncomputable def gGRun : Nat → (Int → Int) → (Int → Int)
  | 0, g => g
  | k + 1, g => if bI (gOver g) = 1 then g else gGRun k (gPlay g (gGr g))
noncomputable def gGDif : Nat → (Int → Int) → Int → Int → Int
  | 0, _, _, a => a
  | k + 1, g, y, a => if bI (gOver g) = 1 then a else gGDif k (gPlay g (gGr g)) (-y) (a + y * gPt g (gGr g))
theorem gGRun_o {k : Nat} {g : Int → Int} (h : gOver g) : gGRun k g = g := by cases k; rfl; exact if_pos (bI_t h)
theorem gGRun_n {k : Nat} {g : Int → Int} (h : ¬ gOver g) : gGRun (k + 1) g = gGRun k (gPlay g (gGr g)) := if_neg (by rw [bI_f h]; decide)
theorem gGDif_o {k : Nat} {g : Int → Int} {y a : Int} (h : gOver g) : gGDif k g y a = a := by cases k; rfl; exact if_pos (bI_t h)
theorem gGDif_n {k : Nat} {g : Int → Int} {y a : Int} (h : ¬ gOver g) : gGDif (k + 1) g y a = gGDif k (gPlay g (gGr g)) (-y) (a + y * gPt g (gGr g)) := if_neg (by rw [bI_f h]; decide)
theorem gBt_over {g : Int → Int} (hl : FL g) (hv : FS g) (h : 21 ≤ gBt g) : gOver g := Classical.byContradiction fun ho => by have := gBt_lt hl hv ho; omega
theorem gBt_greedy {g : Int → Int} (hl : FL g) (hv : FS g) (ho : ¬ gOver g) : gBt (gPlay g (gGr g)) = gBt g + 1 := by
  obtain ⟨-, -, h6, hz⟩ := greedy_eq hl hv ho
  rw [gPlay_Bt hl hv hz, if_neg h6]
theorem gGRun_lv : ∀ (k : Nat) {g : Int → Int}, FL g → FS g → FL (gGRun k g) ∧ FS (gGRun k g) ∧ gLay g (gGRun k g) ∧ gGRun k g 1 = g 1
  | 0, g, hl, hv => ⟨hl, hv, gLay.refl g, rfl⟩
  | k + 1, g, hl, hv => by
    by_cases ho : gOver g
    · rw [gGRun_o ho]; exact ⟨hl, hv, gLay.refl g, rfl⟩
    · rw [gGRun_n ho]
      obtain ⟨-, -, h6, hz⟩ := greedy_eq hl hv ho
      obtain ⟨a, b, c, d⟩ := gGRun_lv k (hl.lay (gPlay_lay hl hv hz)) (gPlay_FS hl hv hz ho)
      exact ⟨a, b, (gPlay_lay hl hv hz).trans c, d.trans (gPlay_1 hl hv hz)⟩
/-- the two ways to count what greedy play brings -/
theorem greedy_dif : ∀ (k m : Nat) {g : Int → Int} {p y a : Int}, FL g → FS g → 21 - gBt g ≤ k → 21 - gBt g ≤ m → (p = 0 ∨ p = 1) → (g 2 = p ∧ y = 1 ∨ g 2 = 1 - p ∧ y = -1) →
    gGDif k g y a = a + (gGRun m g (6 + 2 * g 1 + p) - g (6 + 2 * g 1 + p)) - (gGRun m g (6 + 2 * g 1 + (1 - p)) - g (6 + 2 * g 1 + (1 - p)))
  | k, m, g, p, y, a, hl, hv, hk, hm, hp, hy => by
    by_cases ho : gOver g
    · rw [gGDif_o ho, gGRun_o ho]; omega
    · have hB := gBt_lt hl hv ho
      obtain ⟨k, rfl⟩ : ∃ k', k = k' + 1 := ⟨k - 1, by omega⟩
      obtain ⟨m, rfl⟩ : ∃ m', m = m' + 1 := ⟨m - 1, by omega⟩
      rw [gGDif_n ho, gGRun_n ho]
      obtain ⟨-, -, h6, hz⟩ := greedy_eq hl hv ho
      have hl' := hl.lay (gPlay_lay hl hv hz)
      have hv' := gPlay_FS hl hv hz ho
      have hB' := gBt_greedy hl hv ho
      have hu := hv.cur
      have hr := hl.rn
      have ih := greedy_dif k m (g := gPlay g (gGr g)) (p := p) (y := -y) (a := a + y * gPt g (gGr g)) hl' hv' (by omega) (by omega) hp (by rw [gPlay_2]; omega)
      rw [ih, gPlay_1 hl hv hz, gPlay_sc hv hl hz hu.1 (by omega) (show 0 ≤ p by omega) (by omega), gPlay_sc hv hl hz hu.1 (by omega) (show 0 ≤ 1 - p by omega) (by omega)]
      have ht := hv.turn
      rcases hy with ⟨h1, rfl⟩ | ⟨h1, rfl⟩
      · rw [if_pos ⟨rfl, h1.symm⟩, if_neg (by omega)]; omega
      · rw [if_neg (by omega), if_pos ⟨rfl, h1.symm⟩]; omega
termination_by k => k
/-- what a call of the model that works on the trial row leaves as it was -/
def MFr (s s' : Nat → Int → Int) : Prop := (∀ q i, q ≠ 137 → q ≠ 138 → q ≠ 141 → s' q i = s q i) ∧ (∀ i, i ≠ 0 → i ≠ 2 → s' 137 i = s 137 i) ∧ s' 137 2 = 0 ∧ s' 137 0 = 0 ∧ ∀ j, j < 2552 → s' 138 j = s 138 j
/-- the same, while the trial row is looked at -/
def TFr (s z : Nat → Int → Int) : Prop := (∀ q i, q ≠ 137 → q ≠ 138 → q ≠ 141 → z q i = s q i) ∧ (∀ i, i ≠ 0 → i ≠ 2 → z 137 i = s 137 i) ∧ z 137 2 = 2552 ∧ z 137 0 = 0 ∧ ∀ j, j < 2552 → z 138 j = s 138 j
theorem TFr.row {s z z' : Nat → Int → Int} (h : TFr s z) (g : FrM z z') : TFr s z' := by
  obtain ⟨h1, h2, h3, h4, h5⟩ := h
  exact ⟨fun q i a b c => (g.1 q i b).trans (h1 q i a b c), fun i a b => (g.1 137 i (by decide)).trans (h2 i a b), (g.1 137 2 (by decide)).trans h3, (g.1 137 0 (by decide)).trans h4, fun j hj => (g.2 j (by omega)).trans (h5 j hj)⟩
theorem TFr.back {s z : Nat → Int → Int} (h : TFr s z) : MFr s (up z 137 2 0) := by
  obtain ⟨h1, h2, h3, h4, h5⟩ := h
  exact ⟨fun q i a b c => (up_ne (Or.inl a)).trans (h1 q i a b c), fun i a b => (up_ne (Or.inr b)).trans (h2 i a b), up_eq _ _ _ _, (up_ne (Or.inr (by decide))).trans h4, fun j hj => (up_ne (Or.inl (by decide))).trans (h5 j hj)⟩
theorem gMv_low {f : Int → Int} : ∀ (k : Nat) (c i : Int), 0 ≤ i → i < gMvn f k c 1 - 1 → 0 ≤ c → 2 * c ≤ gMv f k c i
  | 0, c, i, h0, h1, _ => by have : gMvn f 0 c 1 = 1 := rfl; omega
  | k + 1, c, i, h0, h1, hc => by
    by_cases g : 1 < f (37 + c) - f (34 + c) + 1
    · have eM : gMvn f (k + 1) c 1 = gMvn f k (c + 1) 1 + 2 := by rw [gMvn_s, if_pos g]; exact gMvn_2 k (c + 1) 1
      rw [eM] at h1
      by_cases gi : i < 2
      · rw [gMv_s2 g gi]; omega
      · rw [gMv_s1 g (by omega)]
        have := gMv_low (f := f) k (c + 1) (i - 2) (by omega) (by omega) (by omega)
        omega
    · have eM : gMvn f (k + 1) c 1 = gMvn f k (c + 1) 1 := by rw [gMvn_s, if_neg g]
      rw [eM] at h1
      rw [gMv_s3 g]
      have := gMv_low (f := f) k (c + 1) i h0 h1 (by omega)
      omega
theorem gMv_lt {f : Int → Int} : ∀ (k : Nat) (c i j : Int), 0 ≤ i → i < j → j < gMvn f k c 1 - 1 → 0 ≤ c → gMv f k c i < gMv f k c j ∧ 2 * c ≤ gMv f k c i
  | 0, c, i, j, h0, h1, h2, _ => by have : gMvn f 0 c 1 = 1 := rfl; omega
  | k + 1, c, i, j, h0, h1, h2, hc => by
    by_cases g : 1 < f (37 + c) - f (34 + c) + 1
    · have eM : gMvn f (k + 1) c 1 = gMvn f k (c + 1) 1 + 2 := by rw [gMvn_s, if_pos g]; exact gMvn_2 k (c + 1) 1
      rw [eM] at h2
      by_cases gi : i < 2
      · by_cases gj : j < 2
        · rw [gMv_s2 g gi, gMv_s2 g gj]; omega
        · rw [gMv_s2 g gi, gMv_s1 g (by omega)]
          have := gMv_low (f := f) k (c + 1) (j - 2) (by omega) (by omega) (by omega)
          omega
      · rw [gMv_s1 g (by omega), gMv_s1 g (by omega)]
        have := gMv_lt (f := f) k (c + 1) (i - 2) (j - 2) (by omega) (by omega) (by omega) (by omega)
        omega
    · have eM : gMvn f (k + 1) c 1 = gMvn f k (c + 1) 1 := by rw [gMvn_s, if_neg g]
      rw [eM] at h2
      rw [gMv_s3 g, gMv_s3 g]
      have := gMv_lt (f := f) k (c + 1) i j h0 h1 h2 (by omega)
      omega
theorem gMvAt_lt {f : Int → Int} (ho : ¬ gOver f) {i j : Int} (h0 : 0 ≤ i) (h1 : i < j) (h2 : j < gMoves f - 1) : gMvAt f i < gMvAt f j := by
  rw [gMoves_not ho] at h2
  exact (gMv_lt _ 0 i j h0 h1 h2 (by omega)).1
theorem gGi_rng {f : Int → Int} (hl : FL f) (hv : FS f) : -1 ≤ gGi f ∧ gGi f ≤ 6 := by
  by_cases ho : gOver f
  · rw [gGi_over ho]; omega
  · have := (greedy_eq hl hv ho).1
    have := gMoves_rng (hl.ch _ hv.cur.1 hv.cur.2)
    omega
noncomputable def gGreedyDif (f : Int → Int) : Int := gGDif 21 f 1 0
theorem gGDif_eq {k m : Nat} {g : Int → Int} {a : Int} (hl : FL g) (hv : FS g) (hk : 21 - gBt g ≤ k) (hm : 21 - gBt g ≤ m) : gGDif k g 1 a = gGDif m g 1 a := by
  have ht := hv.turn
  rw [greedy_dif k 21 (p := g 2) hl hv hk (by have := gBt_rng hl hv; omega) (by omega) (Or.inl ⟨rfl, rfl⟩), greedy_dif m 21 (p := g 2) hl hv hm (by have := gBt_rng hl hv; omega) (by omega) (Or.inl ⟨rfl, rfl⟩)]
