noncomputable def gHigh (f : Int → Int) : Int := if bI (gOver f) = 1 then 0 else gPt f (gGr f)
theorem gHigh_o {f : Int → Int} (h : gOver f) : gHigh f = 0 := if_pos (bI_t h)
theorem gHigh_n {f : Int → Int} (h : ¬ gOver f) : gHigh f = gPt f (gGr f) := if_neg (by rw [bI_f h]; decide)
/-- greedy play to the end -/
noncomputable def gGRun : Nat → (Int → Int) → (Int → Int)
  | 0, g => g
  | k + 1, g => if bI (gOver g) = 1 then g else gGRun k (gPlay g (gGr g))
noncomputable def gGDif : Nat → (Int → Int) → Int → Int → Int
  | 0, _, _, a => a
  | k + 1, g, y, a => if bI (gOver g) = 1 then a else gGDif k (gPlay g (gGr g)) (-y) (a + y * gPt g (gGr g))
theorem gGRun_o {k : Nat} {g : Int → Int} (h : gOver g) : gGRun k g = g := by cases k; rfl; exact if_pos (bI_t h)
theorem gGRun_n {k : Nat} {g : Int → Int} (h : ¬ gOver g) : gGRun (k + 1) g = gGRun k (gPlay g (gGr g)) := if_neg (by rw [bI_f h]; decide)
theorem gGDif_o {k : Nat} {g : Int → Int} {y a : Int} (h : gOver g) : gGDif k g y a = a := by cases k; rfl; exact if_pos (bI_t h)
theorem gGDif_n {k : Nat} {g : Int → Int} {y a : Int} (h : ¬ gOver g) : gGDif (k + 1) g y a = gGDif k (gPlay g (gGr g)) (-y) (a + y * gPt g (gGr g)) := if_neg (by rw [bI_f h]; decide)
theorem gBt_greedy {g : Int → Int} (hl : FL g) (hv : FS g) (ho : ¬ gOver g) : gBt (gPlay g (gGr g)) = gBt g + 1 := by
  obtain ⟨-, -, h6, hz⟩ := greedy_eq hl hv ho
  rw [gPlay_Bt hl hv hz, if_neg h6]
theorem gGRun_lv : ∀ (k : Nat) {g : Int → Int}, FL g → FS g → FL (gGRun k g) ∧ FS (gGRun k g) ∧ gLay g (gGRun k g) ∧ gGRun k g 1 = g 1
  | 0, g, hl, hv => ⟨hl, hv, gLay.refl g, rfl⟩
  | k + 1, g, hl, hv => by
    by_cases ho : gOver g
    · rw [gGRun_o ho]; exact ⟨hl, hv, gLay.refl g, rfl⟩
    · rw [gGRun_n ho]
      obtain ⟨-, -, h6, hz⟩ := greedy_eq hl hv ho
      obtain ⟨a, b, c, d⟩ := gGRun_lv k (hl.lay (gPlay_lay hl hv hz)) (gPlay_FS hl hv hz ho)
      exact ⟨a, b, (gPlay_lay hl hv hz).trans c, d.trans (gPlay_1 hl hv hz)⟩
/-- the two ways to count what greedy play brings -/
theorem greedy_dif : ∀ (k m : Nat) {g : Int → Int} {p y a : Int}, FL g → FS g → 21 - gBt g ≤ k → 21 - gBt g ≤ m → (p = 0 ∨ p = 1) → (g 2 = p ∧ y = 1 ∨ g 2 = 1 - p ∧ y = -1) →
    gGDif k g y a = a + (gGRun m g (6 + 2 * g 1 + p) - g (6 + 2 * g 1 + p)) - (gGRun m g (6 + 2 * g 1 + (1 - p)) - g (6 + 2 * g 1 + (1 - p)))
  | k, m, g, p, y, a, hl, hv, hk, hm, hp, hy => by
    by_cases ho : gOver g
    · rw [gGDif_o ho, gGRun_o ho]; omega
    · have hB := gBt_lt hl hv ho
      obtain ⟨k, rfl⟩ : ∃ k', k = k' + 1 := ⟨k - 1, by omega⟩
      obtain ⟨m, rfl⟩ : ∃ m', m = m' + 1 := ⟨m - 1, by omega⟩
      rw [gGDif_n ho, gGRun_n ho]
      obtain ⟨-, -, h6, hz⟩ := greedy_eq hl hv ho
      have hl' := hl.lay (gPlay_lay hl hv hz)
      have hv' := gPlay_FS hl hv hz ho
      have hB' := gBt_greedy hl hv ho
      have hu := hv.cur
      have hr := hl.rn
      have ih := greedy_dif k m (g := gPlay g (gGr g)) (p := p) (y := -y) (a := a + y * gPt g (gGr g)) hl' hv' (by omega) (by omega) hp (by rw [gPlay_2]; omega)
      rw [ih, gPlay_1 hl hv hz, gPlay_sc hv hl hz hu.1 (by omega) (show 0 ≤ p by omega) (by omega), gPlay_sc hv hl hz hu.1 (by omega) (show 0 ≤ 1 - p by omega) (by omega)]
      have ht := hv.turn
      rcases hy with ⟨h1, rfl⟩ | ⟨h1, rfl⟩
      · rw [if_pos ⟨rfl, h1.symm⟩, if_neg (by omega)]; omega
      · rw [if_neg (by omega), if_pos ⟨rfl, h1.symm⟩]; omega
termination_by k => k
/-- what a call of the model that works on the trial row leaves as it was -/
def MFr (s s' : Nat → Int → Int) : Prop := (∀ q i, q ≠ 137 → q ≠ 138 → q ≠ 141 → s' q i = s q i) ∧ (∀ i, i ≠ 0 → i ≠ 2 → s' 137 i = s 137 i) ∧ s' 137 2 = 0 ∧ s' 137 0 = 0 ∧ ∀ j, j < 2552 → s' 138 j = s 138 j
theorem gGi_rng {f : Int → Int} (hl : FL f) (hv : FS f) : -1 ≤ gGi f ∧ gGi f ≤ 6 := by
  by_cases ho : gOver f
  · rw [gGi_over ho]; omega
  · have := (greedy_eq hl hv ho).1
    have := gMoves_rng (hl.ch _ hv.cur.1 hv.cur.2)
    omega
noncomputable def gGreedyDif (f : Int → Int) : Int := gGDif 21 f 1 0
