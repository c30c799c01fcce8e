/-- a row that differs in the ends alone -/
def gSame (f g : Int → Int) : Prop := ∀ j, (∀ c, 0 ≤ c → c < f (18 + f 1) → j ≠ 34 + c ∧ j ≠ 37 + c) → g j = f j
def gPos (f : Int → Int) : Int := foldF (fun c p => 64 * p + 8 * f (34 + c) + f (37 + c)) (f (18 + f 1)).toNat 0 0
def gAll (f : Int → Int) : Int := foldF (fun _ a => a * 64) (f (18 + f 1)).toNat 0 1
section GM
variable {f g h : Int → Int} {z : Int}
theorem gSame.o (hl : FL f) (hv : FS f) (s : gSame f g) {j : Int} (hj : j < 34 ∨ 40 ≤ j) : g j = f j := s j fun c c0 c1 => by have := hl.ch _ hv.cur.1 hv.cur.2; omega
theorem gSame.C (hl : FL f) (hv : FS f) (s : gSame f g) : g (18 + g 1) = f (18 + f 1) := by
  have := hv.cur; have := hl.rn
  rw [s.o hl hv (j := 1) (by omega)]; exact s.o hl hv (by omega)
theorem gSame.refl (f : Int → Int) : gSame f f := fun _ _ => rfl
theorem gSame.symm (hl : FL f) (hv : FS f) (s : gSame f g) : gSame g f := fun j hj => (s j (by rw [s.C hl hv] at hj; exact hj)).symm
theorem gSame.trans (hl : FL f) (hv : FS f) (s : gSame f g) (t : gSame g h) : gSame f h := fun j hj => (t j (by rw [s.C hl hv]; exact hj)).trans (s j hj)
theorem gPos_c (hl : FL f) (hv : FS f) : (f (18 + f 1) = 1 ∧ gPos f = 8 * f 34 + f 37) ∨ (f (18 + f 1) = 2 ∧ gPos f = 64 * (8 * f 34 + f 37) + 8 * f 35 + f 38) ∨ (f (18 + f 1) = 3 ∧ gPos f = 64 * (64 * (8 * f 34 + f 37) + 8 * f 35 + f 38) + 8 * f 36 + f 39) := by
  have hc := hl.ch _ hv.cur.1 hv.cur.2
  unfold gPos
  have e : f (18 + f 1) = 1 ∨ f (18 + f 1) = 2 ∨ f (18 + f 1) = 3 := by omega
  rcases e with e | e | e
  · refine Or.inl ⟨e, ?_⟩; rw [e]; simp [foldF]
  · refine Or.inr (Or.inl ⟨e, ?_⟩); rw [e]; simp [foldF]
  · refine Or.inr (Or.inr ⟨e, ?_⟩); rw [e]; simp [foldF]
theorem gEnd_rng (hl : FL f) (hv : FS f) : (0 ≤ f 34 ∧ f 34 ≤ f 37 ∧ f 37 < 8) ∧ (1 < f (18 + f 1) → 0 ≤ f 35 ∧ f 35 ≤ f 38 ∧ f 38 < 8) ∧ (2 < f (18 + f 1) → 0 ≤ f 36 ∧ f 36 ≤ f 39 ∧ f 39 < 8) := by
  have hc := hl.ch _ hv.cur.1 hv.cur.2
  refine ⟨?_, fun h => ?_, fun h => ?_⟩
  · have := hv.e hl 0 (by omega) (by omega); simp only [Int.add_zero] at this; omega
  · have := hv.e hl 1 (by omega) h; simp only [Int.reduceAdd] at this; omega
  · have := hv.e hl 2 (by omega) h; simp only [Int.reduceAdd] at this; omega
theorem gAll_c (hl : FL f) (hv : FS f) : (f (18 + f 1) = 1 ∧ gAll f = 64) ∨ (f (18 + f 1) = 2 ∧ gAll f = 4096) ∨ (f (18 + f 1) = 3 ∧ gAll f = 262144) := by
  have hc := hl.ch _ hv.cur.1 hv.cur.2
  unfold gAll
  have e : f (18 + f 1) = 1 ∨ f (18 + f 1) = 2 ∨ f (18 + f 1) = 3 := by omega
  rcases e with e | e | e
  · refine Or.inl ⟨e, ?_⟩; rw [e]; simp [foldF]
  · refine Or.inr (Or.inl ⟨e, ?_⟩); rw [e]; simp [foldF]
  · refine Or.inr (Or.inr ⟨e, ?_⟩); rw [e]; simp [foldF]
theorem gPos_rng (hl : FL f) (hv : FS f) : 0 ≤ gPos f ∧ gPos f < gAll f ∧ gAll f ≤ 262144 := by
  have e := gEnd_rng hl hv
  rcases gPos_c hl hv with ⟨a, b⟩ | ⟨a, b⟩ | ⟨a, b⟩ <;> rcases gAll_c hl hv with ⟨c, d⟩ | ⟨c, d⟩ | ⟨c, d⟩ <;> omega
theorem gPos_inj (hl : FL f) (hv : FS f) (hl' : FL g) (hv' : FS g) (s : gSame f g) (e : gPos g = gPos f) : g = f := by
  have hC := s.C hl hv
  have e1 := gEnd_rng hl hv
  have e2 := gEnd_rng hl' hv'
  have hc := hl.ch _ hv.cur.1 hv.cur.2
  have d64 : ∀ a b c d : Int, 0 ≤ b → b < 64 → 0 ≤ d → d < 64 → 64 * a + b = 64 * c + d → a = c ∧ b = d := by intro a b c d; omega
  have d8 : ∀ a b c d : Int, 0 ≤ b → b < 8 → 0 ≤ d → d < 8 → 8 * a + b = 8 * c + d → a = c ∧ b = d := by intro a b c d; omega
  have all : (g 34 = f 34 ∧ g 37 = f 37) ∧ (1 < f (18 + f 1) → g 35 = f 35 ∧ g 38 = f 38) ∧ (2 < f (18 + f 1) → g 36 = f 36 ∧ g 39 = f 39) := by
    rcases gPos_c hl hv with ⟨a, b⟩ | ⟨a, b⟩ | ⟨a, b⟩
    · rcases gPos_c hl' hv' with ⟨c, d⟩ | ⟨c, d⟩ | ⟨c, d⟩ <;> first | (exfalso; omega) | skip
      have := d8 (g 34) (g 37) (f 34) (f 37) (by omega) (by omega) (by omega) (by omega) (by omega)
      exact ⟨this, fun h => by omega, fun h => by omega⟩
    · rcases gPos_c hl' hv' with ⟨c, d⟩ | ⟨c, d⟩ | ⟨c, d⟩ <;> first | (exfalso; omega) | skip
      have e3 := e1.2.1 (by omega)
      have e4 := e2.2.1 (by omega)
      obtain ⟨x1, x2⟩ := d64 (8 * g 34 + g 37) (8 * g 35 + g 38) (8 * f 34 + f 37) (8 * f 35 + f 38) (by omega) (by omega) (by omega) (by omega) (by omega)
      have y1 := d8 (g 34) (g 37) (f 34) (f 37) (by omega) (by omega) (by omega) (by omega) x1
      have y2 := d8 (g 35) (g 38) (f 35) (f 38) (by omega) (by omega) (by omega) (by omega) x2
      exact ⟨y1, fun h => y2, fun h => by omega⟩
    · rcases gPos_c hl' hv' with ⟨c, d⟩ | ⟨c, d⟩ | ⟨c, d⟩ <;> first | (exfalso; omega) | skip
      have e3 := e1.2.1 (by omega)
      have e4 := e2.2.1 (by omega)
      have e5 := e1.2.2 (by omega)
      have e6 := e2.2.2 (by omega)
      obtain ⟨x1, x2⟩ := d64 (64 * (8 * g 34 + g 37) + 8 * g 35 + g 38) (8 * g 36 + g 39) (64 * (8 * f 34 + f 37) + 8 * f 35 + f 38) (8 * f 36 + f 39) (by omega) (by omega) (by omega) (by omega) (by omega)
      obtain ⟨x3, x4⟩ := d64 (8 * g 34 + g 37) (8 * g 35 + g 38) (8 * f 34 + f 37) (8 * f 35 + f 38) (by omega) (by omega) (by omega) (by omega) (by omega)
      have y1 := d8 (g 34) (g 37) (f 34) (f 37) (by omega) (by omega) (by omega) (by omega) x3
      have y2 := d8 (g 35) (g 38) (f 35) (f 38) (by omega) (by omega) (by omega) (by omega) x4
      have y3 := d8 (g 36) (g 39) (f 36) (f 39) (by omega) (by omega) (by omega) (by omega) x2
      exact ⟨y1, fun h => y2, fun h => y3⟩
  obtain ⟨k0, k1, k2⟩ := all
  funext j
  by_cases hj : ∀ c, 0 ≤ c → c < f (18 + f 1) → j ≠ 34 + c ∧ j ≠ 37 + c
  · exact s j hj
  · have : (j = 34 ∨ j = 37) ∨ (1 < f (18 + f 1) ∧ (j = 35 ∨ j = 38)) ∨ (2 < f (18 + f 1) ∧ (j = 36 ∨ j = 39)) := by
      apply Classical.byContradiction
      intro hn
      exact hj fun c c0 c1 => by have hcc : c = 0 ∨ c = 1 ∨ c = 2 := by omega
                                 rcases hcc with rfl | rfl | rfl <;> omega
    rcases this with (rfl | rfl) | ⟨h1, rfl | rfl⟩ | ⟨h1, rfl | rfl⟩
    · exact k0.1
    · exact k0.2
    · exact (k1 h1).1
    · exact (k1 h1).2
    · exact (k2 h1).1
    · exact (k2 h1).2
/-- what is remembered is right: of a value function, one or two values a row -/
def VI (V : Int → (Int → Int) → Int) (s : Nat → Int → Int) (f : Int → Int) : Prop :=
  ∀ g, gSame f g → FL g → FS g → ∀ b, b = 0 ∨ b = 1 → s 141 (gPos g + 262144 * b) = -100000 ∨ s 141 (gPos g + 262144 * b) = V b g
theorem VI.same {V : Int → (Int → Int) → Int} {s : Nat → Int → Int} (hl : FL f) (hv : FS f) (h : VI V s f) (e : gSame f g) : VI V s g := fun g' hg => h g' (e.trans hl hv hg)
theorem VI.keep {V : Int → (Int → Int) → Int} {s s' : Nat → Int → Int} (h : VI V s f) (e : ∀ i, s' 141 i = s 141 i) : VI V s' f := fun g a b c d x => by rw [e]; exact h g a b c d x
theorem VI.set {V : Int → (Int → Int) → Int} {s : Nat → Int → Int} {b : Int} (hl : FL f) (hv : FS f) (h : VI V s f) (hb : b = 0 ∨ b = 1) : VI V (up s 141 (gPos f + 262144 * b) (V b f)) f := by
  intro g sg hl' hv' b' hb'
  have r := gPos_rng hl hv
  have r' := gPos_rng hl' hv'
  by_cases e : gPos g + 262144 * b' = gPos f + 262144 * b
  · have e1 : b' = b := by omega
    have e2 : g = f := gPos_inj hl hv hl' hv' sg (by omega)
    rw [e1, e2]
    exact Or.inr (up_eq _ _ _ _)
  · rw [up_ne (Or.inr e)]; exact h g sg hl' hv' b' hb'
end GM
/-- a call of the model that works on the remembered values alone -/
def VFr (s s' : Nat → Int → Int) : Prop := ∀ q i, q ≠ 141 → s' q i = s q i
theorem VFr.refl (s : Nat → Int → Int) : VFr s s := fun _ _ _ => rfl
theorem VFr.trans {s t u : Nat → Int → Int} (h : VFr s t) (g : VFr t u) : VFr s u := fun q i a => (g q i a).trans (h q i a)
theorem VFr.m {s t : Nat → Int → Int} {f : Int → Int} (h : VFr s t) (g : MW s f) : MW t f := ⟨⟨by rw [h _ _ (by decide)]; exact g.1.1, fun k a b => by rw [h _ _ (by decide), h _ _ (by decide)]; exact g.1.2 k a b⟩, g.2⟩
