/-- the two ways to keep the greediest burn so far -/
def gRel (f : Int → Int) (n : Int) (u v b : Int) : Prop := (b = -1 ∧ u = -1 ∧ v = -1) ∨ (0 ≤ v ∧ v < n ∧ b = gMvAt f v ∧ u = gPt f b ∧ b ≠ 6)
def gGs (f : Int → Int) (z b : Int) : Int := if 1 < f (37 + z / 2) - f (34 + z / 2) + 1 then (if b = -1 ∨ gPt f b < gPt f z then z else b) else b
theorem gGs_step {f : Int → Int} (hl : FL f) (hv : FS f) {n u v b z : Int} (hn : 0 ≤ n) (hm : n < gMoves f) (h : gRel f n u v b) (hz : z = gMvAt f n) (h6 : z ≠ 6) :
    gRel f (n + 1) (gGp f n (u, v)).1 (gGp f n (u, v)).2 (if b = -1 ∨ gPt f b < gPt f z then z else b) := by
  have hc := hl.ch _ hv.cur.1 hv.cur.2
  have hk : gCode f n = z := (gCode_in ⟨hn, hm⟩).trans hz.symm
  have lz : gLegal f z := by rw [hz]; exact gMvAt_legal hc hn
  have pz := gPt_rng hl hv lz.ok
  unfold gGp
  rw [hk]
  rcases h with ⟨rfl, rfl, rfl⟩ | ⟨h1, h2, h3, h4, h5⟩
  · rw [if_pos (by show (-1 : Int) < _; omega), if_pos (Or.inl rfl)]
    exact Or.inr ⟨hn, by omega, hz, rfl, h6⟩
  · have lb : gLegal f b := by rw [h3]; exact gMvAt_legal hc h1
    have hb := gLegal_rng hc lb.ok
    by_cases g : gPt f b < gPt f z
    · rw [if_pos (by show u < _; omega), if_pos (Or.inr g)]
      exact Or.inr ⟨hn, by omega, hz, rfl, h6⟩
    · rw [if_neg (by show ¬ u < _; omega), if_neg (by rintro (e | e); omega; exact g e)]
      exact Or.inr ⟨h1, by omega, h3, h4, h5⟩
theorem greedy_rel {f : Int → Int} (hl : FL f) (hv : FS f) : ∀ (k : Nat) (c i u v b : Int), 0 ≤ c → c + k ≤ 3 → 0 ≤ i → i + gMvn f k c 1 = gMoves f → (∀ j, 0 ≤ j → gMvAt f (i + j) = gMv f k c j) → gRel f i u v b →
    gRel f (gMoves f - 1) (foldF (gGp f) (gMvn f k c 1 - 1).toNat i (u, v)).1 (foldF (gGp f) (gMvn f k c 1 - 1).toNat i (u, v)).2 (foldF (gGs f) (2 * k) (2 * c) b)
  | 0, c, i, u, v, b, _, _, hi, hg, _, hr => by
    have e : gMvn f 0 c 1 = 1 := rfl
    rw [e] at hg ⊢
    have : gMoves f - 1 = i := by omega
    rw [this]
    exact hr
  | k + 1, c, i, u, v, b, hc, hk, hi, hg, hm, hr => by
    have e2 : 2 * (k + 1) = 2 * k + 1 + 1 := by omega
    rw [e2, foldF_s, foldF_s]
    have z1 : 2 * c / 2 = c := by omega
    have z2 : (2 * c + 1) / 2 = c := by omega
    by_cases g : 1 < f (37 + c) - f (34 + c) + 1
    · have eM : gMvn f (k + 1) c 1 = gMvn f k (c + 1) 1 + 2 := by
        rw [gMvn_s, if_pos g]; exact gMvn_2 k (c + 1) 1
      have hM := (gMvn_rng (f := f) k (c + 1) 1).1
      rw [eM] at hg ⊢
      have eN : (gMvn f k (c + 1) 1 + 2 - 1).toNat = (gMvn f k (c + 1) 1 - 1).toNat + 1 + 1 := by omega
      rw [eN, foldF_s, foldF_s]
      have m0 : gMvAt f i = 2 * c := by have := hm 0 (by omega); rw [gMv_s2 g (by omega), Int.add_zero] at this; rw [this]; omega
      have m1 : gMvAt f (i + 1) = 2 * c + 1 := by have := hm 1 (by omega); rw [gMv_s2 g (by omega)] at this; exact this
      have s1 := gGs_step hl hv hi (by omega) hr m0.symm (by omega)
      have s2 := gGs_step hl hv (by omega) (by omega) s1 m1.symm (by omega)
      have t1 : gGs f (2 * c) b = (if b = -1 ∨ gPt f b < gPt f (2 * c) then 2 * c else b) := by unfold gGs; rw [z1, if_pos g]
      have t2 : ∀ b', gGs f (2 * c + 1) b' = (if b' = -1 ∨ gPt f b' < gPt f (2 * c + 1) then 2 * c + 1 else b') := fun b' => by unfold gGs; rw [z2, if_pos g]
      rw [t1, t2]
      have := greedy_rel hl hv k (c + 1) (i + 1 + 1) _ _ _ (by omega) (by omega) (by omega) (by omega) (fun j hj => by
        have := hm (j + 2) (by omega)
        rw [gMv_s1 g (by omega)] at this
        rw [show i + 1 + 1 + j = i + (j + 2) by omega, this, show j + 2 - 2 = j by omega]) s2
      rw [show 2 * (c + 1) = 2 * c + 1 + 1 by omega] at this
      exact this
    · have eM : gMvn f (k + 1) c 1 = gMvn f k (c + 1) 1 := by rw [gMvn_s, if_neg g]
      rw [eM] at hg ⊢
      have t1 : gGs f (2 * c) b = b := by unfold gGs; rw [z1, if_neg g]
      have t2 : gGs f (2 * c + 1) b = b := by unfold gGs; rw [z2, if_neg g]
      rw [t1, t2]
      have := greedy_rel hl hv k (c + 1) i u v b (by omega) (by omega) hi hg (fun j hj => by rw [hm j hj, gMv_s3 g]) hr
      rw [show 2 * (c + 1) = 2 * c + 1 + 1 by omega] at this
      exact this
theorem gMvn_1 {f : Int → Int} : ∀ (k : Nat) (c : Int), (∃ x, c ≤ x ∧ x < c + k ∧ 1 < f (37 + x) - f (34 + x) + 1) → 3 ≤ gMvn f k c 1
  | 0, c, h => by obtain ⟨x, h1, h2, -⟩ := h; omega
  | k + 1, c, h => by
    rw [gMvn_s]
    by_cases g : 1 < f (37 + c) - f (34 + c) + 1
    · rw [if_pos g]; have := (gMvn_rng (f := f) k (c + 1) (1 + 2)).1; omega
    · rw [if_neg g]
      obtain ⟨x, h1, h2, h3⟩ := h
      exact gMvn_1 k (c + 1) ⟨x, by by_cases e : x = c; subst e; exact absurd h3 g; omega, by omega, h3⟩
theorem gGp_pos {f : Int → Int} (hl : FL f) (hv : FS f) : ∀ (k : Nat) (i u v : Int), 0 ≤ i → i + k ≤ gMoves f → (0 ≤ v ∨ 1 ≤ k ∧ u = -1) → 0 ≤ (foldF (gGp f) k i (u, v)).2
  | 0, i, u, v, _, _, h => by rcases h with h | h; exact h; omega
  | k + 1, i, u, v, hi, hk, h => by
    have hc := hl.ch _ hv.cur.1 hv.cur.2
    rw [foldF_s]
    have lz : gLegal f (gCode f i) := by rw [gCode_in ⟨hi, by omega⟩]; exact gMvAt_legal hc hi
    have pz := gPt_rng hl hv lz.ok
    unfold gGp
    by_cases g : u < gPt f (gCode f i)
    · rw [if_pos (show (u, v).1 < _ from g)]
      exact gGp_pos hl hv k (i + 1) _ _ (by omega) (by omega) (Or.inl hi)
    · rw [if_neg (show ¬ (u, v).1 < _ from g)]
      exact gGp_pos hl hv k (i + 1) _ _ (by omega) (by omega) (Or.inl (by rcases h with h | h; exact h; omega))
/-- the greedy player's move, by either count -/
theorem greedy_eq {f : Int → Int} (hl : FL f) (hv : FS f) (ho : ¬ gOver f) : (0 ≤ gGi f ∧ gGi f < gMoves f - 1) ∧ gMvAt f (gGi f) = gGr f ∧ gGr f ≠ 6 ∧ gLegal f (gGr f) := by
  have hc := hl.ch _ hv.cur.1 hv.cur.2
  have hM := gMoves_not ho
  have h3 : 3 ≤ gMvn f (f (18 + f 1)).toNat 0 1 := by
    apply gMvn_1
    apply Classical.byContradiction
    intro hn
    exact ho (Or.inr fun c c0 c1 => Classical.byContradiction fun g => hn ⟨c, by omega, by omega, by omega⟩)
  have key := greedy_rel hl hv (f (18 + f 1)).toNat 0 0 (-1) (-1) (-1) (by omega) (by omega) (by omega) (by omega) (fun j hj => by rw [Int.zero_add]; rfl) (Or.inl ⟨rfl, rfl, rfl⟩)
  have e1 : (foldF (gGp f) (gMvn f (f (18 + f 1)).toNat 0 1 - 1).toNat 0 (-1, -1)).2 = gGi f := by unfold gGi; rw [hM]
  have e2 : foldF (gGs f) (2 * (f (18 + f 1)).toNat) (2 * 0) (-1) = gGr f := by
    unfold gGr
    rw [show (2 * f (18 + f 1)).toNat = 2 * (f (18 + f 1)).toNat by omega]
    rfl
  rw [e1, e2] at key
  rcases key with ⟨k1, k2, k3⟩ | ⟨k1, k2, k3, k4, k5⟩
  · exfalso
    have := gGp_pos hl hv (gMoves f - 1).toNat 0 (-1) (-1) (by omega) (by omega) (Or.inr ⟨by omega, rfl⟩)
    have e3 : (foldF (gGp f) (gMoves f - 1).toNat 0 (-1, -1)).2 = gGi f := rfl
    omega
  · exact ⟨⟨k1, k2⟩, k3.symm, k5, by rw [k3]; exact gMvAt_legal hc k1⟩
theorem gGi_over {f : Int → Int} (ho : gOver f) : gGi f = -1 := by unfold gGi; rw [gMoves_over ho]; rfl
