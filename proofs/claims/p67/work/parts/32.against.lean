section AG
variable {f g : Int → Int}
/-- one burn tried against a greedy player; W: what comes behind it -/
def gMS (W : (Int → Int) → Int) (f : Int → Int) (z a : Int) : Int := if 1 < f (37 + z / 2) - f (34 + z / 2) + 1 then max a (gPt f z + W (gRem f z)) else a
def gM (W : (Int → Int) → Int) (f : Int → Int) (k : Nat) (z a : Int) : Int := foldF (gMS W f) k z a
noncomputable def gAS (W : (Int → Int) → Int) (f : Int → Int) : Int := if bI (gShort f) = 1 then 0 else gM W f (2 * f (18 + f 1)).toNat 0 (W f)
/-- the difference behind a greedy player's move -/
noncomputable def gBh : Nat → (Int → Int) → Int
  | 0, _ => 0
  | n + 1, f => if bI (gShort f) = 1 then 0 else gAS (gBh n) (gRem f (gGr f)) - gPt f (gGr f)
noncomputable def gBhf (f : Int → Int) : Int := gBh 21 f
/-- the greatest difference against a greedy player, after a pass or not -/
noncomputable def gAg (b : Int) (f : Int → Int) : Int := if bI (gShort f) = 1 then 0 else gM gBhf f (2 * f (18 + f 1)).toNat 0 (if b = 1 then 0 else gBhf f)
theorem gAg_o {b : Int} (h : gShort f) : gAg b f = 0 := if_pos (bI_t h)
theorem gAS_0 : gAS gBhf f = gAg 0 f := rfl
theorem gBn_z {z : Int} (z0 : 0 ≤ z) (z1 : z < 2 * f (18 + f 1)) (h : 1 < f (37 + z / 2) - f (34 + z / 2) + 1) : gBn f z := ⟨⟨z0, by omega⟩, by omega⟩
theorem gM_congr {W V : (Int → Int) → Int} (h : ∀ z, gBn f z → W (gRem f z) = V (gRem f z)) : ∀ (k : Nat) (z a : Int), 0 ≤ z → z + k ≤ 2 * f (18 + f 1) → gM W f k z a = gM V f k z a
  | 0, _, _, _, _ => rfl
  | k + 1, z, a, z0, zk => by
    have ih := fun b => gM_congr h k (z + 1) b (by omega) (by omega)
    unfold gM at ih ⊢
    rw [foldF_s, foldF_s]
    by_cases q : 1 < f (37 + z / 2) - f (34 + z / 2) + 1
    · rw [show gMS W f z a = gMS V f z a from by unfold gMS; rw [if_pos q, if_pos q, h z (gBn_z z0 (by omega) q)]]
      exact ih _
    · rw [show gMS W f z a = gMS V f z a from by unfold gMS; rw [if_neg q, if_neg q]]
      exact ih _
theorem gM_rng {W : (Int → Int) → Int} {n : Int} (hl : FL f) (hv : FS f) (h : ∀ z, gBn f z → -n ≤ W (gRem f z) ∧ W (gRem f z) ≤ n) : ∀ (k : Nat) (z a : Int), 0 ≤ z → z + k ≤ 2 * f (18 + f 1) → a ≤ n + 24 → a ≤ gM W f k z a ∧ gM W f k z a ≤ n + 24
  | 0, _, a, _, _, h1 => ⟨Int.le_refl a, h1⟩
  | k + 1, z, a, z0, zk, h1 => by
    have ih := fun b c => gM_rng hl hv h k (z + 1) b (by omega) (by omega) c
    unfold gM at ih ⊢
    rw [foldF_s]
    by_cases q : 1 < f (37 + z / 2) - f (34 + z / 2) + 1
    · have b := gBn_z z0 (by omega) q
      have := h z b
      have := gPt_rng hl hv b.ok
      have e : gMS W f z a = max a (gPt f z + W (gRem f z)) := if_pos q
      have := ih (gMS W f z a) (by rw [e]; omega)
      rw [e] at this ⊢
      omega
    · have e : gMS W f z a = a := if_neg q
      rw [e]
      exact ih a h1
/-- the greedy burn is a burn, unless all chains are short -/
theorem gGr_bn0 : ∀ (k : Nat) (z b : Int), (b = -1 ∨ gBn f b) → 0 ≤ z → z + k ≤ 2 * f (18 + f 1) →
    (foldF (gGs f) k z b = -1 ∨ gBn f (foldF (gGs f) k z b)) ∧ ((b ≠ -1 ∨ ∃ x, z ≤ x ∧ x < z + k ∧ 1 < f (37 + x / 2) - f (34 + x / 2) + 1) → foldF (gGs f) k z b ≠ -1)
  | 0, z, b, h, _, _ => ⟨h, fun e => by
      rcases e with e | ⟨x, a, c, _⟩
      · exact e
      · omega⟩
  | k + 1, z, b, h, z0, zk => by
    rw [foldF_s]
    by_cases q : 1 < f (37 + z / 2) - f (34 + z / 2) + 1
    · have bz := gBn_z z0 (by omega) q
      have e1 : gGs f z b = (if b = -1 ∨ gPt f b < gPt f z then z else b) := if_pos q
      have h2 : gGs f z b ≠ -1 ∧ gBn f (gGs f z b) := by
        rw [e1]
        by_cases r : b = -1 ∨ gPt f b < gPt f z
        · rw [if_pos r]; exact ⟨by omega, bz⟩
        · rw [if_neg r]
          rcases h with h | h
          · exact absurd (Or.inl h) r
          · exact ⟨fun x => r (Or.inl x), h⟩
      have ih := gGr_bn0 k (z + 1) (gGs f z b) (Or.inr h2.2) (by omega) (by omega)
      exact ⟨ih.1, fun _ => ih.2 (Or.inl h2.1)⟩
    · have e1 : gGs f z b = b := if_neg q
      rw [e1]
      have ih := gGr_bn0 k (z + 1) b h (by omega) (by omega)
      refine ⟨ih.1, fun e => ih.2 ?_⟩
      rcases e with e | ⟨x, a, c, d⟩
      · exact Or.inl e
      · refine Or.inr ⟨x, ?_, by omega, d⟩
        by_cases y : x = z
        · subst y; exact absurd d q
        · omega
theorem gGr_bn (hs : ¬ gShort f) : gBn f (gGr f) := by
  have ⟨c, c0, c1, c2⟩ : ∃ c, 0 ≤ c ∧ c < f (18 + f 1) ∧ ¬ f (37 + c) - f (34 + c) + 1 ≤ 1 := Classical.byContradiction fun h => hs fun c c0 c1 => Classical.byContradiction fun g => h ⟨c, c0, c1, g⟩
  have h := gGr_bn0 (f := f) (2 * f (18 + f 1)).toNat 0 (-1) (Or.inl rfl) (by omega) (by omega)
  have e : gGr f = foldF (gGs f) (2 * f (18 + f 1)).toNat 0 (-1) := rfl
  rw [e]
  rcases h.1 with k | k
  · exact absurd k (h.2 (Or.inr ⟨2 * c, by omega, by omega, by rw [show 2 * c / 2 = c by omega]; omega⟩))
  · exact k
theorem gBh_rng : ∀ (n : Nat) {f : Int → Int}, FL f → FS f → -(24 * (n : Int)) ≤ gBh n f ∧ gBh n f ≤ 24 * (n : Int)
  | 0, f, _, _ => by show -(24 * ((0 : Nat) : Int)) ≤ 0 ∧ (0 : Int) ≤ _; omega
  | n + 1, f, hl, hv => by
    by_cases hs : gShort f
    · rw [show gBh (n + 1) f = 0 from if_pos (bI_t hs)]; omega
    · rw [show gBh (n + 1) f = gAS (gBh n) (gRem f (gGr f)) - gPt f (gGr f) from if_neg (by rw [bI_f hs]; decide)]
      have b := gGr_bn hs
      have gl := gRem_FL hl hv b
      have gv := gRem_FS hl hv b
      have pt := gPt_rng hl hv b.ok
      have hc := gl.ch _ gv.cur.1 gv.cur.2
      have w := gBh_rng n gl gv
      have q : -(24 * (n : Int)) ≤ gAS (gBh n) (gRem f (gGr f)) ∧ gAS (gBh n) (gRem f (gGr f)) ≤ 24 * (n : Int) + 24 := by
        by_cases s2 : gShort (gRem f (gGr f))
        · rw [show gAS (gBh n) (gRem f (gGr f)) = 0 from if_pos (bI_t s2)]; omega
        · rw [show gAS (gBh n) (gRem f (gGr f)) = gM (gBh n) (gRem f (gGr f)) _ 0 (gBh n (gRem f (gGr f))) from if_neg (by rw [bI_f s2]; decide)]
          have := gM_rng (W := gBh n) gl gv (fun z b => gBh_rng n (gRem_FL gl gv b) (gRem_FS gl gv b)) (2 * gRem f (gGr f) (18 + gRem f (gGr f) 1)).toNat 0 (gBh n (gRem f (gGr f))) (by omega) (by omega) (by omega)
          omega
      omega
theorem gBhf_rng (hl : FL f) (hv : FS f) : -504 ≤ gBhf f ∧ gBhf f ≤ 504 := gBh_rng 21 hl hv
theorem gAS_congr {W V : (Int → Int) → Int} (hl : FL f) (hv : FS f) (h0 : W f = V f) (h : ∀ z, gBn f z → W (gRem f z) = V (gRem f z)) : gAS W f = gAS V f := by
  have hc := hl.ch _ hv.cur.1 hv.cur.2
  unfold gAS
  rw [h0, gM_congr h _ 0 _ (by omega) (by omega)]
theorem gBh_stable : ∀ (n : Nat) {f : Int → Int}, FL f → FS f → gBurns f ≤ n → gBh (n + 1) f = gBh n f
  | 0, f, hl, hv, h => if_pos (bI_t (gBurns_short hl hv h))
  | n + 1, f, hl, hv, h => by
    by_cases hs : gShort f
    · rw [show gBh (n + 2) f = 0 from if_pos (bI_t hs), show gBh (n + 1) f = 0 from if_pos (bI_t hs)]
    · rw [show gBh (n + 2) f = gAS (gBh (n + 1)) (gRem f (gGr f)) - gPt f (gGr f) from if_neg (by rw [bI_f hs]; decide), show gBh (n + 1) f = gAS (gBh n) (gRem f (gGr f)) - gPt f (gGr f) from if_neg (by rw [bI_f hs]; decide)]
      have b := gGr_bn hs
      have gl := gRem_FL hl hv b
      have gv := gRem_FS hl hv b
      have gc := gRem_cnt hl hv b
      rw [gAS_congr gl gv (gBh_stable n gl gv (by omega)) (fun z bz => gBh_stable n (gRem_FL gl gv bz) (gRem_FS gl gv bz) (by have := gRem_cnt gl gv bz; omega))]
theorem gBhf_o (hs : gShort f) : gBhf f = 0 := if_pos (bI_t hs)
theorem gBhf_n (hl : FL f) (hv : FS f) (hs : ¬ gShort f) : gBhf f = gAg 0 (gRem f (gGr f)) - gPt f (gGr f) := by
  have r := gBurns_rng hl hv
  rw [← gAS_0, show gBhf f = gBh 22 f from (gBh_stable 21 hl hv (by omega)).symm]
  exact if_neg (by rw [bI_f hs]; decide)
end AG
