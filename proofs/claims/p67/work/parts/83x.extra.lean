/-! rows of the games, as whole has them -/
section
theorem gMv_low {f : Int → Int} : ∀ (k : Nat) (c i : Int), 0 ≤ i → i < gMvn f k c 1 - 1 → 0 ≤ c → 2 * c ≤ gMv f k c i
  | 0, c, i, h0, h1, _ => by have : gMvn f 0 c 1 = 1 := rfl; omega
  | k + 1, c, i, h0, h1, hc => by
    by_cases g : 1 < f (37 + c) - f (34 + c) + 1
    · have eM : gMvn f (k + 1) c 1 = gMvn f k (c + 1) 1 + 2 := by rw [gMvn_s, if_pos g]; exact gMvn_2 k (c + 1) 1
      rw [eM] at h1
      by_cases gi : i < 2
      · rw [gMv_s2 g gi]; omega
      · rw [gMv_s1 g (by omega)]
        have := gMv_low (f := f) k (c + 1) (i - 2) (by omega) (by omega) (by omega)
        omega
    · have eM : gMvn f (k + 1) c 1 = gMvn f k (c + 1) 1 := by rw [gMvn_s, if_neg g]
      rw [eM] at h1
      rw [gMv_s3 g]
      have := gMv_low (f := f) k (c + 1) i h0 h1 (by omega)
      omega
end
section
theorem gMv_lt {f : Int → Int} : ∀ (k : Nat) (c i j : Int), 0 ≤ i → i < j → j < gMvn f k c 1 - 1 → 0 ≤ c → gMv f k c i < gMv f k c j ∧ 2 * c ≤ gMv f k c i
  | 0, c, i, j, h0, h1, h2, _ => by have : gMvn f 0 c 1 = 1 := rfl; omega
  | k + 1, c, i, j, h0, h1, h2, hc => by
    by_cases g : 1 < f (37 + c) - f (34 + c) + 1
    · have eM : gMvn f (k + 1) c 1 = gMvn f k (c + 1) 1 + 2 := by rw [gMvn_s, if_pos g]; exact gMvn_2 k (c + 1) 1
      rw [eM] at h2
      by_cases gi : i < 2
      · by_cases gj : j < 2
        · rw [gMv_s2 g gi, gMv_s2 g gj]; omega
        · rw [gMv_s2 g gi, gMv_s1 g (by omega)]
          have := gMv_low (f := f) k (c + 1) (j - 2) (by omega) (by omega) (by omega)
          omega
      · rw [gMv_s1 g (by omega), gMv_s1 g (by omega)]
        have := gMv_lt (f := f) k (c + 1) (i - 2) (j - 2) (by omega) (by omega) (by omega) (by omega)
        omega
    · have eM : gMvn f (k + 1) c 1 = gMvn f k (c + 1) 1 := by rw [gMvn_s, if_neg g]
      rw [eM] at h2
      rw [gMv_s3 g, gMv_s3 g]
      have := gMv_lt (f := f) k (c + 1) i j h0 h1 h2 (by omega)
      omega
end
section
theorem gMvAt_lt {f : Int → Int} (ho : ¬ gOver f) {i j : Int} (h0 : 0 ≤ i) (h1 : i < j) (h2 : j < gMoves f - 1) : gMvAt f i < gMvAt f j := by
  rw [gMoves_not ho] at h2
  exact (gMv_lt _ 0 i j h0 h1 h2 (by omega)).1
end
section
variable {f g : Int → Int} {z : Int}
theorem gWf_short (hl : FL f) (hv : FS f) (hs : gShort f) : gWf f = 0 := by
  have hc := hl.ch _ hv.cur.1 hv.cur.2
  rw [gWf_eq hl hv]; exact gB_short hs _ 0 0 (by omega) (by omega)
end
section
variable {f g : Int → Int} {z : Int}
theorem gB_max {W : (Int → Int) → Int} : ∀ (k : Nat) (c a b : Int), gB W f k c (max a b) = max a (gB W f k c b)
  | 0, c, a, b => rfl
  | k + 1, c, a, b => by
    unfold gB
    rw [foldF_s, foldF_s]
    by_cases g : 1 < f (37 + c) - f (34 + c) + 1
    · rw [if_pos g, if_pos g, Int.max_assoc]
      exact gB_max k (c + 1) a _
    · rw [if_neg g, if_neg g]
      exact gB_max k (c + 1) a b
end
section
variable {f : Int → Int} {z : Int}
theorem gWo_rng (hc : 1 ≤ f (18 + f 1) ∧ f (18 + f 1) ≤ 3) (ho : ¬ gOver f) : 0 ≤ gWo f ∧ gWo f < gMoves f := by
  have := gMoves_pos hc ho
  exact foldF_pick (fun i b => by unfold gWoS; split; exact Or.inl rfl; exact Or.inr rfl) _ _ _ _ (by omega) (by omega) (by omega) (by omega)
end
section
variable {f g : Int → Int}
theorem gAg_1 (h : ¬ gShort f) : gAg 1 f = gM gBhf f (2 * f (18 + f 1)).toNat 0 0 := if_neg (by rw [bI_f h]; decide)
end
section
variable {f g : Int → Int}
theorem gAg_0 (h : ¬ gShort f) : gAg 0 f = gM gBhf f (2 * f (18 + f 1)).toNat 0 (gBhf f) := if_neg (by rw [bI_f h]; decide)
end
section
variable {f g : Int → Int}
theorem gAg_rng (hl : FL f) (hv : FS f) {b : Int} : -528 ≤ gAg b f ∧ gAg b f ≤ 528 := by
  have hc := hl.ch _ hv.cur.1 hv.cur.2
  by_cases hs : gShort f
  · rw [gAg_o hs]; omega
  · have w := gBhf_rng hl hv
    rw [show gAg b f = gM gBhf f (2 * f (18 + f 1)).toNat 0 (if b = 1 then 0 else gBhf f) from if_neg (by rw [bI_f hs]; decide)]
    have a : -504 ≤ (if b = 1 then 0 else gBhf f) ∧ (if b = 1 then 0 else gBhf f) ≤ 504 := by split <;> omega
    have := gM_rng (W := gBhf) (n := 504) hl hv (fun z b => gBhf_rng (gRem_FL hl hv b) (gRem_FS hl hv b)) (2 * f (18 + f 1)).toNat 0 (if b = 1 then 0 else gBhf f) (by omega) (by omega) (by omega)
    omega
end
section
variable {g : Int → Int} {r c t z : Int}
theorem FP.there_new (h : FP g) (r0 : 0 ≤ r) (r1 : r < 4) (h0 : g 0 ≤ r) : ¬ gThere g r z := by
  rintro ⟨c, k, c0, c1, _⟩
  have := (h.2.1 r r0 r1).2.2 h0
  omega
end
section
variable {T : Int → Int} {n q e : Int} {g h : Int → Int} {s s' z : Nat → Int → Int} {r t : Int × Int × (Int → Int)} {ok ok2 : Prop}
theorem gPlay_ok {z : Int} (hv : FL g ∧ FS g) (hz : gLegal g z) (ho : ¬ gOver g) : FL (gPlay g z) ∧ FS (gPlay g z) := ⟨hv.1.lay (gPlay_lay hv.1 hv.2 hz), gPlay_FS hv.1 hv.2 hz ho⟩
end
section
variable {T : Int → Int} {n q e : Int} {g h : Int → Int} {s s' z : Nat → Int → Int} {r t : Int × Int × (Int → Int)} {ok ok2 : Prop}
theorem FD_0 (hp : FP g) (hl : FL g) : FD g 0 :=
  ⟨⟨by decide, by have := hl.rn; omega⟩, fun a p a0 a1 p0 p1 => by rw [hp.2.2.2.2 _ (by omega) (by omega)]; rw [if_neg (by omega)]; decide, fun p p0 p1 => by rw [hp.2.2.2.2 _ (by omega) (by omega)]; decide⟩
end
section
theorem iA0_ok : AI iA0 := by
  have hl : FL iM10 := iG_e ▸ iG_l
  have hp : FP iM10 := iG_e ▸ pG9
  exact ⟨⟨hl.lay gDeal_lay, gDeal_FS hl (FD_0 hp hl) (by decide)⟩, by show 0 ≤ (0 : Int) ∧ (0 : Int) ≤ 8; decide, fun k k0 (k1 : k < 0) => by omega, Or.inl rfl, fun (h : (0 : Int) = 1) => absurd h (by decide), ⟨by show (0 : Nat) ≤ 126; decide, fun z hz => absurd hz List.not_mem_nil⟩, by show 0 ≤ (0 : Int) ∧ (0 : Int) ≤ 500; decide, fun j j0 (j1 : j < 0) => by omega, by show 0 ≤ (0 : Int) ∧ (0 : Int) ≤ 6; decide, by show -1 ≤ (-1 : Int) ∧ (-1 : Int) ≤ 500; decide⟩
end
