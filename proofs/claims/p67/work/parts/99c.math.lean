/-! what the law's numbers are -/
section MA
variable {f g : Int → Int} {z : Int}
theorem gWf_ge (hl : FL f) (hv : FS f) (b : gBn f z) : gPt f z - gWf (gRem f z) ≤ gWf f := by
  have hc := hl.ch _ hv.cur.1 hv.cur.2
  rw [gWf_eq hl hv]
  have b1 := b.1
  exact gB_ge _ 0 0 (Int.le_refl 0) (by omega) z b (by omega) (by omega)
theorem gM_ge {W : (Int → Int) → Int} : ∀ (k : Nat) (z a : Int), 0 ≤ z → z + k ≤ 2 * f (18 + f 1) → a ≤ gM W f k z a ∧ ∀ y, gBn f y → z ≤ y → y < z + k → gPt f y + W (gRem f y) ≤ gM W f k z a
  | 0, _, a, _, _ => ⟨Int.le_refl a, fun y _ _ _ => by omega⟩
  | k + 1, z, a, z0, zk => by
    have ih := fun b => gM_ge (W := W) k (z + 1) b (by omega) (by omega)
    unfold gM at ih ⊢
    rw [foldF_s]
    obtain ⟨i1, i2⟩ := ih (gMS W f z a)
    have ha : a ≤ gMS W f z a := by unfold gMS; split <;> omega
    refine ⟨Int.le_trans ha i1, fun y hy h0 h1 => ?_⟩
    by_cases q : y = z
    · subst q
      have : gPt f y + W (gRem f y) ≤ gMS W f y a := by unfold gMS; rw [if_pos (by have := hy.2; omega)]; omega
      omega
    · exact i2 y hy (by omega) (by omega)
/-- against a greedy player one does no worse -/
theorem gAg_ge : ∀ (n : Nat) {f : Int → Int}, FL f → FS f → gBurns f ≤ n → -gWf f ≤ gBhf f ∧ gWf f ≤ gAg 0 f ∧ gWf f ≤ gAg 1 f
  | n, f, hl, hv, hn => by
    have hc := hl.ch _ hv.cur.1 hv.cur.2
    have hr := gBurns_rng hl hv
    have w0 := gWf_rng hl hv
    by_cases hs : gShort f
    · rw [gBhf_o hs, gAg_o hs, gAg_o hs, gWf_short hl hv hs]; omega
    · have bg := gGr_bn hs
      have c1 := (gRem_cnt hl hv bg).2
      have r1 := gBurns_rng (gRem_FL hl hv bg) (gRem_FS hl hv bg)
      match n, hn with
      | 0, hn => exact absurd (gBurns_short hl hv hn) hs
      | n + 1, hn =>
        have ih := fun (y : Int) (b : gBn f y) => gAg_ge n (gRem_FL hl hv b) (gRem_FS hl hv b) (by have := (gRem_cnt hl hv b).2; omega)
        have hA : -gWf f ≤ gBhf f := by
          rw [gBhf_n hl hv hs]
          have := (ih _ bg).2.1
          have := gWf_ge hl hv bg
          omega
        have hB : ∀ a : Int, (gWf f = 0 → 0 ≤ a) → gWf f ≤ gM gBhf f (2 * f (18 + f 1)).toNat 0 a := by
          intro a ha
          obtain ⟨m1, m2⟩ := gM_ge (f := f) (W := gBhf) (2 * f (18 + f 1)).toNat 0 a (Int.le_refl 0) (by omega)
          rcases gB_pick (f := f) (W := gWf) (f (18 + f 1)).toNat 0 0 (Int.le_refl 0) (by omega) with h | ⟨y, hy, h⟩
          · rw [← gWf_eq hl hv] at h
            have := ha h
            omega
          · rw [← gWf_eq hl hv] at h
            have h1 := (ih y hy).1
            have b1 := hy.1
            have := m2 y hy (by omega) (by omega)
            omega
        refine ⟨hA, ?_, ?_⟩
        · rw [gAg_0 hs]; exact hB _ (fun h => by omega)
        · rw [gAg_1 hs]; exact hB _ (fun h => by omega)
theorem gPlay_eqv6 (hl : FL f) (hv : FS f) : gEqv f (gPlay f 6) := by
  have hz : gLegal f 6 := Or.inl rfl
  have hc := hl.ch _ hv.cur.1 hv.cur.2
  have h1 := hv.cur
  have hrn := hl.rn
  refine ⟨gPlay_1 hl hv hz, gPlay_o hl hv hz (by omega), fun j a b => gPlay_o hl hv hz (by omega), fun c c0 c1 => Or.inl ⟨?_, ?_⟩⟩
  · rw [gPlay_lo hl hv hz c0 (by omega), if_neg (fun h => h.2.1 rfl)]
  · rw [gPlay_hi hl hv hz c0 (by omega), if_neg (fun h => h.2.1 rfl)]
theorem gPlay_eqvB (hl : FL f) (hv : FS f) (b : gBn f z) : gEqv (gRem f z) (gPlay f z) := by
  have hc := hl.ch _ hv.cur.1 hv.cur.2
  have h6 := (gE_rng hc b).2.2
  have b0 := b.1
  have hz : gLegal f z := Or.inr ⟨b0.1, b0.2, b.2⟩
  have h1 := hv.cur
  have hrn := hl.rn
  have e1 : gRem f z 1 = f 1 := gRem_o hc b (by omega)
  have eC : gRem f z (18 + f 1) = f (18 + f 1) := gRem_o hc b (by omega)
  unfold gEqv
  rw [e1, eC]
  refine ⟨gPlay_1 hl hv hz, gPlay_o hl hv hz (by omega), fun j a b' => by rw [gPlay_o hl hv hz (by omega), gRem_o hc b (by omega)], fun c c0 c1 => Or.inl ⟨?_, ?_⟩⟩
  · rw [gPlay_lo hl hv hz c0 (by omega), gRem_lo (f := f) ⟨b0.1, h6⟩ c0 (by omega)]
    by_cases q : c = z / 2 ∧ z % 2 = 0
    · rw [if_pos q, if_pos ⟨q.1, by omega, q.2⟩]
    · rw [if_neg q, if_neg (fun h => q ⟨h.1, h.2.2⟩)]
  · rw [gPlay_hi hl hv hz c0 (by omega), gRem_hi (f := f) ⟨b0.1, h6⟩ c0 (by omega)]
    by_cases q : c = z / 2 ∧ z % 2 = 1
    · rw [if_pos q, if_pos ⟨q.1, by omega, q.2⟩]
    · rw [if_neg q, if_neg (fun h => q ⟨h.1, h.2.2⟩)]
/-- a move's value is its points less what the other then has -/
theorem gVal_play (hl : FL f) (hv : FS f) (ho : ¬ gOver f) (hz : gLegal f z) : gVal f z = gPt f z - gNow (gPlay f z) := by
  have hs : ¬ gShort f := fun h => ho (Or.inr h)
  have l2 := (gPlay_ok ⟨hl, hv⟩ hz ho)
  have f4 : f 4 ≠ 2 := fun h => ho (Or.inl h)
  have r4 := hv.2.2.2.1
  by_cases h6 : z = 6
  · subst h6
    rw [gPt_6]
    have e4 : gPlay f 6 4 = f 4 + 1 := by rw [gPlay_4, if_pos rfl]
    have eW := gWf_eqv hl hv (gPlay_eqv6 hl hv)
    by_cases h4 : f 4 = 1
    · rw [gVal_p1 h4, gNow_o (Or.inl (by rw [e4]; omega))]; rfl
    · rw [gVal_p0 h4, gNow_n, eW]
      · omega
      · rintro (h | h)
        · omega
        · exact hs ((gShort_eqv (gPlay_eqv6 hl hv)).mp h)
  · have b := hz.bn h6
    have lr := gRem_FL hl hv b
    have sr := gRem_FS hl hv b
    have eW := gWf_eqv lr sr (gPlay_eqvB hl hv b)
    rw [gVal_b h6]
    have e4 : gPlay f z 4 = 0 := by rw [gPlay_4, if_neg h6]
    by_cases q : gShort (gPlay f z)
    · rw [gNow_o (Or.inr q), ← eW, gWf_short l2.1 l2.2 q]
    · rw [gNow_n (by rintro (h | h); omega; exact q h), eW]
theorem gRun_snoc : ∀ (k : Nat) {f : Int → Int}, ¬ gOver (gRun k f) → gRun (k + 1) f = gPlay (gRun k f) (gMvAt (gRun k f) (gFo (gRun k f)))
  | 0, f, h => gRun_n (k := 0) (f := f) h
  | k + 1, f, h => by
    have ho : ¬ gOver f := fun o => h (by rw [gRun_o o]; exact o)
    rw [gRun_n ho] at h ⊢
    rw [gRun_n ho]
    exact gRun_snoc k h
/-- a step of the line -/
theorem line_step (hl : FL f) (hv : FS f) {i : Nat} (ho : ¬ gOver (gRun i f)) : gNow (gRun i f) = gPt (gRun i f) (gMvAt (gRun i f) (gFo (gRun i f))) - gNow (gRun (i + 1) f) := by
  obtain ⟨l1, s1, -, -⟩ := gRun_lv i hl hv
  rw [gRun_snoc i ho, gNow_n ho, ← gFo_val l1 s1 ho]
  exact gVal_play l1 s1 ho (gFo_legal l1 s1 ho)
/-- the first of the best moves -/
theorem gFo_first (f : Int → Int) : ∀ (k : Nat) (i b : Int), 0 ≤ b → b < i → (∀ j, 0 ≤ j → j < b → gVal f (gMvAt f j) < gVal f (gMvAt f b)) → (∀ j, b < j → j < i → gVal f (gMvAt f j) ≤ gVal f (gMvAt f b)) →
    ∀ j, 0 ≤ j → j < foldF (gFoS f) k i b → gVal f (gMvAt f j) < gVal f (gMvAt f (foldF (gFoS f) k i b))
  | 0, i, b, _, _, h1, _ => h1
  | k + 1, i, b, h0, hb, h1, h2 => by
    rw [foldF_s]
    unfold gFoS
    by_cases q : gVal f (gMvAt f b) < gVal f (gMvAt f i)
    · rw [if_pos q]
      refine gFo_first f k (i + 1) i (by omega) (by omega) (fun j j0 j1 => ?_) (fun j j0 j1 => by omega)
      rcases Int.lt_trichotomy j b with h | h | h
      · have := h1 j j0 h; omega
      · subst h; exact q
      · have := h2 j h j1; omega
    · rw [if_neg q]
      refine gFo_first f k (i + 1) b h0 (by omega) h1 (fun j j0 j1 => ?_)
      by_cases e : j = i
      · subst e; omega
      · exact h2 j j0 (by omega)
theorem gFo_is (hl : FL f) (hv : FS f) (ho : ¬ gOver f) {x : Int} (x0 : 0 ≤ x) (x1 : x < gMoves f) (hx : gVal f (gMvAt f x) = gWf f) (hm : ∀ j, 0 ≤ j → j < x → gVal f (gMvAt f j) ≠ gWf f) : gFo f = x := by
  have hc := hl.ch _ hv.cur.1 hv.cur.2
  have r := gFo_rng hc ho
  have v := gFo_val hl hv ho
  have fst := gFo_first f (gMoves f - 1).toNat 1 0 (Int.le_refl 0) (by decide) (fun j j0 j1 => by omega) (fun j j0 j1 => by omega)
  rcases Int.lt_trichotomy (gFo f) x with h | h | h
  · exact absurd v (hm _ r.1 h)
  · exact h
  · have e := fst x x0 h
    have : gVal f (gMvAt f x) < gVal f (gMvAt f (gFo f)) := e
    omega
/-- the moves in their order: from chain c on, the next is number i -/
def EN (f : Int → Int) (n c i : Int) : Prop := (∀ x, 0 ≤ x → gMvAt f (i + x) = gMv f (n - c).toNat c x) ∧ gMoves f - i = gMvn f (n - c).toNat c 1
theorem gMvn_ge {f : Int → Int} : ∀ (k : Nat) (c a : Int), a ≤ gMvn f k c a
  | 0, _, a => Int.le_refl a
  | k + 1, c, a => by
    rw [gMvn_s]
    refine Int.le_trans ?_ (gMvn_ge k (c + 1) _)
    split <;> omega
theorem EN.zero (ho : ¬ gOver f) : EN f (f (18 + f 1)) 0 0 := ⟨fun x _ => by rw [Int.zero_add, Int.sub_zero]; rfl, by rw [gMoves_not ho, Int.sub_zero, Int.sub_zero]⟩
theorem EN.le {n c i : Int} (h : EN f n c i) : i < gMoves f := by have := gMvn_ge (f := f) (n - c).toNat c 1; have := h.2; omega
theorem EN.short {n c i : Int} (h : EN f n c i) (hc : c < n) (hs : ¬ 1 < f (37 + c) - f (34 + c) + 1) : EN f n (c + 1) i := by
  obtain ⟨h1, h2⟩ := h
  rw [show (n - c).toNat = (n - (c + 1)).toNat + 1 by omega] at h1 h2
  refine ⟨fun x x0 => by rw [h1 x x0, gMv_s3 hs], ?_⟩
  rw [h2, gMvn_s, if_neg hs]
theorem EN.long {n c i : Int} (h : EN f n c i) (hc : c < n) (hs : 1 < f (37 + c) - f (34 + c) + 1) : gMvAt f i = 2 * c ∧ gMvAt f (i + 1) = 2 * c + 1 ∧ EN f n (c + 1) (i + 2) := by
  obtain ⟨h1, h2⟩ := h
  rw [show (n - c).toNat = (n - (c + 1)).toNat + 1 by omega] at h1 h2
  refine ⟨?_, ?_, fun x x0 => ?_, ?_⟩
  · have := h1 0 (Int.le_refl 0); rw [Int.add_zero, gMv_s2 hs (by decide)] at this; omega
  · rw [h1 1 (by decide), gMv_s2 hs (by decide)]
  · rw [show i + 2 + x = i + (x + 2) by omega, h1 (x + 2) (by omega), gMv_s1 hs (by omega), show x + 2 - 2 = x by omega]
  · rw [gMvn_s, if_pos hs, gMvn_2] at h2; omega
theorem EN.done {n i : Int} (h : EN f n n i) : gMvAt f i = 6 ∧ gMoves f = i + 1 := by
  obtain ⟨h1, h2⟩ := h
  rw [Int.sub_self] at h1 h2
  have a := h1 0 (Int.le_refl 0)
  rw [Int.add_zero] at a
  exact ⟨a, by have : gMvn f (0 : Int).toNat n 1 = 1 := rfl; omega⟩
theorem foldF_sn {α : Type} {st : Int → α → α} (k : Nat) (i : Int) (a : α) : foldF st (k + 1) i a = st (i + k) (foldF st k i a) := foldF_app k 1 i a
/-- what is counted over the moves before number i -/
def AC (f : Int → Int) (i ct wo mn fo : Int) : Prop :=
  0 ≤ i ∧ (ct = foldF (gManyS f) i.toNat 0 0 ∧ 0 ≤ ct ∧ ct ≤ i) ∧
  ((i = 0 ∧ wo = -1 ∧ mn = 100000) ∨ (1 ≤ i ∧ wo = foldF (gWoS f) (i - 1).toNat 1 0 ∧ mn = gVal f (gMvAt f wo))) ∧ (-1 ≤ wo ∧ wo < i + 1) ∧ (-100 ≤ mn ∧ mn ≤ 100000) ∧
  ((fo = -1 ∧ ∀ j, 0 ≤ j → j < i → gVal f (gMvAt f j) ≠ gWf f) ∨ (0 ≤ fo ∧ fo < i ∧ gVal f (gMvAt f fo) = gWf f ∧ ∀ j, 0 ≤ j → j < fo → gVal f (gMvAt f j) ≠ gWf f))
theorem AC.zero : AC f 0 0 (-1) 100000 (-1) := ⟨Int.le_refl 0, ⟨rfl, Int.le_refl 0, Int.le_refl 0⟩, Or.inl ⟨rfl, rfl, rfl⟩, by decide, by decide, Or.inl ⟨rfl, fun j a b => by omega⟩⟩
theorem AC.step (hl : FL f) (hv : FS f) (ho : ¬ gOver f) {i ct wo mn fo v : Int} (h : AC f i ct wo mn fo) (hv2 : gVal f (gMvAt f i) = v) : AC f (i + 1) (if v = gWf f then ct + 1 else ct) (if v < mn then i else wo) (min mn v) (if v = gWf f then (if fo < 0 then i else fo) else fo) := by
  obtain ⟨i0, ⟨c1, c2, c3⟩, w1, w2, m1, f1⟩ := h
  have hc := hl.ch _ hv.cur.1 hv.cur.2
  have rv := gVal_rng hl hv (gMvAt_legal hc i0)
  rw [hv2] at rv
  refine ⟨by omega, ⟨?_, by split <;> omega, by split <;> omega⟩, Or.inr ⟨by omega, ?_, ?_⟩, by split <;> omega, by omega, ?_⟩
  · rw [show (i + 1).toNat = i.toNat + 1 by omega, foldF_sn, ← c1, show (0 : Int) + (i.toNat : Int) = i by omega]
    unfold gManyS
    rw [hv2, gNow_n ho]
  · rcases w1 with ⟨rfl, a1, a2⟩ | ⟨a0, a1, a2⟩
    · rw [if_pos (by omega)]; rfl
    · rw [show (i + 1 - 1).toNat = (i - 1).toNat + 1 by omega, foldF_sn, ← a1, show (1 : Int) + ((i - 1).toNat : Int) = i by omega]
      unfold gWoS
      rw [hv2, ← a2]
  · rcases w1 with ⟨rfl, a1, a2⟩ | ⟨a0, a1, a2⟩
    · rw [if_pos (by omega), hv2]; omega
    · by_cases q : v < mn
      · rw [if_pos q, hv2]; omega
      · rw [if_neg q, ← a2]; omega
  · rcases f1 with ⟨a1, a2⟩ | ⟨a1, a2, a3, a4⟩
    · by_cases q : v = gWf f
      · rw [if_pos q, if_pos (by omega)]
        exact Or.inr ⟨i0, by omega, hv2.trans q, a2⟩
      · rw [if_neg q]
        refine Or.inl ⟨a1, fun j j0 j1 => ?_⟩
        by_cases e : j = i
        · subst e; rw [hv2]; exact q
        · exact a2 j j0 (by omega)
    · have e : (if v = gWf f then (if fo < 0 then i else fo) else fo) = fo := by
        by_cases q : v = gWf f
        · rw [if_pos q, if_neg (by omega)]
        · rw [if_neg q]
      rw [e]
      exact Or.inr ⟨a1, by omega, a3, a4⟩
theorem AC.done (hl : FL f) (hv : FS f) (ho : ¬ gOver f) {ct wo mn fo : Int} (h : AC f (gMoves f) ct wo mn fo) : ct = gMany f ∧ wo = gWo f ∧ fo = gFo f := by
  obtain ⟨i0, ⟨c1, c2, c3⟩, w1, w2, m1, f1⟩ := h
  have hc := hl.ch _ hv.cur.1 hv.cur.2
  have mp := gMoves_pos hc ho
  refine ⟨c1, ?_, ?_⟩
  · rcases w1 with ⟨a0, a1, a2⟩ | ⟨a0, a1, a2⟩
    · omega
    · exact a1
  · rcases f1 with ⟨a1, a2⟩ | ⟨a1, a2, a3, a4⟩
    · have r := gFo_rng hc ho
      exact absurd (gFo_val hl hv ho) (a2 _ r.1 r.2)
    · exact (gFo_is hl hv ho a1 a2 a3 a4).symm
end MA
