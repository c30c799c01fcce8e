section PV
variable {T : Int → Int} {n r c : Int}
theorem pTE_0 {g : Int → Int} {t q : Int} (h : pTE T n g r c t q = 0) : pD T n q 2 ∧ pT1 T n q ≤ 6 ∧ pT2 T n q ≤ 6 ∧ t < 8 := by
  unfold pTE at h
  by_cases a : pD T n q 2
  · rw [pIf_f (not_not_intro a)] at h
    split at h
    · omega
    · split at h
      · omega
      · by_cases b : gThere g r (pTi T n q)
        · rw [pIf_t b] at h; omega
        · rw [pIf_f b] at h
          split at h
          · exact ⟨a, by omega, by omega, by assumption⟩
          · omega
  · rw [pIf_t a] at h; omega
theorem pTE_rng {g : Int → Int} {t q : Int} : 0 ≤ pTE T n g r c t q ∧ pTE T n g r c t q ≤ 5 := by
  unfold pTE
  by_cases a : pD T n q 2
  · rw [pIf_f (not_not_intro a)]
    split
    · omega
    · split
      · omega
      · by_cases b : gThere g r (pTi T n q)
        · rw [pIf_t b]; omega
        · rw [pIf_f b]
          split <;> omega
  · rw [pIf_t a]; omega
/-- a tile as it is read -/
theorem pTi_rng {q : Int} (hq : q ≤ n) (h : pD T n q 2) (h1 : pT1 T n q ≤ 6) (h2 : pT2 T n q ≤ 6) : 0 ≤ pTi T n q ∧ pTi T n q / 10 ≤ 6 ∧ pTi T n q % 10 ≤ 6 ∧ pTi T n q / 10 = pT1 T n q ∧ pTi T n q % 10 = pT2 T n q := by
  have a := pT1_rng (T := T) hq h.1
  have b := pT2_rng h
  unfold pTi
  omega
noncomputable def pC2 (T : Int → Int) (n r c q : Int) (g : Int → Int) : Int × Int × (Int → Int) := if pK T n q = 2 then pTs T n r c 9 0 q g else (1, q, g)
theorem pCh_2 {q : Int} {g : Int → Int} : pCh T n r q g = pC2 T n r (g (18 + r)) q (gOCh g r) := rfl
/-- a chain leaves the rest alone -/
def gCh1 (g h : Int → Int) (r c : Int) : Prop := FP h ∧ h 0 = g 0 ∧ (∀ j, 18 ≤ j → j < 22 → h j = g j) ∧ ∀ j, 22 ≤ j → j < 34 → j ≠ 22 + 3 * r + c → h j = g j
theorem pTs_inv : ∀ (k : Nat) (t q : Int) (g : Int → Int), q ≤ n → FP g → 0 ≤ r → r < g 0 → 0 ≤ c → c < g (18 + r) → t = g (22 + 3 * r + c) → (pTs T n r c k t q g).1 = 0 →
    gCh1 g (pTs T n r c k t q g).2.2 r c ∧ t ≤ (pTs T n r c k t q g).2.2 (22 + 3 * r + c) ∧ q ≤ (pTs T n r c k t q g).2.1 ∧ (pTs T n r c k t q g).2.1 ≤ n
  | 0, t, q, g, hq, hp, r0, r1, c0, c1, ht, _ => ⟨⟨hp, rfl, fun _ _ _ => rfl, fun _ _ _ _ => rfl⟩, Int.le_of_eq ht, Int.le_refl _, hq⟩
  | k + 1, t, q, g, hq, hp, r0, r1, c0, c1, ht, he => by
    unfold pTs at he ⊢
    by_cases a : pK T n q = 2
    · rw [if_pos a] at he ⊢
      by_cases b : pTE T n g r c t q = 0
      · rw [if_neg (not_not_intro b)] at he ⊢
        obtain ⟨b1, b2, b3, b4⟩ := pTE_0 b
        have z := pTi_rng hq b1 b2 b3
        have p2 := hp.add (z := pTi T n q) r0 r1 c0 c1 ht b4 ⟨z.1, z.2.1, z.2.2.1⟩
        have x2 := hp.2.1 r r0 (by have := hp.1; omega)
        have x3 := hp.2.2.1 r c r0 (by have := hp.1; omega) c0 (by omega)
        have lo : ∀ j, j < 34 → j ≠ 22 + 3 * r + c → gAdd g r c t (pTi T n q) j = g j := fun j hj h2 => gAdd_o h2 (by unfold gTp; omega)
        have nl := pN_le (T := T) hq
        obtain ⟨⟨i1, i2, i3, i4⟩, i5, i6, i7⟩ := pTs_inv k (t + 1) (pN T n q) _ nl.2 p2 r0 (by rw [lo 0 (by omega) (by omega)]; exact r1) c0 (by rw [lo (18 + r) (by have := hp.1; omega) (by have := hp.1; omega)]; exact c1) gAdd_l.symm he
        exact ⟨⟨i1, i2.trans (lo 0 (by omega) (by omega)), fun j j0 j1 => (i3 j j0 j1).trans (lo j (by omega) (by omega)), fun j j0 j1 j2 => (i4 j j0 j1 j2).trans (lo j (by omega) j2)⟩, by omega, by omega, i7⟩
      · rw [if_pos b] at he
        exact absurd he b
    · rw [if_neg a]
      exact ⟨⟨hp, rfl, fun _ _ _ => rfl, fun _ _ _ _ => rfl⟩, Int.le_of_eq ht, Int.le_refl _, hq⟩
theorem pC2_inv {q : Int} {g : Int → Int} (hq : q ≤ n) (hp : FP g) (r0 : 0 ≤ r) (r1 : r < g 0) (c0 : 0 ≤ c) (c1 : c < g (18 + r)) (ht : g (22 + 3 * r + c) = 0) (he : (pC2 T n r c q g).1 = 0) :
    gCh1 g (pC2 T n r c q g).2.2 r c ∧ 1 ≤ (pC2 T n r c q g).2.2 (22 + 3 * r + c) ∧ q < (pC2 T n r c q g).2.1 ∧ (pC2 T n r c q g).2.1 ≤ n := by
  unfold pC2 at he ⊢
  by_cases a : pK T n q = 2
  · rw [if_pos a] at he ⊢
    unfold pTs at he ⊢
    rw [if_pos a] at he ⊢
    by_cases b : pTE T n g r c 0 q = 0
    · rw [if_neg (not_not_intro b)] at he ⊢
      obtain ⟨b1, b2, b3, b4⟩ := pTE_0 b
      have z := pTi_rng hq b1 b2 b3
      have p2 := hp.add (z := pTi T n q) r0 r1 c0 c1 ht.symm b4 ⟨z.1, z.2.1, z.2.2.1⟩
      have x2 := hp.2.1 r r0 (by have := hp.1; omega)
      have lo : ∀ j, j < 34 → j ≠ 22 + 3 * r + c → gAdd g r c 0 (pTi T n q) j = g j := fun j hj h2 => gAdd_o h2 (by unfold gTp; omega)
      have nl := pN_le (T := T) hq
      have ng := pN_gt (T := T) hq (by omega)
      have sl := pS_le (T := T) hq
      obtain ⟨⟨i1, i2, i3, i4⟩, i5, i6, i7⟩ := pTs_inv 8 (0 + 1) (pN T n q) _ nl.2 p2 r0 (by rw [lo 0 (by omega) (by omega)]; exact r1) c0 (by rw [lo (18 + r) (by have := hp.1; omega) (by have := hp.1; omega)]; exact c1) gAdd_l.symm he
      exact ⟨⟨i1, i2.trans (lo 0 (by omega) (by omega)), fun j j0 j1 => (i3 j j0 j1).trans (lo j (by omega) (by omega)), fun j j0 j1 j2 => (i4 j j0 j1 j2).trans (lo j (by omega) j2)⟩, Int.le_trans (by decide) i5, Int.lt_of_lt_of_le (show q < pN T n q by omega) i6, i7⟩
    · rw [if_pos b] at he
      exact absurd he b
  · rw [if_neg a] at he
    exact absurd (show (1 : Int) = 0 from he) (by decide)
/-- a chain of a round, opened and read -/
theorem pCh_inv {q : Int} {g : Int → Int} (hq : q ≤ n) (hp : FP g) (r0 : 0 ≤ r) (r1 : r < g 0) (h3 : g (18 + r) < 3) (he : (pCh T n r q g).1 = 0) :
    FP (pCh T n r q g).2.2 ∧ (pCh T n r q g).2.2 0 = g 0 ∧ (pCh T n r q g).2.2 (18 + r) = g (18 + r) + 1 ∧ (∀ s, 0 ≤ s → s < 4 → s ≠ r → (pCh T n r q g).2.2 (18 + s) = g (18 + s) ∧ ∀ d, 0 ≤ d → d < 3 → (pCh T n r q g).2.2 (22 + 3 * s + d) = g (22 + 3 * s + d)) ∧
    (∀ d, 0 ≤ d → d < g (18 + r) → (pCh T n r q g).2.2 (22 + 3 * r + d) = g (22 + 3 * r + d)) ∧ 1 ≤ (pCh T n r q g).2.2 (22 + 3 * r + g (18 + r)) ∧ q < (pCh T n r q g).2.1 ∧ (pCh T n r q g).2.1 ≤ n := by
  rw [pCh_2] at he ⊢
  have h4 := hp.1
  have x2 := hp.2.1 r r0 (by have := hp.1; omega)
  have e0 : gOCh g r (18 + r) = g (18 + r) + 1 := upr_eqq rfl
  have e : ∀ j, j ≠ 18 + r → gOCh g r j = g j := fun j h => upr_ne h
  have p2 := hp.och r0 r1 h3
  obtain ⟨⟨i1, i2, i3, i4⟩, i5, i6, i7⟩ := pC2_inv hq p2 r0 (by rw [e 0 (by omega)]; exact r1) x2.1 (by omega) (by rw [e _ (by omega)]; exact (hp.2.2.1 r _ r0 (by have := hp.1; omega) x2.1 h3).2.2 (Int.le_refl _)) he
  refine ⟨i1, i2.trans (e 0 (by omega)), (i3 _ (by omega) (by have := hp.1; omega)).trans e0, fun s s0 s1 sr => ⟨(i3 _ (by omega) (by omega)).trans (e _ (by omega)), fun d d0 d1 => (i4 _ (by omega) (by omega) (by omega)).trans (e _ (by omega))⟩, fun d d0 d1 => (i4 _ (by omega) (by have := hp.1; omega) (by omega)).trans (e _ (by have := hp.1; omega)), i5, i6, i7⟩
theorem FF.keep {g h : Int → Int} {R : Int} (f : FF g R) (p : FP g) (hR : R ≤ 4) (k : ∀ s, 0 ≤ s → s < R → h (18 + s) = g (18 + s) ∧ ∀ d, 0 ≤ d → d < 3 → h (22 + 3 * s + d) = g (22 + 3 * s + d)) : FF h R := by
  intro s s0 s1
  obtain ⟨a, b⟩ := f s s0 s1
  obtain ⟨k1, k2⟩ := k s s0 s1
  have x2 := p.2.1 s s0 (by omega)
  refine ⟨by rw [k1]; exact a, fun d d0 d1 => ?_⟩
  rw [k1] at d1
  rw [k2 d d0 (by omega)]
  exact b d d0 d1
theorem pCs_inv : ∀ (k : Nat) (q : Int) (g : Int → Int), q ≤ n → FP g → 0 ≤ r → r < g 0 → (k : Int) = 3 - g (18 + r) → FC g r (g (18 + r)) → FF g r → (pCs T n r k q g).1 = 0 →
    FP (pCs T n r k q g).2.2 ∧ (pCs T n r k q g).2.2 0 = g 0 ∧ FF (pCs T n r k q g).2.2 (r + 1) ∧ q < (pCs T n r k q g).2.1 ∧ (pCs T n r k q g).2.1 ≤ n ∧ pK T n (pCs T n r k q g).2.1 = 4
  | 0, q, g, hq, hp, r0, r1, hk, hc, hf, he => absurd (show (5 : Int) = 0 from he) (by decide)
  | k + 1, q, g, hq, hp, r0, r1, hk, hc, hf, he => by
    have nl := pN_le (T := T) hq
    have r4 := hp.1
    have x2 := hp.2.1 r r0 (by omega)
    unfold pCs at he ⊢
    by_cases a : (pCh T n r (pN T n q) g).1 = 0
    · rw [if_neg (not_not_intro a)] at he ⊢
      obtain ⟨i1, i2, i3, i4, i5, i6, i7, i8⟩ := pCh_inv nl.2 hp r0 r1 (by omega) a
      have hc2 : FC (pCh T n r (pN T n q) g).2.2 r ((pCh T n r (pN T n q) g).2.2 (18 + r)) := fun d d0 d1 => by
        rw [i3] at d1
        by_cases e : d = g (18 + r)
        · rw [e]; exact i6
        · rw [i5 d d0 (by omega)]; exact hc d d0 (by omega)
      have hf2 : FF (pCh T n r (pN T n q) g).2.2 r := hf.keep hp (by omega) fun s s0 s1 => i4 s s0 (by omega) (by omega)
      by_cases b : pK T n (pCh T n r (pN T n q) g).2.1 = 4
      · rw [if_pos b]
        refine ⟨i1, i2, fun s s0 s1 => ?_, by omega, i8, b⟩
        by_cases e : s = r
        · rw [e, i3]; rw [i3] at hc2; exact ⟨by omega, hc2⟩
        · exact hf2 s s0 (by omega)
      · rw [if_neg b] at he ⊢
        by_cases c3 : pK T n (pCh T n r (pN T n q) g).2.1 = 3
        · rw [if_pos c3] at he ⊢
          obtain ⟨j1, j2, j3, j4, j5, j6⟩ := pCs_inv k _ _ i8 i1 r0 (by rw [i2]; exact r1) (by rw [i3]; omega) hc2 hf2 he
          exact ⟨j1, j2.trans i2, j3, by omega, j5, j6⟩
        · rw [if_neg c3] at he
          exact absurd (show (1 : Int) = 0 from he) (by decide)
    · rw [if_pos a] at he
      exact absurd he a
theorem pRd_inv {q : Int} {g : Int → Int} (hq : q ≤ n) (hp : FP g) (h4 : g 0 < 4) (hf : FF g (g 0)) (he : (pRd T n q g).1 = 0) :
    FP (pRd T n q g).2.2 ∧ (pRd T n q g).2.2 0 = g 0 + 1 ∧ FF (pRd T n q g).2.2 (g 0 + 1) ∧ q < (pRd T n q g).2.1 ∧ (pRd T n q g).2.1 ≤ n ∧ pK T n (pRd T n q g).2.1 = 4 := by
  have e0 : gORd g 0 = g 0 + 1 := rfl
  have e : ∀ j, j ≠ 0 → gORd g j = g j := fun j h => upr_ne h
  have a := hp.1
  have z0 := (hp.2.1 (g 0) a.1 h4).2.2 (Int.le_refl _)
  have hcc : gORd g (18 + g 0) = 0 := by rw [e _ (by omega)]; exact z0
  obtain ⟨j1, j2, j3, j4⟩ := pCs_inv (T := T) (n := n) (r := g 0) 3 q (gORd g) hq (hp.ord h4) a.1 (by omega) (by rw [hcc]; rfl) (fun d d0 d1 => by rw [hcc] at d1; omega) (hf.keep hp (by omega) fun s s0 s1 => ⟨e _ (by omega), fun d d0 d1 => e _ (by omega)⟩) he
  exact ⟨j1, j2, j3, j4⟩
theorem pRs_inv : ∀ (k : Nat) (q : Int) (g : Int → Int), q ≤ n → FP g → (k : Int) = 4 - g 0 → FF g (g 0) → (pRs T n k q g).1 = 0 →
    FP (pRs T n k q g).2.2 ∧ FF (pRs T n k q g).2.2 ((pRs T n k q g).2.2 0) ∧ g 0 ≤ (pRs T n k q g).2.2 0 ∧ q ≤ (pRs T n k q g).2.1 ∧ (pRs T n k q g).2.1 ≤ n ∧ (pW T n q 0 → g 0 < (pRs T n k q g).2.2 0)
  | 0, q, g, hq, hp, hk, hf, he => by
    refine ⟨hp, hf, Int.le_refl _, Int.le_refl _, hq, fun w => ?_⟩
    have : pIf (pW T n q 0) (5 : Int) 0 = 0 := he
    rw [pIf_t w] at this
    exact absurd this (by decide)
  | k + 1, q, g, hq, hp, hk, hf, he => by
    unfold pRs at he ⊢
    by_cases w : pW T n q 0
    · rw [pIf_t w] at he ⊢
      by_cases a : (pRd T n q g).1 = 0
      · rw [if_neg (not_not_intro a)] at he ⊢
        obtain ⟨i1, i2, i3, i4, i5, i6⟩ := pRd_inv hq hp (by omega) hf a
        have nl := pN_le (T := T) i5
        obtain ⟨j1, j2, j3, j4, j5, j6⟩ := pRs_inv k _ _ nl.2 i1 (by rw [i2]; omega) (by rw [i2]; exact i3) he
        exact ⟨j1, j2, by omega, by omega, j5, fun _ => by omega⟩
      · rw [if_pos a] at he
        exact absurd he a
    · rw [pIf_f w]
      exact ⟨hp, hf, Int.le_refl _, Int.le_refl _, hq, fun w2 => absurd w2 w⟩
end PV
