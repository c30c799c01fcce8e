/-! the text: blanks, runs, tokens -/
def pK1 (x : Int) : Int := if 97 ≤ x ∧ x ≤ 122 then 1 else if 48 ≤ x ∧ x ≤ 57 then 2 else if x = 44 then 3 else if x = 59 then 4 else 5
theorem pK1_rng (x : Int) : 1 ≤ pK1 x ∧ pK1 x ≤ 5 := by unfold pK1; (repeat' split) <;> omega
def pSk (T : Int → Int) (n : Int) : Nat → Int → Int
  | 0, p => p
  | k + 1, p => if p < n ∧ (T p = 32 ∨ T p = 10) then pSk T n k (p + 1) else p
def pRn (T : Int → Int) (n kd : Int) : Nat → Int → Int
  | 0, p => p
  | k + 1, p => if p < n ∧ pK1 (T p) = kd then pRn T n kd k (p + 1) else p
def pS (T : Int → Int) (n p : Int) : Int := pSk T n (n - p).toNat p
def pE (T : Int → Int) (n kd p : Int) : Int := pRn T n kd (n - p).toNat p
def pK (T : Int → Int) (n p : Int) : Int := if pS T n p < n then pK1 (T (pS T n p)) else 0
def pN (T : Int → Int) (n p : Int) : Int := if pK T n p = 1 ∨ pK T n p = 2 then pE T n (pK T n p) (pS T n p) else if pK T n p = 0 then pS T n p else pS T n p + 1
section PT
variable {T : Int → Int} {n p kd : Int}
theorem pS_t (h : p < n) (hb : T p = 32 ∨ T p = 10) : pS T n p = pS T n (p + 1) := by
  unfold pS
  rw [show (n - p).toNat = (n - (p + 1)).toNat + 1 by omega]
  unfold pSk
  rw [if_pos ⟨h, hb⟩]
  cases h2 : (n - (p + 1)).toNat <;> rfl
theorem pS_f (h : ¬ (p < n ∧ (T p = 32 ∨ T p = 10))) : pS T n p = p := by
  unfold pS
  cases (n - p).toNat with
  | zero => rfl
  | succ k => unfold pSk; rw [if_neg h]
theorem pE_t (h : p < n) (hb : pK1 (T p) = kd) : pE T n kd p = pE T n kd (p + 1) := by
  unfold pE
  rw [show (n - p).toNat = (n - (p + 1)).toNat + 1 by omega]
  unfold pRn
  rw [if_pos ⟨h, hb⟩]
  cases h2 : (n - (p + 1)).toNat <;> rfl
theorem pE_f (h : ¬ (p < n ∧ pK1 (T p) = kd)) : pE T n kd p = p := by
  unfold pE
  cases (n - p).toNat with
  | zero => rfl
  | succ k => unfold pRn; rw [if_neg h]
theorem pSk_le : ∀ (k : Nat) (p : Int), p ≤ n → p ≤ pSk T n k p ∧ pSk T n k p ≤ n
  | 0, p, h => ⟨Int.le_refl _, h⟩
  | k + 1, p, h => by
    unfold pSk
    split
    · rename_i q
      have := pSk_le k (p + 1) (by omega)
      omega
    · omega
theorem pRn_le : ∀ (k : Nat) (p : Int), p ≤ n → p ≤ pRn T n kd k p ∧ pRn T n kd k p ≤ n
  | 0, p, h => ⟨Int.le_refl _, h⟩
  | k + 1, p, h => by
    unfold pRn
    split
    · rename_i q
      have := pRn_le k (p + 1) (by omega)
      omega
    · omega
theorem pS_le (h : p ≤ n) : p ≤ pS T n p ∧ pS T n p ≤ n := pSk_le _ _ h
theorem pE_le (h : p ≤ n) : p ≤ pE T n kd p ∧ pE T n kd p ≤ n := pRn_le _ _ h
theorem pK_rng : 0 ≤ pK T n p ∧ pK T n p ≤ 5 := by
  unfold pK
  have := pK1_rng (T (pS T n p))
  split <;> omega
theorem pK_lt (h : pK T n p ≠ 0) : pS T n p < n ∧ pK T n p = pK1 (T (pS T n p)) := by
  unfold pK at h ⊢
  split at h
  · rename_i q; exact ⟨q, if_pos q⟩
  · exact absurd rfl h
theorem pK_end (hp : p ≤ n) (h : pK T n p = 0) : pS T n p = n ∧ pN T n p = n := by
  have h1 := pS_le (T := T) hp
  have h2 : ¬ pS T n p < n := fun q => by
    unfold pK at h
    rw [if_pos q] at h
    have := pK1_rng (T (pS T n p))
    omega
  have h3 : pS T n p = n := by omega
  refine ⟨h3, ?_⟩
  unfold pN
  rw [if_neg (by omega), if_pos h, h3]
theorem pN_gt (hp : p ≤ n) (h : pK T n p ≠ 0) : pS T n p < pN T n p ∧ pN T n p ≤ n := by
  obtain ⟨h1, h2⟩ := pK_lt h
  unfold pN
  split
  · rw [pE_t h1 h2.symm]
    have := pE_le (T := T) (kd := pK T n p) (p := pS T n p + 1) (n := n) (by omega)
    omega
  · first | omega | (rw [if_neg h]; omega)
theorem pN_le (hp : p ≤ n) : p ≤ pN T n p ∧ pN T n p ≤ n := by
  have h1 := pS_le (T := T) hp
  by_cases h : pK T n p = 0
  · have := pK_end hp h; omega
  · have := pN_gt hp h; omega
end PT
/-- a text -/
def PTx (T : Int → Int) (n : Int) : Prop := (0 ≤ n ∧ n ≤ 500) ∧ ∀ i, 0 ≤ i → i < n → 0 ≤ T i ∧ T i ≤ 255
/-- a token that the language has -/
def pTok (T : Int → Int) (n p : Int) : Prop := (pK T n p = 1 → pN T n p - pS T n p ≤ 8) ∧ (pK T n p = 2 → pN T n p - pS T n p ≤ 2) ∧ pK T n p ≠ 5
/-- one of the words -/
def pW (T : Int → Int) (n p : Int) (i : Nat) : Prop := pK T n p = 1 ∧ pN T n p - pS T n p = jwl i ∧ ∀ k, 0 ≤ k → k < jwl i → T (pS T n p + k) = jwd i k
/-- a token of so many digits -/
def pD (T : Int → Int) (n p z : Int) : Prop := pK T n p = 2 ∧ pN T n p - pS T n p = z
def pT1 (T : Int → Int) (n q : Int) : Int := T (pS T n q) - 48
def pT2 (T : Int → Int) (n q : Int) : Int := T (pS T n q + 1) - 48
def pTi (T : Int → Int) (n q : Int) : Int := 10 * pT1 T n q + pT2 T n q
/-- a case of any proposition -/
noncomputable def pIf {α : Type} (p : Prop) (a b : α) : α := @ite α p (Classical.propDecidable p) a b
theorem pIf_t {α : Type} {p : Prop} {a b : α} (h : p) : pIf p a b = a := if_pos h
theorem pIf_f {α : Type} {p : Prop} {a b : α} (h : ¬ p) : pIf p a b = b := if_neg h
/-! rows being read -/
def gTp (r c t : Int) : Int := 40 + 8 * (3 * r + c) + t
def gThere (g : Int → Int) (r z : Int) : Prop := ∃ c k, 0 ≤ c ∧ c < g (18 + r) ∧ 0 ≤ k ∧ k < g (22 + 3 * r + c) ∧ (g (gTp r c k) = z ∨ g (gTp r c k) % 10 = z / 10 ∧ g (gTp r c k) / 10 = z % 10)
def gAdd (g : Int → Int) (r c t z : Int) : Int → Int := upr (upr g (gTp r c t) z) (22 + 3 * r + c) (t + 1)
def gORd (g : Int → Int) : Int → Int := upr g 0 (g 0 + 1)
def gOCh (g : Int → Int) (r : Int) : Int → Int := upr g (18 + r) (g (18 + r) + 1)
noncomputable def pTE (T : Int → Int) (n : Int) (g : Int → Int) (r c t q : Int) : Int :=
  pIf (¬ pD T n q 2) 1 (if 6 < pT1 T n q ∨ 6 < pT2 T n q then 2 else if 0 < t ∧ pT1 T n q ≠ g (gTp r c (t - 1)) % 10 then 3 else pIf (gThere g r (pTi T n q)) 4 (if t < 8 then 0 else 5))
noncomputable def pTs (T : Int → Int) (n r c : Int) : Nat → Int → Int → (Int → Int) → Int × Int × (Int → Int)
  | 0, _, q, g => (0, q, g)
  | k + 1, t, q, g => if pK T n q = 2 then (if pTE T n g r c t q ≠ 0 then (pTE T n g r c t q, q, g) else pTs T n r c k (t + 1) (pN T n q) (gAdd g r c t (pTi T n q))) else (0, q, g)
noncomputable def pCh (T : Int → Int) (n r q : Int) (g : Int → Int) : Int × Int × (Int → Int) :=
  if pK T n q = 2 then pTs T n r (g (18 + r)) 9 0 q (gOCh g r) else (1, q, gOCh g r)
noncomputable def pCs (T : Int → Int) (n r : Int) : Nat → Int → (Int → Int) → Int × Int × (Int → Int)
  | 0, q, g => (5, q, g)
  | k + 1, q, g => if (pCh T n r (pN T n q) g).1 ≠ 0 then pCh T n r (pN T n q) g
    else if pK T n (pCh T n r (pN T n q) g).2.1 = 4 then pCh T n r (pN T n q) g
    else if pK T n (pCh T n r (pN T n q) g).2.1 = 3 then pCs T n r k (pCh T n r (pN T n q) g).2.1 (pCh T n r (pN T n q) g).2.2
    else (1, (pCh T n r (pN T n q) g).2.1, (pCh T n r (pN T n q) g).2.2)
noncomputable def pRd (T : Int → Int) (n q : Int) (g : Int → Int) : Int × Int × (Int → Int) := pCs T n (g 0) 3 q (gORd g)
noncomputable def pRs (T : Int → Int) (n : Int) : Nat → Int → (Int → Int) → Int × Int × (Int → Int)
  | 0, q, g => (pIf (pW T n q 0) 5 0, q, g)
  | k + 1, q, g => pIf (pW T n q 0) (if (pRd T n q g).1 ≠ 0 then pRd T n q g else pRs T n k (pN T n (pRd T n q g).2.1) (pRd T n q g).2.2) (0, q, g)
/-- behind a statement's last token: its semicolon -/
noncomputable def pSe (T : Int → Int) (n q : Int) (g h : Int → Int) : Int × Int × (Int → Int) := if pK T n (pN T n q) = 4 then (0, pN T n q, h) else (1, pN T n q, g)
noncomputable def pBu (T : Int → Int) (n : Int) (side q : Int) (g : Int → Int) : Int × Int × (Int → Int) :=
  pIf (¬ pD T n (pN T n q) 1) (1, pN T n q, g)
  (pIf (gOver g ∨ g (18 + g 1) ≤ pT1 T n (pN T n q) ∨ g (37 + pT1 T n (pN T n q)) - g (34 + pT1 T n (pN T n q)) + 1 < 2) (6, pN T n q, g)
  (pSe T n (pN T n q) g (gPlay g (2 * pT1 T n (pN T n q) + side))))
noncomputable def pMv (T : Int → Int) (n q : Int) (g : Int → Int) : Int × Int × (Int → Int) :=
  pIf (pW T n q 1) (pBu T n 0 q g)
  (pIf (pW T n q 2) (pBu T n 1 q g)
  (pIf (pW T n q 3) (pIf (gOver g) (6, q, g) (pSe T n q g (gPlay g 6)))
  (pIf (pW T n q 4) (pIf (¬ gOver g ∨ g 1 = g 0 - 1) (6, q, g) (pSe T n q g (gNext g)))
  (1, q, g))))
noncomputable def pMs (T : Int → Int) (n : Int) : Nat → Int → (Int → Int) → Int × Int × (Int → Int)
  | 0, q, g => (0, q, g)
  | k + 1, q, g => if pK T n q = 0 then (0, q, g) else if (pMv T n q g).1 ≠ 0 then pMv T n q g else pMs T n k (pN T n (pMv T n q g).2.1) (pMv T n q g).2.2
/-- a whole text: error, its token, the row -/
noncomputable def pAll (T : Int → Int) (n : Int) : Int × Int × (Int → Int) :=
  pIf (pW T n 0 0) (if (pRs T n 4 0 fun _ => 0).1 ≠ 0 then pRs T n 4 0 fun _ => 0 else pMs T n 500 (pRs T n 4 0 fun _ => 0).2.1 (gDeal (pRs T n 4 0 fun _ => 0).2.2 0 0)) (1, 0, fun _ => 0)
/-! what holds of a row being read -/
def FP (g : Int → Int) : Prop :=
  (0 ≤ g 0 ∧ g 0 ≤ 4) ∧
  (∀ r, 0 ≤ r → r < 4 → 0 ≤ g (18 + r) ∧ g (18 + r) ≤ 3 ∧ (g 0 ≤ r → g (18 + r) = 0)) ∧
  (∀ r c, 0 ≤ r → r < 4 → 0 ≤ c → c < 3 → 0 ≤ g (22 + 3 * r + c) ∧ g (22 + 3 * r + c) ≤ 8 ∧ (g (18 + r) ≤ c → g (22 + 3 * r + c) = 0)) ∧
  (∀ r c t, 0 ≤ r → r < 4 → 0 ≤ c → c < 3 → 0 ≤ t → t < g (22 + 3 * r + c) → 0 ≤ g (gTp r c t) ∧ g (gTp r c t) / 10 ≤ 6 ∧ g (gTp r c t) % 10 ≤ 6) ∧
  (∀ j, 1 ≤ j → j < 18 → g j = 0)
/-- chains of a round that have a tile; rounds that are whole -/
def FC (g : Int → Int) (r C : Int) : Prop := ∀ c, 0 ≤ c → c < C → 1 ≤ g (22 + 3 * r + c)
def FF (g : Int → Int) (R : Int) : Prop := ∀ r, 0 ≤ r → r < R → 1 ≤ g (18 + r) ∧ FC g r (g (18 + r))
section PG
variable {g : Int → Int} {r c t z : Int}
theorem FP.zero : FP fun _ => 0 := ⟨by decide, fun _ _ _ => by simp, fun _ _ _ _ _ _ => by simp, fun r c t _ _ _ _ a b => absurd b (by dsimp only; omega), fun _ _ _ => rfl⟩
theorem FP.ord (h : FP g) (h0 : g 0 < 4) : FP (gORd g) := by
  obtain ⟨a1, a2, a3, a4, a5⟩ := h
  have e0 : gORd g 0 = g 0 + 1 := rfl
  have e : ∀ j, j ≠ 0 → gORd g j = g j := fun j h => upr_ne h
  refine ⟨by omega, fun r r0 r1 => ?_, fun r c r0 r1 c0 c1 => ?_, fun r c t r0 r1 c0 c1 t0 t1 => ?_, fun j j0 j1 => ?_⟩
  · rw [e _ (by omega), e0]; have := a2 r r0 r1; omega
  · rw [e _ (by omega), e _ (by omega)]; exact a3 r c r0 r1 c0 c1
  · rw [e _ (by omega)] at t1; rw [e _ (by unfold gTp; omega)]; exact a4 r c t r0 r1 c0 c1 t0 t1
  · rw [e _ (by omega)]; exact a5 j j0 j1
theorem FP.och (h : FP g) (r0 : 0 ≤ r) (r1 : r < g 0) (h1 : g (18 + r) < 3) : FP (gOCh g r) := by
  obtain ⟨a1, a2, a3, a4, a5⟩ := h
  have e0 : gOCh g r (18 + r) = g (18 + r) + 1 := upr_eqq rfl
  have e : ∀ j, j ≠ 18 + r → gOCh g r j = g j := fun j h => upr_ne h
  refine ⟨by rw [e _ (by omega)]; exact a1, fun s s0 s1 => ?_, fun s c s0 s1 c0 c1 => ?_, fun s c t s0 s1 c0 c1 t0 t1 => ?_, fun j j0 j1 => ?_⟩
  · have x := a2 s s0 s1
    rw [e 0 (by omega)]
    by_cases q : s = r
    · subst q; rw [e0]; omega
    · rw [e _ (by omega)]; exact x
  · have x := a3 s c s0 s1 c0 c1
    rw [e _ (by omega)]
    by_cases q : s = r
    · subst q; rw [e0]; exact ⟨x.1, x.2.1, fun y => x.2.2 (by omega)⟩
    · rw [e (18 + s) (by omega)]; exact x
  · rw [e _ (by omega)] at t1; rw [e _ (by unfold gTp; omega)]; exact a4 s c t s0 s1 c0 c1 t0 t1
  · rw [e _ (by omega)]; exact a5 j j0 j1
theorem gAdd_l : gAdd g r c t z (22 + 3 * r + c) = t + 1 := upr_eqq rfl
theorem gAdd_t (hr : 0 ≤ r ∧ r < 4) (hc : 0 ≤ c ∧ c < 3) (ht : 0 ≤ t) : gAdd g r c t z (gTp r c t) = z := by
  unfold gAdd
  rw [upr_ne (by unfold gTp; omega), upr_eqq rfl]
theorem gAdd_o {j : Int} (h1 : j ≠ 22 + 3 * r + c) (h2 : j ≠ gTp r c t) : gAdd g r c t z j = g j := by
  unfold gAdd
  rw [upr_ne h1, upr_ne h2]
theorem FP.add (h : FP g) (r0 : 0 ≤ r) (r1 : r < g 0) (c0 : 0 ≤ c) (c1 : c < g (18 + r)) (ht : t = g (22 + 3 * r + c)) (t8 : t < 8) (hz : 0 ≤ z ∧ z / 10 ≤ 6 ∧ z % 10 ≤ 6) : FP (gAdd g r c t z) := by
  obtain ⟨a1, a2, a3, a4, a5⟩ := h
  have r4 : r < 4 := by omega
  have x2 := a2 r r0 r4
  have x3 := a3 r c r0 r4 c0 (by omega)
  have lo : ∀ j, j < 22 → gAdd g r c t z j = g j := fun j hj => gAdd_o (by omega) (by unfold gTp; omega)
  refine ⟨by rw [lo _ (by omega)]; exact a1, fun s s0 s1 => by rw [lo _ (by omega), lo _ (by omega)]; exact a2 s s0 s1, fun s d s0 s1 d0 d1 => ?_, fun s d k s0 s1 d0 d1 k0 k1 => ?_, fun j j0 j1 => by rw [lo _ (by omega)]; exact a5 j j0 j1⟩
  · rw [lo (18 + s) (by omega)]
    by_cases q : s = r ∧ d = c
    · obtain ⟨rfl, rfl⟩ := q
      rw [gAdd_l]; exact ⟨by omega, by omega, fun y => by omega⟩
    · rw [gAdd_o (by omega) (by unfold gTp; omega)]; exact a3 s d s0 s1 d0 d1
  · by_cases q : s = r ∧ d = c
    · obtain ⟨rfl, rfl⟩ := q
      rw [gAdd_l] at k1
      by_cases q2 : k = t
      · subst q2; rw [gAdd_t ⟨r0, r4⟩ ⟨c0, d1⟩ k0]; exact hz
      · rw [gAdd_o (by unfold gTp; omega) (by unfold gTp; omega)]; exact a4 s d k s0 s1 d0 d1 k0 (by omega)
    · have x := a3 s d s0 s1 d0 d1
      rw [gAdd_o (by omega) (by unfold gTp; omega)] at k1
      rw [gAdd_o (by unfold gTp; omega) (by unfold gTp; omega)]; exact a4 s d k s0 s1 d0 d1 k0 k1
theorem FP.there_och (h : FP g) (r0 : 0 ≤ r) (r1 : r < g 0) (h3 : g (18 + r) < 3) : gThere (gOCh g r) r z ↔ gThere g r z := by
  obtain ⟨a1, a2, a3, a4, a5⟩ := h
  have e0 : gOCh g r (18 + r) = g (18 + r) + 1 := upr_eqq rfl
  have e : ∀ j, j ≠ 18 + r → gOCh g r j = g j := fun j h => upr_ne h
  constructor
  · rintro ⟨c, k, c0, c1, k0, k1, hz⟩
    rw [e0] at c1
    rw [e _ (by omega)] at k1
    rw [e _ (by unfold gTp; omega)] at hz
    refine ⟨c, k, c0, ?_, k0, k1, hz⟩
    have x2 := a2 r r0 (by omega)
    have := (a3 r c r0 (by omega) c0 (by omega)).2.2
    omega
  · rintro ⟨c, k, c0, c1, k0, k1, hz⟩
    refine ⟨c, k, c0, by omega, k0, by rw [e _ (by omega)]; exact k1, by rw [e _ (by unfold gTp; omega)]; exact hz⟩
theorem FP.there_add {y : Int} (h : FP g) (r0 : 0 ≤ r) (r1 : r < g 0) (c0 : 0 ≤ c) (c1 : c < g (18 + r)) (ht : t = g (22 + 3 * r + c)) (t8 : t < 8) : gThere (gAdd g r c t z) r y ↔ gThere g r y ∨ z = y ∨ z % 10 = y / 10 ∧ z / 10 = y % 10 := by
  obtain ⟨a1, a2, a3, a4, a5⟩ := h
  have r4 : r < 4 := by omega
  have x2 := a2 r r0 r4
  have x3 := a3 r c r0 r4 c0 (by omega)
  have lo : ∀ j, j < 22 → gAdd g r c t z j = g j := fun j hj => gAdd_o (by omega) (by unfold gTp; omega)
  constructor
  · rintro ⟨d, k, d0, d1, k0, k1, hz⟩
    rw [lo _ (by omega)] at d1
    by_cases q : d = c
    · subst q
      rw [gAdd_l] at k1
      by_cases q2 : k = t
      · subst q2
        rw [gAdd_t ⟨r0, r4⟩ ⟨d0, by omega⟩ k0] at hz
        exact Or.inr hz
      · rw [gAdd_o (by unfold gTp; omega) (by unfold gTp; omega)] at hz
        exact Or.inl ⟨d, k, d0, d1, k0, by omega, hz⟩
    · rw [gAdd_o (by omega) (by unfold gTp; omega)] at k1
      have y3 := a3 r d r0 r4 d0 (by omega)
      rw [gAdd_o (by unfold gTp; omega) (by unfold gTp; omega)] at hz
      exact Or.inl ⟨d, k, d0, d1, k0, k1, hz⟩
  · rintro (⟨d, k, d0, d1, k0, k1, hz⟩ | hz)
    · have y3 := a3 r d r0 r4 d0 (by omega)
      refine ⟨d, k, d0, by rw [lo _ (by omega)]; exact d1, k0, ?_, ?_⟩
      · by_cases q : d = c
        · subst q; rw [gAdd_l]; omega
        · rw [gAdd_o (by omega) (by unfold gTp; omega)]; exact k1
      · by_cases q : d = c
        · subst q; rw [gAdd_o (by unfold gTp; omega) (by unfold gTp; omega)]; exact hz
        · rw [gAdd_o (by unfold gTp; omega) (by unfold gTp; omega)]; exact hz
    · refine ⟨c, t, c0, by rw [lo _ (by omega)]; exact c1, by omega, by rw [gAdd_l]; omega, ?_⟩
      rw [gAdd_t ⟨r0, r4⟩ ⟨c0, by omega⟩ (by omega)]; exact hz
theorem FP.full (h : FP g) (h0 : 1 ≤ g 0) (hf : FF g (g 0)) : FL g :=
  ⟨⟨h0, h.1.2⟩, fun r r0 r1 => ⟨(hf r r0 r1).1, (h.2.1 r r0 (by have := h.1; omega)).2.1⟩, fun r c r0 r1 c0 c1 => ⟨(hf r r0 r1).2 c c0 c1, (h.2.2.1 r c r0 (by have := h.1; omega) c0 (by have := h.2.1 r r0 (by have := h.1; omega); omega)).2.1⟩,
    fun r c t r0 r1 c0 c1 t0 t1 => h.2.2.2.1 r c t r0 (by have := h.1; omega) c0 (by have := h.2.1 r r0 (by have := h.1; omega); omega) t0 t1⟩
end PG
