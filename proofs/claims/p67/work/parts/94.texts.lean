/-! texts that go on: what is parsed so far -/
def Ext (T : Int → Int) (m : Int) (T' : Int → Int) (n' : Int) : Prop := (m ≤ n' ∧ n' ≤ 500) ∧ ∀ i, 0 ≤ i → i < m → T' i = T i
theorem Ext.one {T : Int → Int} {m x : Int} {T' : Int → Int} {n' : Int} (h : Ext (txA T m x) (m + 1) T' n') (h0 : 0 ≤ m) : Ext T m T' n' ∧ T' m = x ∧ m + 1 ≤ n' := by
  refine ⟨⟨⟨by have := h.1.1; omega, h.1.2⟩, fun i a b => ?_⟩, ?_, h.1.1⟩
  · rw [h.2 i a (by omega)]; unfold txA; rw [if_neg (by omega)]
  · rw [h.2 m h0 (by omega)]; unfold txA; rw [if_pos rfl]
theorem Ext.six {T : Int → Int} {m : Int} {T' : Int → Int} {n' : Int} (h : Ext (txS T m) (m + 6) T' n') (h0 : 0 ≤ m) : Ext T m T' n' ∧ (∀ k, 0 ≤ k → k < 6 → T' (m + k) = jwd 5 k) ∧ m + 6 ≤ n' := by
  refine ⟨⟨⟨by have := h.1.1; omega, h.1.2⟩, fun i a b => ?_⟩, fun k a b => ?_, h.1.1⟩
  · rw [h.2 i a (by omega)]; unfold txS; rw [if_neg (by omega)]
  · rw [h.2 _ (by omega) (by omega)]; unfold txS; rw [if_pos (by omega), show m + k - m = k by omega]
noncomputable def F1 (T : Int → Int) (n : Int) (k : Nat) (x : Int × Int × (Int → Int)) : Int × Int × (Int → Int) := if x.1 ≠ 0 then x else pRs T n k (pN T n x.2.1) x.2.2
noncomputable def F2 (T : Int → Int) (n r : Int) (k : Nat) (y : Int × Int × (Int → Int)) : Int × Int × (Int → Int) :=
  if y.1 ≠ 0 then y else if pK T n y.2.1 = 4 then y else if pK T n y.2.1 = 3 then pCs T n r k y.2.1 y.2.2 else (1, y.2.1, y.2.2)
section P94
variable {T : Int → Int} {n r c t q m : Int} {g : Int → Int} {k : Nat}
theorem pCs_s : pCs T n r (k + 1) q g = F2 T n r k (pCh T n r (pN T n q) g) := rfl
theorem pRs_s : pRs T n (k + 1) q g = pIf (pW T n q 0) (F1 T n k (pCs T n (g 0) 3 q (gORd g))) (0, q, g) := rfl
theorem pTs_s : pTs T n r c (k + 1) t q g = if pK T n q = 2 then (if pTE T n g r c t q ≠ 0 then (pTE T n g r c t q, q, g) else pTs T n r c k (t + 1) (pN T n q) (gAdd g r c t (pTi T n q))) else (0, q, g) := rfl
theorem pK_cg {p q : Int} (h : pS T n p = pS T n q) : pK T n p = pK T n q := by unfold pK; rw [h]
theorem pN_cg {p q : Int} (h : pS T n p = pS T n q) : pN T n p = pN T n q := by unfold pN; rw [pK_cg h, h]
theorem pK_at (hn : m < n) (hb : ¬ (T m = 32 ∨ T m = 10)) : pS T n m = m ∧ pK T n m = pK1 (T m) := by
  have e : pS T n m = m := pS_f (fun h => hb h.2)
  refine ⟨e, ?_⟩
  unfold pK
  rw [e, if_pos hn]
/-- a tile's token -/
theorem tok2 {a b e : Int} (h0 : m + 3 ≤ n) (hb : T m = 32) (h1 : T (m + 1) = 48 + a) (h2 : T (m + 1 + 1) = 48 + b) (ha : 0 ≤ a ∧ a ≤ 9) (hb2 : 0 ≤ b ∧ b ≤ 9) (hn : ¬ (m + 1 + 1 + 1 < n ∧ pK1 (T (m + 1 + 1 + 1)) = 2)) (he : pS T n e = pS T n m) :
    pK T n e = 2 ∧ pN T n e = m + 1 + 1 + 1 ∧ pD T n e 2 ∧ pT1 T n e = a ∧ pT2 T n e = b := by
  have k1 : ∀ x : Int, 0 ≤ x → x ≤ 9 → pK1 (48 + x) = 2 := fun x x0 x1 => by unfold pK1; rw [if_neg (by omega), if_pos (by omega)]
  have s0 : pS T n m = m + 1 := by
    rw [pS_t (by omega) (Or.inl hb)]
    exact pS_f (fun h => by rw [h1] at h; omega)
  have kk : pK T n m = 2 := by unfold pK; rw [s0, if_pos (by omega), h1]; exact k1 a ha.1 ha.2
  have en : pE T n 2 (m + 1) = m + 1 + 1 + 1 := by
    rw [pE_t (by omega) (by rw [h1]; exact k1 a ha.1 ha.2), pE_t (by omega) (by rw [h2]; exact k1 b hb2.1 hb2.2)]
    exact pE_f hn
  have nn : pN T n m = m + 1 + 1 + 1 := by unfold pN; rw [kk, if_pos (Or.inr rfl), s0, en]
  refine ⟨(pK_cg he).trans kk, (pN_cg he).trans nn, ⟨(pK_cg he).trans kk, ?_⟩, ?_, ?_⟩
  · rw [pN_cg he, nn, he, s0]; omega
  · unfold pT1; rw [he, s0, h1]; omega
  · unfold pT2; rw [he, s0, h2]; omega
/-- between rounds -/
def StA (T : Int → Int) (m r : Int) (g : Int → Int) : Prop := 0 ≤ m ∧ (0 ≤ r ∧ r ≤ 4) ∧ g 0 = r ∧ FP g ∧ ∀ T' n', Ext T m T' n' → pRs T' n' 4 0 (fun _ => 0) = pRs T' n' (4 - r).toNat m g
/-- a chain begins -/
def StD (T : Int → Int) (m r c e : Int) (g : Int → Int) : Prop := 0 ≤ m ∧ (0 ≤ r ∧ r ≤ 3) ∧ (0 ≤ c ∧ c ≤ 2) ∧ g 0 = r + 1 ∧ g (18 + r) = c ∧ FP g ∧
  ∀ T' n', Ext T m T' n' → pRs T' n' 4 0 (fun _ => 0) = F1 T' n' (3 - r).toNat (F2 T' n' r (2 - c).toNat (pCh T' n' r e g)) ∧ pS T' n' e = pS T' n' m
/-- in a chain, behind a tile -/
def StC (T : Int → Int) (m r c t : Int) (g : Int → Int) : Prop := 0 ≤ m ∧ (0 ≤ r ∧ r ≤ 3) ∧ (0 ≤ c ∧ c ≤ 2) ∧ (1 ≤ t ∧ t ≤ 8) ∧ g 0 = r + 1 ∧ g (18 + r) = c + 1 ∧ g (22 + 3 * r + c) = t ∧ FP g ∧
  ∀ T' n', Ext T m T' n' → m < n' → pK1 (T' m) ≠ 2 → pRs T' n' 4 0 (fun _ => 0) = F1 T' n' (3 - r).toNat (F2 T' n' r (2 - c).toNat (pTs T' n' r c (9 - t).toNat t m g))
theorem StA.zero {T : Int → Int} : StA T 0 0 (fun _ => 0) := ⟨Int.le_refl 0, by decide, rfl, FP.zero, fun _ _ _ => rfl⟩
theorem jwd0 : ∀ k : Nat, k < 5 → jwd 0 (k : Int) = jwd 5 (k : Int) ∧ pK1 (jwd 5 (k : Int)) = 1 := by decide +kernel
theorem StA.round (h : StA T m r g) (hr : r ≤ 3) : StD (txS T m) (m + 6) r 0 (m + 5) (gORd g) := by
  obtain ⟨h0, h1, h2, h3, h4⟩ := h
  have f := h3.2.1 r h1.1 (by omega)
  refine ⟨by omega, ⟨h1.1, hr⟩, by decide, by show gORd g 0 = r + 1; unfold gORd; rw [upr_eqq rfl, h2], by unfold gORd; rw [upr_ne (by omega)]; exact f.2.2 (by omega), h3.ord (by omega), fun T' n' hx => ?_⟩
  obtain ⟨x1, x2, x3⟩ := hx.six h0
  have c0 : ∀ k : Nat, k < 5 → pK1 (T' (m + k)) = 1 := fun k hk => by rw [x2 k (by omega) (by omega)]; exact (jwd0 k hk).2
  have c5 : T' (m + 5) = 32 := (x2 5 (by decide) (by decide)).trans (by decide +kernel)
  have e0 : T' m = 114 := by have := x2 0 (by decide) (by decide); rw [Int.add_zero] at this; exact this.trans (by decide +kernel)
  obtain ⟨s0, k0⟩ := pK_at (T := T') (n := n') (m := m) (by omega) (by rw [e0]; decide)
  have kk : pK T' n' m = 1 := by rw [k0, e0]; decide
  have en : pE T' n' 1 m = m + 5 := by
    have z : ∀ k : Nat, k < 5 → pE T' n' 1 (m + k) = pE T' n' 1 (m + k + 1) := fun k hk => pE_t (by omega) (c0 k hk)
    have z0 := z 0 (by decide); have z1 := z 1 (by decide); have z2 := z 2 (by decide); have z3 := z 3 (by decide); have z4 := z 4 (by decide)
    have z5 : pE T' n' 1 (m + 5) = m + 5 := pE_f (fun h => by rw [c5] at h; exact absurd h.2 (by decide))
    simp only [Int.add_assoc] at z0 z1 z2 z3 z4
    have a0 : m + ((0 : Nat) : Int) = m := Int.add_zero m
    rw [a0] at z0
    exact z0.trans (z1.trans (z2.trans (z3.trans (z4.trans z5))))
  have nn : pN T' n' m = m + 5 := by unfold pN; rw [kk, if_pos (Or.inl rfl), s0, en]
  have hw : pW T' n' m 0 := by
    refine ⟨kk, by rw [nn, s0]; show m + 5 - m = 5; omega, fun k a b => ?_⟩
    obtain ⟨j, rfl⟩ := Int.eq_ofNat_of_zero_le a
    have hj : j < 5 := by have b2 : (j : Int) < 5 := b; omega
    rw [s0, x2 j (by omega) (by omega)]; exact (jwd0 j hj).1.symm
  refine ⟨?_, ?_⟩
  · rw [h4 T' n' x1, show (4 - r).toNat = (3 - r).toNat + 1 by omega, pRs_s, pIf_t hw, h2, show (3 : Nat) = 2 + 1 from rfl, pCs_s, nn]; rfl
  · exact (pS_t (by omega) (Or.inl c5)).trans (by rw [show m + 5 + 1 = m + 6 by omega])
theorem pTE0 {a b : Int} (hD : pD T n q 2) (h1 : pT1 T n q = a) (h2 : pT2 T n q = b) (ha : 0 ≤ a ∧ a ≤ 6) (hb : 0 ≤ b ∧ b ≤ 6) (hl : 0 < t → a = g (gTp r c (t - 1)) % 10) (ht : ¬ gThere g r (10 * a + b)) (t8 : t < 8) : pTE T n g r c t q = 0 := by
  unfold pTE
  rw [pIf_f (fun h => h hD), h1, h2, if_neg (by omega), if_neg (fun h => h.2 (hl h.1)), pIf_f (by unfold pTi; rw [h1, h2]; exact ht), if_pos t8]
/-- one tile more -/
theorem StD.tile {e a b : Int} (h : StD T m r c e g) (ha : 0 ≤ a ∧ a ≤ 6) (hb : 0 ≤ b ∧ b ≤ 6) (ht : ¬ gThere g r (10 * a + b)) : StC (txA (txA (txA T m 32) (m + 1) (48 + a)) (m + 1 + 1) (48 + b)) (m + 1 + 1 + 1) r c 1 (gAdd (gOCh g r) r c 0 (10 * a + b)) := by
  obtain ⟨h0, hr, hc, hg0, hgc, hp, h4⟩ := h
  have p1 : FP (gOCh g r) := hp.och hr.1 (by omega) (by omega)
  have g0 : gOCh g r 0 = r + 1 := by unfold gOCh; rw [upr_ne (by omega)]; exact hg0
  have gc : gOCh g r (18 + r) = c + 1 := by unfold gOCh; rw [upr_eqq rfl, hgc]
  have gl : gOCh g r (22 + 3 * r + c) = 0 := by unfold gOCh; rw [upr_ne (by omega)]; exact (hp.2.2.1 r c hr.1 (by omega) hc.1 (by omega)).2.2 (by omega)
  refine ⟨by omega, hr, hc, by decide, by rw [gAdd_o (by omega) (by unfold gTp; omega)]; exact g0, by rw [gAdd_o (by omega) (by unfold gTp; omega)]; exact gc, gAdd_l, p1.add hr.1 (by omega) hc.1 (by omega) gl.symm (by decide) (by omega), fun T' n' hx hn hk => ?_⟩
  obtain ⟨x1, y1, z1⟩ := hx.one (by omega)
  obtain ⟨x2, y2, z2⟩ := x1.one (by omega)
  obtain ⟨x3, y3, z3⟩ := x2.one h0
  obtain ⟨e1, e2⟩ := h4 T' n' x3
  obtain ⟨k1, k2, k3, k4, k5⟩ := tok2 (T := T') (n := n') (m := m) (e := e) (by omega) y3 y2 y1 (by omega) (by omega) (fun h => hk h.2) e2
  have hE : pTE T' n' (gOCh g r) r c 0 e = 0 := pTE0 k3 k4 k5 ha hb (fun h => absurd h (by decide)) (fun h => ht ((hp.there_och hr.1 (by omega) (by omega)).mp h)) (by decide)
  rw [e1]
  unfold pCh
  rw [if_pos k1, hgc, show (9 : Nat) = 8 + 1 from rfl]
  unfold pTs
  rw [if_pos k1, if_neg (fun h => h hE), k2]
  unfold pTi
  rw [k4, k5]
  rfl
theorem StC.tile {a b : Int} (h : StC T m r c t g) (t8 : t < 8) (ha : 0 ≤ a ∧ a ≤ 6) (hb : 0 ≤ b ∧ b ≤ 6) (hl : a = g (gTp r c (t - 1)) % 10) (ht : ¬ gThere g r (10 * a + b)) : StC (txA (txA (txA T m 32) (m + 1) (48 + a)) (m + 1 + 1) (48 + b)) (m + 1 + 1 + 1) r c (t + 1) (gAdd g r c t (10 * a + b)) := by
  obtain ⟨h0, hr, hc, ht1, hg0, hgc, hgl, hp, h4⟩ := h
  refine ⟨by omega, hr, hc, by omega, by rw [gAdd_o (by omega) (by unfold gTp; omega)]; exact hg0, by rw [gAdd_o (by omega) (by unfold gTp; omega)]; exact hgc, gAdd_l, hp.add hr.1 (by omega) hc.1 (by omega) hgl.symm t8 (by omega), fun T' n' hx hn hk => ?_⟩
  obtain ⟨x1, y1, z1⟩ := hx.one (by omega)
  obtain ⟨x2, y2, z2⟩ := x1.one (by omega)
  obtain ⟨x3, y3, z3⟩ := x2.one h0
  have e1 := h4 T' n' x3 (by omega) (by rw [y3]; decide)
  obtain ⟨k1, k2, k3, k4, k5⟩ := tok2 (T := T') (n := n') (m := m) (e := m) (by omega) y3 y2 y1 (by omega) (by omega) (fun h => hk h.2) rfl
  have hE : pTE T' n' g r c t m = 0 := pTE0 k3 k4 k5 ha hb (fun _ => hl) ht t8
  rw [e1, show (9 - t).toNat = (9 - (t + 1)).toNat + 1 by omega, pTs_s, if_pos k1, if_neg (fun h => h hE), k2]
  unfold pTi
  rw [k4, k5]
theorem pTs_end {k : Nat} (h : pK T n q ≠ 2) : pTs T n r c k t q g = (0, q, g) := by
  cases k with
  | zero => rfl
  | succ k => unfold pTs; rw [if_neg h]
theorem StC.comma (h : StC T m r c t g) (hc1 : c ≤ 1) : StD (txA T m 44) (m + 1) r (c + 1) (m + 1) g := by
  obtain ⟨h0, hr, hc, ht1, hg0, hgc, hgl, hp, h4⟩ := h
  refine ⟨by omega, hr, by omega, hg0, hgc, hp, fun T' n' hx => ?_⟩
  obtain ⟨x1, y1, z1⟩ := hx.one h0
  have e1 := h4 T' n' x1 (by omega) (by rw [y1]; decide)
  obtain ⟨s0, k0⟩ := pK_at (T := T') (n := n') (m := m) (by omega) (by rw [y1]; decide)
  have kk : pK T' n' m = 3 := by rw [k0, y1]; decide
  have nn : pN T' n' m = m + 1 := by unfold pN; rw [kk, if_neg (by decide), if_neg (by decide), s0]
  refine ⟨?_, rfl⟩
  rw [e1, pTs_end (by rw [kk]; decide)]
  congr 1
  show (if (0 : Int) ≠ 0 then _ else if pK T' n' m = 4 then _ else if pK T' n' m = 3 then pCs T' n' r (2 - c).toNat m g else _) = _
  rw [if_neg (by decide), kk, if_neg (by decide), if_pos rfl, show (2 - c).toNat = (2 - (c + 1)).toNat + 1 by omega, pCs_s, nn]
theorem StC.semi (h : StC T m r c t g) : StA (txA T m 59) (m + 1) (r + 1) g := by
  obtain ⟨h0, hr, hc, ht1, hg0, hgc, hgl, hp, h4⟩ := h
  refine ⟨by omega, by omega, hg0, hp, fun T' n' hx => ?_⟩
  obtain ⟨x1, y1, z1⟩ := hx.one h0
  have e1 := h4 T' n' x1 (by omega) (by rw [y1]; decide)
  obtain ⟨s0, k0⟩ := pK_at (T := T') (n := n') (m := m) (by omega) (by rw [y1]; decide)
  have kk : pK T' n' m = 4 := by rw [k0, y1]; decide
  have nn : pN T' n' m = m + 1 := by unfold pN; rw [kk, if_neg (by decide), if_neg (by decide), s0]
  have e2 : F2 T' n' r (2 - c).toNat (0, m, g) = (0, m, g) := by
    show (if (0 : Int) ≠ 0 then _ else if pK T' n' m = 4 then (0, m, g) else _) = _
    rw [if_neg (by decide), kk, if_pos rfl]
  rw [e1, pTs_end (by rw [kk]; decide), e2]
  show (if (0 : Int) ≠ 0 then _ else pRs T' n' (3 - r).toNat (pN T' n' m) g) = _
  rw [if_neg (by decide), nn, show (4 - (r + 1)).toNat = (3 - r).toNat by omega]
theorem pRs_no {k : Nat} (h : ¬ pW T n q 0) : pRs T n k q g = (0, q, g) := by
  cases k with
  | zero => show (pIf (pW T n q 0) 5 0, q, g) = _; rw [pIf_f h]
  | succ k => rw [pRs_s, pIf_f h]
/-- a whole text is a match -/
theorem StA.all (h : StA T m r g) (hr : 1 ≤ r) {T' : Int → Int} (hx : Ext T m T' m) : (pAll T' m).1 = 0 ∧ 1 ≤ (pAll T' m).2.2 0 ∧ (pAll T' m).2.2 4 = 0 := by
  obtain ⟨h0, h1, h2, h3, h4⟩ := h
  have s0 : pS T' m m = m := pS_f (fun h => by omega)
  have kk : pK T' m m = 0 := by unfold pK; rw [s0, if_neg (by omega)]
  have e : pRs T' m 4 0 (fun _ => 0) = (0, m, g) := by rw [h4 T' m hx]; exact pRs_no (fun h => by have := h.1; omega)
  have hw : pW T' m 0 0 := Classical.byContradiction fun hn => by
    rw [pRs_no hn] at e
    have e3 : (fun _ : Int => (0 : Int)) = g := congrArg (fun z => z.2.2) e
    have : g 0 = 0 := (congrFun e3 0).symm
    omega
  have eM : pMs T' m 500 m (gDeal g 0 0) = (0, m, gDeal g 0 0) := by
    rw [show (500 : Nat) = 499 + 1 from rfl]
    unfold pMs
    rw [if_pos kk]
  have eA : pAll T' m = (0, m, gDeal g 0 0) := by
    unfold pAll
    rw [pIf_t hw, e]
    show (if (0 : Int) ≠ 0 then _ else pMs T' m 500 m (gDeal g 0 0)) = _
    rw [if_neg (by decide), eM]
  rw [eA]
  exact ⟨rfl, by show 1 ≤ gDeal g 0 0 0; rw [gDeal_o (Or.inl rfl)]; omega, gDeal_4 (f := g) (r := 0) (st := 0)⟩
/-- the dominoes that a round has -/
def Had (u : Int → Int) (g : Int → Int) (r : Int) : Prop := ∀ x y : Int, 0 ≤ x → x ≤ 6 → 0 ≤ y → y ≤ 6 → (u (7 * x + y) = 0 ∨ u (7 * x + y) = 1) ∧ (u (7 * x + y) = 1 ↔ gThere g r (10 * x + y))
theorem Had.no {u : Int → Int} (h : Had u g r) {x y : Int} (hx : 0 ≤ x ∧ x ≤ 6) (hy : 0 ≤ y ∧ y ≤ 6) (h0 : u (7 * x + y) ≠ 1) : ¬ gThere g r (10 * x + y) := fun z => h0 ((h x y hx.1 hx.2 hy.1 hy.2).2.mpr z)
theorem Had.of0 {u : Int → Int} (h : FP g) (hr : 0 ≤ r ∧ r ≤ 3) (h0 : g (18 + r) = 0) (hu : ∀ i, u i = 0) : Had u g r := fun x y _ _ _ _ => ⟨Or.inl (hu _), by rw [hu]; exact ⟨fun z => absurd z (by decide), fun ⟨c, k, c0, c1, _⟩ => by omega⟩⟩
theorem Had.och {u : Int → Int} (h : Had u g r) (hp : FP g) (hr : 0 ≤ r) (hr2 : r < g 0) (h3 : g (18 + r) < 3) : Had u (gOCh g r) r := fun x y x0 x1 y0 y1 => ⟨(h x y x0 x1 y0 y1).1, (h x y x0 x1 y0 y1).2.trans (hp.there_och hr hr2 h3).symm⟩
theorem Had.add {u u' : Int → Int} {a b : Int} (h : Had u g r) (hp : FP g) (hr : 0 ≤ r) (hr2 : r < g 0) (hc : 0 ≤ c ∧ c < g (18 + r)) (ht : t = g (22 + 3 * r + c)) (t8 : t < 8) (ha : 0 ≤ a ∧ a ≤ 6) (hb : 0 ≤ b ∧ b ≤ 6) (hu : ∀ i, u' i = if i = 7 * b + a then 1 else if i = 7 * a + b then 1 else u i) : Had u' (gAdd g r c t (10 * a + b)) r := fun x y x0 x1 y0 y1 => by
  obtain ⟨h1, h2⟩ := h x y x0 x1 y0 y1
  have e := hp.there_add (y := 10 * x + y) (z := 10 * a + b) hr hr2 hc.1 hc.2 ht t8
  rw [show (10 * a + b) % 10 = b by omega, show (10 * a + b) / 10 = a by omega, show (10 * x + y) % 10 = y by omega, show (10 * x + y) / 10 = x by omega] at e
  rw [hu]
  by_cases q1 : 7 * x + y = 7 * b + a
  · rw [if_pos q1]
    exact ⟨Or.inr rfl, ⟨fun _ => e.mpr (Or.inr (Or.inr (by omega))), fun _ => rfl⟩⟩
  · rw [if_neg q1]
    by_cases q2 : 7 * x + y = 7 * a + b
    · rw [if_pos q2]
      exact ⟨Or.inr rfl, ⟨fun _ => e.mpr (Or.inr (Or.inl (by omega))), fun _ => rfl⟩⟩
    · rw [if_neg q2]
      refine ⟨h1, h2.trans (e.trans ⟨?_, Or.inl⟩).symm⟩
      rintro (z | z | z)
      · exact z
      · omega
      · omega
end P94
