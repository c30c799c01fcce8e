section PE
variable {T : Int → Int} {n r c t q : Int} {g : Int → Int}
theorem pTE_a (h : ¬ pD T n q 2) : pTE T n g r c t q = 1 := by unfold pTE; exact pIf_t h
theorem pTE_b (h : pD T n q 2) (h2 : 6 < pT1 T n q ∨ 6 < pT2 T n q) : pTE T n g r c t q = 2 := by unfold pTE; rw [pIf_f (not_not_intro h), if_pos h2]
theorem pTE_c (h : pD T n q 2) (h2 : ¬ (6 < pT1 T n q ∨ 6 < pT2 T n q)) (h3 : 0 < t ∧ pT1 T n q ≠ g (gTp r c (t - 1)) % 10) : pTE T n g r c t q = 3 := by unfold pTE; rw [pIf_f (not_not_intro h), if_neg h2, if_pos h3]
theorem pTE_d (h : pD T n q 2) (h2 : ¬ (6 < pT1 T n q ∨ 6 < pT2 T n q)) (h3 : ¬ (0 < t ∧ pT1 T n q ≠ g (gTp r c (t - 1)) % 10)) (h4 : gThere g r (pTi T n q)) : pTE T n g r c t q = 4 := by unfold pTE; rw [pIf_f (not_not_intro h), if_neg h2, if_neg h3, pIf_t h4]
theorem pTE_e (h : pD T n q 2) (h2 : ¬ (6 < pT1 T n q ∨ 6 < pT2 T n q)) (h3 : ¬ (0 < t ∧ pT1 T n q ≠ g (gTp r c (t - 1)) % 10)) (h4 : ¬ gThere g r (pTi T n q)) : pTE T n g r c t q = if t < 8 then 0 else 5 := by unfold pTE; rw [pIf_f (not_not_intro h), if_neg h2, if_neg h3, pIf_f h4]
noncomputable def pC3 (T : Int → Int) (n r c : Int) (k : Nat) (t q : Int) (g : Int → Int) : Int × Int × (Int → Int) := if pK T n q = 2 then pTs T n r c k t q g else (1, q, g)
theorem pC3_e {k : Nat} {e : Int} (h : pK T n q = 2) (h2 : pTE T n g r c t q = e) (he : e ≠ 0) : pC3 T n r c (k + 1) t q g = (e, q, g) := by
  unfold pC3
  rw [if_pos h]
  unfold pTs
  rw [if_pos h, if_pos (by rw [h2]; exact he), h2]
theorem pC3_n {k : Nat} (h : pK T n q ≠ 2) : pC3 T n r c k t q g = (1, q, g) := if_neg h
theorem pC3_s {k : Nat} (h : pK T n q = 2) (h2 : pTE T n g r c t q = 0) : pC3 T n r c (k + 1) t q g = pTs T n r c k (t + 1) (pN T n q) (gAdd g r c t (pTi T n q)) := by
  unfold pC3
  rw [if_pos h]
  show (if _ then _ else _) = _
  rw [if_pos h, if_neg (not_not_intro h2)]
/-- where the language has no such token -/
theorem pTok_D (h : ¬ pTok T n q) : pK T n q = 1 ∨ pK T n q = 2 ∨ pK T n q = 5 := by
  unfold pTok at h
  have := @pK_rng T n q
  omega
theorem pTok_2 (h : ¬ pTok T n q) {z : Int} (hz : z ≤ 2) : ¬ pD T n q z := by
  unfold pTok at h
  rintro ⟨a, b⟩
  omega
theorem pTs_bad {k : Nat} (h : ¬ pTok T n q) : (pTs T n r c (k + 1) t q g).2.1 = q ∧ ((pTs T n r c (k + 1) t q g).1 = 0 ∨ (pTs T n r c (k + 1) t q g).1 = 1) := by
  show (if _ then _ else _ : Int × Int × (Int → Int)).2.1 = q ∧ ((if _ then _ else _ : Int × Int × (Int → Int)).1 = 0 ∨ (if _ then _ else _ : Int × Int × (Int → Int)).1 = 1)
  by_cases a : pK T n q = 2
  · have e : pTE T n g r c t q = 1 := pTE_a (pTok_2 h (by decide))
    rw [if_pos a, e, if_pos (by decide)]
    exact ⟨rfl, Or.inr rfl⟩
  · rw [if_neg a]
    exact ⟨rfl, Or.inl rfl⟩
theorem pCh_bad (h : ¬ pTok T n q) : pCh T n r q g = (1, q, gOCh g r) := by
  unfold pCh
  by_cases a : pK T n q = 2
  · rw [if_pos a]
    have e : pTE T n (gOCh g r) r (g (18 + r)) 0 q = 1 := pTE_a (pTok_2 h (by decide))
    show (if _ then _ else _ : Int × Int × (Int → Int)) = _
    rw [if_pos a, e, if_pos (by decide)]
  · rw [if_neg a]
end PE
/-- the model, reading the rounds -/
def MD (T : Int → Int) (n : Int) (s : Nat → Int → Int) (g : Int → Int) (q : Int) : Prop := MK T n s q ∧ (MV s g ∧ s 137 2 = 2320) ∧ FP g
def FrN (s s' : Nat → Int → Int) : Prop := (∀ q j, q ≠ 138 → (q ≠ 137 ∨ j < 13 ∨ 16 < j) → s' q j = s q j) ∧ ∀ j, (j < 2320 ∨ 2552 ≤ j) → s' 138 j = s 138 j
def MR (T : Int → Int) (n : Int) (s s' : Nat → Int → Int) (w : Int) (z : Int × Int × (Int → Int)) (ok : Prop) : Prop :=
  FrN s s' ∧ (w = 1 ∧ z.1 = 0 ∧ pTok T n z.2.1 ∧ ok ∨ w = 0 ∧ s' 137 14 = pS T n z.2.1 ∧ (z.1 ≠ 0 ∧ s' 137 16 = z.1 ∨ z.1 = 0 ∧ ¬ pTok T n z.2.1 ∧ s' 137 16 = 1))
section MRs
variable {T : Int → Int} {n q w e : Int} {g : Int → Int} {s s' z : Nat → Int → Int} {r t : Int × Int × (Int → Int)} {ok ok2 : Prop}
theorem FrN.refl : FrN s s := ⟨fun _ _ _ _ => rfl, fun _ _ => rfl⟩
theorem FrN.trans (a : FrN s z) (b : FrN z s') : FrN s s' := ⟨fun q j h h2 => (b.1 q j h h2).trans (a.1 q j h h2), fun j h => (b.2 j h).trans (a.2 j h)⟩
theorem FrN.ft (f : FrT s s') : FrN s s' := ⟨fun q j _ h => f q j h, fun j _ => f 138 j (by omega)⟩
theorem FrN.fm (f : FrM s s') (h : s 137 2 = 2320) : FrN s s' := ⟨fun q j a _ => f.1 q j a, fun j a => f.2 j (by omega)⟩
theorem MV.ft {f : Int → Int} (h : MV s f ∧ s 137 2 = 2320) (k : FrT s s') : MV s' f ∧ s' 137 2 = 2320 := by
  have e : s' 137 2 = s 137 2 := k 137 2 (by omega)
  exact ⟨⟨by rw [e]; exact h.1.1, fun j a b => by rw [e, k 138 _ (by omega)]; exact h.1.2 j a b⟩, e.trans h.2⟩
theorem MV.at0 {f : Int → Int} (h : MV s f ∧ s 137 2 = 2320) (k : FrM s s') : s' 137 2 = 2320 := (k.1 137 2 (by omega)).trans h.2
theorem MK.fm (h : MK T n s q) (k : FrM s s') : MK T n s' q := h.keep fun a j x => k.1 a j (by omega)
theorem MR.bad (f : FrN s z) (h : MK T n z q) (e1 : r = (e, q, g)) (ne : e ≠ 0) : MR T n s (up z 137 16 e) 0 r ok := by
  subst e1
  exact ⟨f.trans ⟨fun a j x y => up_ne (by omega), fun j x => up_ne (by omega)⟩, Or.inr ⟨rfl, (up_ne (by omega)).trans h.2.2.2.1, Or.inl ⟨ne, up_eq _ _ _ _⟩⟩⟩
theorem MR.tok (f : FrN s z) (h : MK T n z q) (nt : ¬ pTok T n q) (h1 : z 137 16 = 1) (e1 : r.2.1 = q) (e2 : r.1 = 0 ∨ r.1 = 1) : MR T n s z 0 r ok := by
  refine ⟨f, Or.inr ⟨rfl, by rw [e1]; exact h.2.2.2.1, ?_⟩⟩
  rcases e2 with e2 | e2
  · exact Or.inr ⟨e2, by rw [e1]; exact nt, h1⟩
  · exact Or.inl ⟨by omega, by omega⟩
theorem MR.good (f : FrN s z) (e1 : r.1 = 0) (h1 : pTok T n r.2.1) (h : ok) : MR T n s z 1 r ok := ⟨f, Or.inl ⟨rfl, e1, h1, h⟩⟩
theorem MR.went (h : MR T n z s' w r ok) (h0 : w ≠ 0) : r.1 = 0 ∧ pTok T n r.2.1 ∧ ok := by
  obtain ⟨_, ⟨a, b⟩ | ⟨a, b⟩⟩ := h
  · exact b
  · exact absurd a h0
/-- a part has failed: with its error, or at a token that the language has not -/
theorem MR.fails (f : FrN s z) (h : MR T n z s' w r ok) (h0 : w = 0) (e1 : r.1 ≠ 0 → t = r) (e2 : r.1 = 0 → ¬ pTok T n r.2.1 → t.2.1 = r.2.1 ∧ t.1 = 1) : MR T n s s' 0 t ok2 := by
  obtain ⟨f2, ⟨a, b⟩ | ⟨a, b, c⟩⟩ := h
  · omega
  · refine ⟨f.trans f2, Or.inr ⟨rfl, ?_⟩⟩
    rcases c with ⟨c, d⟩ | ⟨c, d, x⟩
    · rw [e1 c]; exact ⟨b, Or.inl ⟨c, d⟩⟩
    · obtain ⟨y, y2⟩ := e2 c d
      exact ⟨by rw [y]; exact b, Or.inl ⟨by omega, by omega⟩⟩
theorem MR.rng (h : MR T n s s' w r ok) : 0 ≤ w ∧ w ≤ 1 := by
  obtain ⟨f2, ⟨a, b⟩ | ⟨a, b⟩⟩ := h <;> omega
end MRs
def gHit (g : Int → Int) (r z c j : Int) : Prop := g (gTp r c j) = z ∨ g (gTp r c j) % 10 = z / 10 ∧ g (gTp r c j) / 10 = z % 10
set_option maxHeartbeats 1000000 in
theorem k_X9_isThere_17 {Γ : jE} (hl : Γ.1.stackTraces = false) {s : Nat → Int → Int} {ε : jEps} {d : Nat} {r : Int} {z : Int} {g : Int → Int} (hd : 1 ≤ d) (p0 : MV s g) (p1 : FP g) (p2 : 0 ≤ r ∧ r < 4) (p3 : 0 ≤ z ∧ z < 100) {mc ms : Nat} {P : Option Value → jM → Prop} {X : String → jM → Prop} : ∀ (k : Nat) {c t : Int} (q0 : ((k : Nat) : Int) = g (22 + 3 * r + c) - t) (q1 : 0 ≤ t) (q2 : ∀ j, 0 ≤ j → j < t → ¬ gHit g r z c j) (q3 : 0 ≤ c ∧ c < g (18 + r)) (q4 : gThere g r z → P (some (.int (iI 1))) (jmem s ε)) (kx : ∀ s', (s' = s ∧ ∀ j, 0 ≤ j → j < g (22 + 3 * r + c) → ¬ gHit g r z c j) → J Γ (d, mc, ms) mX9_isThere 85 [some (.ref 137), some (.int (iI r)), some (.int (iI z)), some (.int (iI (c))), none, none] [] (jmem s' ε) P X), J Γ (d, mc, ms) mX9_isThere 17 [some (.ref 137), some (.int (iI r)), some (.int (iI z)), some (.int (iI (c))), some (.int (iI (t))), none] [] (jmem s ε) P X := by
  have a2 := p1.2.1 r p2.1 p2.2
  have a3 := p1.2.2.1 r
  have a4 := p1.2.2.2.1 r
  intro k
  induction k with
  | zero =>
    intro c t q0 q1 q2 q3 q4 kx
    have x3 := a3 c p2.1 p2.2 (by omega) (by omega)
    have x4 := a4 c t p2.1 p2.2 (by omega) (by omega) q1
    refine J.iload dX9_isThere_17 rfl ?_
    refine J.aload_n 0 dX9_isThere_19 rfl rfl ?_
    refine I.bipush dX9_isThere_20 (by decide) ?_
    refine I.iconst dX9_isThere_22 ?_
    refine J.iload_n 1 dX9_isThere_23 rfl rfl ?_
    refine I.mul dX9_isThere_24 ?_
    refine I.add dX9_isThere_25 ?_
    refine J.iload_n 3 dX9_isThere_26 rfl rfl ?_
    refine I.add dX9_isThere_27 ?_
    refine I.callV1i (d' := d - 1) (mi' := mX9_get) dX9_isThere_28 lX9_46 eX9_get rfl rfl (c_X9_get (d := d - 1) hl (by omega) p0 (by first | omega | assumption)) (show d - 1 + 1 ≤ d from by omega) (Nat.le_of_ble_eq_true rfl) ?_
    refine I.icmp_ge 85 dX9_isThere_31 (by decide) (by omega) (by omega) (fun h31 => ?_) (fun h31 => ?_)
    · skip
      exact J.fgt (by exact ⟨Or.inr rfl, Or.inr rfl, Or.inr rfl, Or.inr rfl, Or.inl rfl, Or.inl rfl, trivial⟩) (kx _ ⟨rfl, fun j a b => q2 j a (by omega)⟩)
    · exact absurd h31 (by omega)
  | succ k ih =>
    intro c t q0 q1 q2 q3 q4 kx
    have x3 := a3 c p2.1 p2.2 (by omega) (by omega)
    have x4 := a4 c t p2.1 p2.2 (by omega) (by omega) q1
    refine J.iload dX9_isThere_17 rfl ?_
    refine J.aload_n 0 dX9_isThere_19 rfl rfl ?_
    refine I.bipush dX9_isThere_20 (by decide) ?_
    refine I.iconst dX9_isThere_22 ?_
    refine J.iload_n 1 dX9_isThere_23 rfl rfl ?_
    refine I.mul dX9_isThere_24 ?_
    refine I.add dX9_isThere_25 ?_
    refine J.iload_n 3 dX9_isThere_26 rfl rfl ?_
    refine I.add dX9_isThere_27 ?_
    refine I.callV1i (d' := d - 1) (mi' := mX9_get) dX9_isThere_28 lX9_46 eX9_get rfl rfl (c_X9_get (d := d - 1) hl (by omega) p0 (by first | omega | assumption)) (show d - 1 + 1 ≤ d from by omega) (Nat.le_of_ble_eq_true rfl) ?_
    refine I.icmp_ge 85 dX9_isThere_31 (by decide) (by omega) (by omega) (fun h31 => ?_) (fun h31 => ?_)
    · exact absurd h31 (by omega)
    · skip
      refine J.aload_n 0 dX9_isThere_34 rfl rfl ?_
      refine J.iload_n 1 dX9_isThere_35 rfl rfl ?_
      refine J.iload_n 3 dX9_isThere_36 rfl rfl ?_
      refine J.iload dX9_isThere_37 rfl ?_
      refine I.callS3i (d' := d - 1) (mi' := mX9_tilePlace) dX9_isThere_39 lX9_63 eX9_tilePlace rfl (c_X9_tilePlace (d := d - 1) hl (by omega) ) (show d - 1 + 1 ≤ d from by omega) (Nat.le_of_ble_eq_true rfl) ?_
      refine I.callV1i (d' := d - 1) (mi' := mX9_get) dX9_isThere_42 lX9_46 eX9_get rfl rfl (c_X9_get (d := d - 1) hl (by omega) p0 (by first | omega | assumption)) (show d - 1 + 1 ≤ d from by omega) (Nat.le_of_ble_eq_true rfl) ?_
      refine I.sx (show _ = g (gTp r c t) from rfl) ?_
      have x5 := x4 (by omega)
      refine J.istore dX9_isThere_45 (by decide) rfl ?_
      refine J.iload dX9_isThere_47 rfl ?_
      refine J.iload_n 2 dX9_isThere_49 rfl rfl ?_
      refine I.icmp_eq 77 dX9_isThere_50 (by decide) (by omega) (by omega) (fun h50 => ?_) (fun h50 => ?_)
      · skip
        refine I.iconst dX9_isThere_77 ?_
        have hit : gHit g r z c t := (by unfold gHit; first | exact Or.inl (by assumption) | exact Or.inr ⟨by assumption, by assumption⟩)
        exact J.zret rfl (by decide) dX9_isThere_78 (q4 ⟨c, t, q3.1, q3.2, q1, by omega, hit⟩)
      · skip
        refine J.iload dX9_isThere_53 rfl ?_
        refine I.bipush dX9_isThere_55 (by decide) ?_
        refine I.rem dX9_isThere_57 (by omega) (by omega) ?_
        refine J.iload_n 2 dX9_isThere_58 rfl rfl ?_
        refine I.bipush dX9_isThere_59 (by decide) ?_
        refine I.div dX9_isThere_61 (by omega) (by omega) ?_
        refine I.icmp_ne 79 dX9_isThere_62 (by decide) (by omega) (by omega) (fun h62 => ?_) (fun h62 => ?_)
        · skip
          refine I.iinc dX9_isThere_79 rfl rfl ?_
          refine J.goto 17 dX9_isThere_82 (by decide) ?_
          exact J.fgt (by exact ⟨Or.inr rfl, Or.inr rfl, Or.inr rfl, Or.inr rfl, Or.inr rfl, Or.inl rfl, trivial⟩) (ih (by omega) (by omega) (fun j a b => by by_cases e : j = t; (rw [e]; unfold gHit; omega); exact q2 j a (by omega)) q3 q4 kx)
        · skip
          refine J.iload dX9_isThere_65 rfl ?_
          refine I.bipush dX9_isThere_67 (by decide) ?_
          refine I.div dX9_isThere_69 (by omega) (by omega) ?_
          refine J.iload_n 2 dX9_isThere_70 rfl rfl ?_
          refine I.bipush dX9_isThere_71 (by decide) ?_
          refine I.rem dX9_isThere_73 (by omega) (by omega) ?_
          refine I.icmp_ne 79 dX9_isThere_74 (by decide) (by omega) (by omega) (fun h74 => ?_) (fun h74 => ?_)
          · skip
            refine I.iinc dX9_isThere_79 rfl rfl ?_
            refine J.goto 17 dX9_isThere_82 (by decide) ?_
            exact J.fgt (by exact ⟨Or.inr rfl, Or.inr rfl, Or.inr rfl, Or.inr rfl, Or.inr rfl, Or.inl rfl, trivial⟩) (ih (by omega) (by omega) (fun j a b => by by_cases e : j = t; (rw [e]; unfold gHit; omega); exact q2 j a (by omega)) q3 q4 kx)
          · skip
            refine I.iconst dX9_isThere_77 ?_
            have hit : gHit g r z c t := (by unfold gHit; first | exact Or.inl (by assumption) | exact Or.inr ⟨by assumption, by assumption⟩)
            exact J.zret rfl (by decide) dX9_isThere_78 (q4 ⟨c, t, q3.1, q3.2, q1, by omega, hit⟩)
set_option maxHeartbeats 1000000 in
theorem k_X9_isThere_2 {Γ : jE} (hl : Γ.1.stackTraces = false) {s : Nat → Int → Int} {ε : jEps} {d : Nat} {r : Int} {z : Int} {g : Int → Int} (hd : 1 ≤ d) (p0 : MV s g) (p1 : FP g) (p2 : 0 ≤ r ∧ r < 4) (p3 : 0 ≤ z ∧ z < 100) : ∀ (k : Nat) {c : Int} (q0 : ((k : Nat) : Int) = g (18 + r) - c) (q1 : 0 ≤ c) (q2 : ∀ y j, 0 ≤ y → y < c → 0 ≤ j → j < g (22 + 3 * r + y) → ¬ gHit g r z y j), J Γ (d, 0, 0) mX9_isThere 2 [some (.ref 137), some (.int (iI r)), some (.int (iI z)), some (.int (iI (c))), none, none] [] (jmem s ε) (RI (bI (gThere g r z)) (s) ε) X0 := by
  have a2 := p1.2.1 r p2.1 p2.2
  have a3 := p1.2.2.1 r
  have a4 := p1.2.2.2.1 r
  intro k
  induction k with
  | zero =>
    intro c q0 q1 q2
    refine J.iload_n 3 dX9_isThere_2 rfl rfl ?_
    refine J.aload_n 0 dX9_isThere_3 rfl rfl ?_
    refine I.bipush dX9_isThere_4 (by decide) ?_
    refine J.iload_n 1 dX9_isThere_6 rfl rfl ?_
    refine I.add dX9_isThere_7 ?_
    refine I.callV1i (d' := d - 1) (mi' := mX9_get) dX9_isThere_8 lX9_46 eX9_get rfl rfl (c_X9_get (d := d - 1) hl (by omega) p0 (by first | omega | assumption)) (show d - 1 + 1 ≤ d from by omega) (Nat.le_of_ble_eq_true rfl) ?_
    refine I.icmp_ge 91 dX9_isThere_11 (by decide) (by omega) (by omega) (fun h11 => ?_) (fun h11 => ?_)
    · skip
      refine I.iconst dX9_isThere_91 ?_
      exact I.zretI dX9_isThere_92 rfl (by first | exact Or.inl rfl | exact Or.inr rfl | exact bI_01 _ | omega) (bI_f (by rintro ⟨y, j, y0, y1, j0, j1, h⟩; exact q2 y j y0 (by omega) j0 j1 h)).symm rfl
    · exact absurd h11 (by omega)
  | succ k ih =>
    intro c q0 q1 q2
    refine J.iload_n 3 dX9_isThere_2 rfl rfl ?_
    refine J.aload_n 0 dX9_isThere_3 rfl rfl ?_
    refine I.bipush dX9_isThere_4 (by decide) ?_
    refine J.iload_n 1 dX9_isThere_6 rfl rfl ?_
    refine I.add dX9_isThere_7 ?_
    refine I.callV1i (d' := d - 1) (mi' := mX9_get) dX9_isThere_8 lX9_46 eX9_get rfl rfl (c_X9_get (d := d - 1) hl (by omega) p0 (by first | omega | assumption)) (show d - 1 + 1 ≤ d from by omega) (Nat.le_of_ble_eq_true rfl) ?_
    refine I.icmp_ge 91 dX9_isThere_11 (by decide) (by omega) (by omega) (fun h11 => ?_) (fun h11 => ?_)
    · exact absurd h11 (by omega)
    · skip
      refine I.iconst dX9_isThere_14 ?_
      refine J.istore dX9_isThere_15 (by decide) rfl ?_
      refine J.fgt (by exact ⟨Or.inr rfl, Or.inr rfl, Or.inr rfl, Or.inr rfl, Or.inr rfl, Or.inl rfl, trivial⟩) (k_X9_isThere_17 hl (by omega) p0 p1 p2 p3 ((g (22 + 3 * r + c)).toNat) (by have := a3 c p2.1 p2.2 (by omega) (by omega); omega) (by omega) (fun j a b => by omega) ⟨by omega, by omega⟩ (fun h => ⟨by rw [bI_t h], rfl⟩) ?_)
      rintro _ ⟨rfl, n17⟩
      refine I.iinc dX9_isThere_85 rfl rfl ?_
      refine J.goto 2 dX9_isThere_88 (by decide) ?_
      exact J.fgt (by exact ⟨Or.inr rfl, Or.inr rfl, Or.inr rfl, Or.inr rfl, Or.inl rfl, Or.inl rfl, trivial⟩) (ih (by omega) (by omega) (fun y j y0 y1 j0 j1 => by by_cases e : y = c; (rw [e] at j1 ⊢; exact n17 j j0 j1); exact q2 y j y0 (by omega) j0 j1))
set_option maxHeartbeats 1000000 in
theorem c_X9_isThere {Γ : jE} (hl : Γ.1.stackTraces = false) {s : Nat → Int → Int} {ε : jEps} {d : Nat} {r : Int} {z : Int} {g : Int → Int} (hd : 1 ≤ d) (p0 : MV s g) (p1 : FP g) (p2 : 0 ≤ r ∧ r < 4) (p3 : 0 ≤ z ∧ z < 100) : Con Γ (d, 0, 0) mX9_isThere [.ref 137, .int (iI r), .int (iI z)] (jmem s ε) (RI (bI (gThere g r z)) (s) ε) X0 := by
  refine Con.ofJ (by decide +kernel) (by simp [Value.category]) (Nat.le_of_ble_eq_true rfl) ?_ hl
  have a2 := p1.2.1 r p2.1 p2.2
  have a3 := p1.2.2.1 r
  have a4 := p1.2.2.2.1 r
  refine I.iconst dX9_isThere_0 ?_
  refine J.istore_n 3 dX9_isThere_1 rfl (by decide) rfl ?_
  exact J.fgt (by exact ⟨Or.inr rfl, Or.inr rfl, Or.inr rfl, Or.inr rfl, Or.inl rfl, Or.inl rfl, trivial⟩) (k_X9_isThere_2 hl (by omega) p0 p1 p2 p3 ((g (18 + r)).toNat) (by omega) (by omega) (fun y j a b => by omega))
