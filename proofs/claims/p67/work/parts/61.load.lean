section PB
variable {T : Int → Int} {n r c : Int}
theorem pAll_eq : pAll T n = if (pLay T n).1 ≠ 0 then pLay T n else pMs T n 500 (pLay T n).2.1 (gDeal (pLay T n).2.2 0 0) := by
  unfold pAll pLay
  by_cases w : pW T n 0 0
  · rw [pIf_t w, pIf_t w]
  · rw [pIf_f w, pIf_f w]; rfl
theorem pLay_inv (h : 0 ≤ n) (e : (pLay T n).1 = 0) : FL (pLay T n).2.2 := by
  unfold pLay at e ⊢
  by_cases w : pW T n 0 0
  · rw [pIf_t w] at e ⊢
    obtain ⟨a, b, c, d, f, g⟩ := pRs_inv 4 0 _ h FP.zero rfl (fun r a (b : r < 0) => by omega) e
    have g := g w
    exact a.full (by have : (0 : Int) < (pRs T n 4 0 fun _ => 0).2.2 0 := g; omega) b
  · rw [pIf_f w] at e; exact absurd (show (1 : Int) = 0 from e) (by decide)
end PB
def aLd (a : AS) (g : Int → Int) : AS := (g, 0, aH a, 0, aG a, aX a, aT a, 0, 0, -1)
def aBad (a : AS) (e p : Int) : AS := (a.1, aN a, aH a, aB a, aG a, aX a, aT a, 0, e, p)
theorem AI.t {a : AS} (i : AI a) : PTx (aT a) (aL a) := ⟨i.2.2.2.2.2.2.1, i.2.2.2.2.2.2.2.1⟩
theorem AI.ld {a : AS} {g : Int → Int} (i : AI a) (hl : FL g) (hv : FS g) : AI (aLd a g) :=
  ⟨⟨hl, hv⟩, by show 0 ≤ (0 : Int) ∧ (0 : Int) ≤ 8; decide, fun k k0 (k1 : k < 0) => by omega, Or.inl rfl, fun (h : (0 : Int) = 1) => absurd h (by decide), i.2.2.2.2.2.1, by show 0 ≤ (0 : Int) ∧ (0 : Int) ≤ 500; decide, fun j j0 (j1 : j < 0) => by omega, by show 0 ≤ (0 : Int) ∧ (0 : Int) ≤ 6; decide, by show -1 ≤ (-1 : Int) ∧ (-1 : Int) ≤ 500; decide⟩
theorem AI.bad {a : AS} {e p : Int} (i : AI a) (he : 0 ≤ e ∧ e ≤ 6) (hp : -1 ≤ p ∧ p ≤ 500) : AI (aBad a e p) :=
  ⟨i.1, i.2.1, i.2.2.1, i.2.2.2.1, i.2.2.2.2.1, i.2.2.2.2.2.1, by show 0 ≤ (0 : Int) ∧ (0 : Int) ≤ 500; decide, fun j j0 (j1 : j < 0) => by omega, he, hp⟩
section CIl
variable {a : AS} {s s' : Nat → Int → Int} {g : Int → Int} {e p : Int}
/-- the class behind a text with a fault -/
theorem CI.bad (h : CI s a) (f : ∀ q j, (q ≠ 0 ∨ j < 1 ∨ 3 < j) → (q < 2 ∨ 20 < q) → s' q j = s q j) (k1 : s' 0 1 = 0) (k2 : s' 0 2 = e) (k3 : s' 0 3 = p) : CI s' (aBad a e p) := by
  obtain ⟨c1, c2, c3, c4, c5, c6, c7, c8⟩ := h
  refine ⟨c1.congr fun q j x y => f q j (by omega) (by omega), c2.keep fun q j x => f q j (by omega) (by omega), ⟨by rw [f _ _ (by omega) (by omega)]; exact c3.1, by rw [f _ _ (by omega) (by omega)]; exact c3.2.1, by rw [f _ _ (by omega) (by omega)]; exact c3.2.2.1, fun j j0 j1 => ?_⟩, ⟨by rw [f _ _ (by omega) (by omega)]; exact c4.1, fun b => (c4.2 b).congr fun q i a b => f q i (by omega) (by omega)⟩, c5.congr (f _ _ (by omega) (by omega)) (fun i => f _ _ (by omega) (by omega)), ⟨k1, fun i i0 (i1 : i < 0) => by omega⟩, k2, k3⟩
  rw [f 61 2 (by omega) (by omega)]
  exact (c3.2.2.2 j j0 j1).congr fun q i a b => f q i (by omega) (by omega)
/-- .. behind a good one -/
theorem CI.ld (h : CI s a) (r : RM s' 21 g) (f : ∀ q j, 36 ≤ q → (q ≠ 61 ∨ j ≠ 1) → (q ≠ 51 ∨ j ≠ 10) → s' q j = s q j) (h1 : s' 61 1 = 0) (h2 : s' 51 10 = -1) (h3 : s' 0 10 = 0) (k1 : s' 0 1 = 0) (k2 : s' 0 2 = 0) (k3 : s' 0 3 = -1) (k5 : TX s' 136 135 1 (aX a)) : CI s' (aLd a g) := by
  obtain ⟨c1, c2, c3, c4, c5, c6, c7, c8⟩ := h
  refine ⟨r, ?_, ⟨h1, by rw [f _ _ (by omega) (by omega) (by omega)]; exact c3.2.1, by rw [f _ _ (by omega) (by omega) (by omega)]; exact c3.2.2.1, fun j j0 (j1 : j < 0) => by omega⟩, ⟨h3, fun (b : (0 : Int) = 1) => absurd b (by decide)⟩, k5, ⟨k1, fun i i0 (i1 : i < 0) => by omega⟩, k2, k3⟩
  obtain ⟨t1, t2, t3, t4⟩ := c2
  exact ⟨fun lo hi x y z => by rw [f _ _ (by omega) (by omega) (by omega), f _ _ (by omega) (by omega) (by omega)]; exact t1 lo hi x y z, by rw [f 51 11 (by omega) (by omega) (by omega)]; exact t2, by rw [f 51 12 (by omega) (by omega) (by omega)]; exact t3, Or.inl h2⟩
end CIl
set_option maxHeartbeats 1000000 in
theorem c_X5_forget {Γ : jE} (hl : Γ.1.stackTraces = false) {s : Nat → Int → Int} {ε : jEps} {d : Nat} (hd : 0 ≤ d) : Con Γ (d, 0, 0) mX5_forget [.ref 51] (jmem s ε) (RV (up s 51 10 (-1)) ε) X0 := by
  refine Con.ofJ (by decide +kernel) (by simp [Value.category]) (Nat.le_of_ble_eq_true rfl) ?_ hl
  refine J.aload_n 0 dX5_forget_0 rfl rfl ?_
  refine I.iconst dX5_forget_1 ?_
  refine I.pI 10 rfl dX5_forget_2 jcls fX5_40 rfl (by decide) rfl ?_
  exact I.vret dX5_forget_5 rfl rfl
set_option maxHeartbeats 1000000 in
theorem c_X8_load {Γ : jE} (hl : Γ.1.stackTraces = false) {s : Nat → Int → Int} {ε : jEps} {d : Nat} {a : AS} (hd : 7 ≤ d) (p0 : CI s a) (p1 : AI a) : Con Γ (d, 1, 6) mX8_load [.ref 0] (jmem s ε) (RQ (fun w s' => (pAll (aT a) (aL a)).1 = 0 ∧ (pAll (aT a) (aL a)).2.2 0 = w ∧ CI s' (aLd a (pAll (aT a) (aL a)).2.2) ∧ AI (aLd a (pAll (aT a) (aL a)).2.2) ∧ HiE s s') ε) (XQ "java/lang/IllegalArgumentException" (fun s' => (pAll (aT a) (aL a)).1 ≠ 0 ∧ CI s' (aBad a (pAll (aT a) (aL a)).1 (pS (aT a) (aL a) (pAll (aT a) (aL a)).2.1)) ∧ HiE s s') ε) := by
  refine Con.ofJ (by decide +kernel) (by simp [Value.category]) (Nat.le_of_ble_eq_true rfl) ?_ hl
  have l0 := p1.t.1
  refine J.aload_n 0 dX8_load_0 rfl rfl ?_
  refine I.getR dX8_load_1 jcls fX8_23 rfl (by decide) rfl rfl ?_
  refine J.aload_n 0 dX8_load_4 rfl rfl ?_
  refine I.getR dX8_load_5 jcls fX8_9 rfl (by decide) rfl rfl ?_
  refine J.aload_n 0 dX8_load_8 rfl rfl ?_
  refine I.gI 1 rfl dX8_load_9 jcls fX8_68 rfl (by decide) rfl ?_
  refine I.sx p0.2.2.2.2.2.1.1 ?_
  refine I.callV2q (d' := d - 1) (mi' := mX3_readRounds) dX8_load_12 lX8_91 eX3_readRounds rfl rfl (c_X3_readRounds (d := d - 1) hl (by omega) p1.t p0.2.2.2.2.2.1.2) (show d - 1 + 1 ≤ d from by omega) (Nat.le_of_ble_eq_true rfl) ?_
  rintro w12 s12 o12
  refine I.if_eq 32 dX8_load_15 (by decide) (by have := o12.rng; omega) (fun h15 => ?_) (fun h15 => ?_)
  · skip
    have e9 : pAll (aT a) (aL a) = pLay (aT a) (aL a) := by rw [pAll_eq]; exact if_pos (by rcases o12.2 with x | x; omega; exact x.1)
    have ne : (pAll (aT a) (aL a)).1 ≠ 0 := by rw [e9]; rcases o12.2 with x | x; omega; exact x.1
    have b2 : s12 2 4 = (pAll (aT a) (aL a)).1 ∧ s12 2 5 = pS (aT a) (aL a) (pAll (aT a) (aL a)).2.1 := by rw [e9]; rcases o12.2 with x | x; omega; exact x.2.2
    have f2 := o12.1
    refine I.iconst dX8_load_32 ?_
    refine J.istore_n 1 dX8_load_33 rfl (by decide) rfl ?_
    refine J.aload_n 0 dX8_load_34 rfl rfl ?_
    refine I.iconst dX8_load_35 ?_
    refine I.pI 1 rfl dX8_load_36 jcls fX8_68 rfl (by decide) rfl ?_
    refine J.aload_n 0 dX8_load_39 rfl rfl ?_
    refine J.aload_n 0 dX8_load_40 rfl rfl ?_
    refine I.getR dX8_load_41 jcls fX8_23 rfl (by decide) rfl rfl ?_
    skip
    refine I.gI 4 rfl dX8_load_44 jcls fX8_99 rfl (by decide) rfl ?_
    refine I.sx (show _ = pIf ((pAll (aT a) (aL a)).1 = 0) 0 (pAll (aT a) (aL a)).1 by first | exact ((up_ne (by omega)).trans b2.1).trans (pIf_f ne).symm | exact ((up_ne (by omega)).trans c22.2.2.1).trans (pIf_t (by rw [e8]; exact z22)).symm) ?_
    refine I.pI 2 rfl dX8_load_47 jcls fX8_13 rfl (by decide) rfl ?_
    refine J.aload_n 0 dX8_load_50 rfl rfl ?_
    refine J.aload_n 0 dX8_load_51 rfl rfl ?_
    refine I.getR dX8_load_52 jcls fX8_23 rfl (by decide) rfl rfl ?_
    refine I.gI 5 rfl dX8_load_55 jcls fX8_100 rfl (by decide) rfl ?_
    refine I.sx (show _ = pIf ((pAll (aT a) (aL a)).1 = 0) (-1) (pS (aT a) (aL a) (pAll (aT a) (aL a)).2.1) by first | exact ((up_ne (by omega)).trans ((up_ne (by omega)).trans b2.2)).trans (pIf_f ne).symm | exact ((up_ne (by omega)).trans ((up_ne (by omega)).trans c22.2.2.2)).trans (pIf_t (by rw [e8]; exact z22)).symm) ?_
    refine I.pI 3 rfl dX8_load_58 jcls fX8_17 rfl (by decide) rfl ?_
    refine J.iload_n 1 dX8_load_61 rfl rfl ?_
    refine I.if_ne 75 dX8_load_62 (by decide) (by omega) (fun h62 => ?_) (fun h62 => ?_)
    · exact absurd h62 (by omega)
    · skip
      exact I.throw90 (text := "the text has an error") rfl (by decide) (Or.inl ⟨dX8_load_65, dX8_load_68, dX8_load_69, dX8_load_71, dX8_load_74⟩) (show 1 ≤ 1 ∧ 6 ≤ 6 from by decide) ⟨rfl, _, rfl, ne, p0.bad (fun q j x y => (up_ne (by omega)).trans ((up_ne (by omega)).trans ((up_ne (by omega)).trans (f2 q j (by omega))))) ((up_ne (by omega)).trans ((up_ne (by omega)).trans (up_eq _ _ _ _))) ((up_ne (by omega)).trans ((up_eq _ _ _ _).trans (pIf_f ne))) ((up_eq _ _ _ _).trans (pIf_f ne)), fun q j x => (up_ne (by omega)).trans ((up_ne (by omega)).trans ((up_ne (by omega)).trans (f2 q j (by omega))))⟩
  · skip
    obtain ⟨z12, c12⟩ := o12.went h15
    have e8 : pAll (aT a) (aL a) = pMs (aT a) (aL a) 500 (pLay (aT a) (aL a)).2.1 (gDeal (pLay (aT a) (aL a)).2.2 0 0) := by rw [pAll_eq]; exact if_neg (not_not_intro z12)
    refine J.aload_n 0 dX8_load_18 rfl rfl ?_
    refine I.getR dX8_load_19 jcls fX8_23 rfl (by decide) rfl rfl ?_
    refine I.callV0q (d' := d - 1) (mi' := mX3_readMoves) dX8_load_22 lX8_95 eX3_readMoves rfl rfl (c_X3_readMoves (d := d - 1) hl (by omega) p1.t c12 (pLay_inv p1.t.1.1 z12)) (show d - 1 + 1 ≤ d from by omega) (Nat.le_of_ble_eq_true rfl) ?_
    rintro w22 s22 o22
    refine I.if_eq 32 dX8_load_25 (by decide) (by have := o22.rng; omega) (fun h25 => ?_) (fun h25 => ?_)
    · skip
      have ne : (pAll (aT a) (aL a)).1 ≠ 0 := by rw [e8]; rcases o22.2 with x | x; omega; exact x.1
      have b2 : s22 2 4 = (pAll (aT a) (aL a)).1 ∧ s22 2 5 = pS (aT a) (aL a) (pAll (aT a) (aL a)).2.1 := by rw [e8]; rcases o22.2 with x | x; omega; exact x.2.2
      have f2 := o12.1.trans o22.1
      refine I.iconst dX8_load_32 ?_
      refine J.istore_n 1 dX8_load_33 rfl (by decide) rfl ?_
      refine J.aload_n 0 dX8_load_34 rfl rfl ?_
      refine I.iconst dX8_load_35 ?_
      refine I.pI 1 rfl dX8_load_36 jcls fX8_68 rfl (by decide) rfl ?_
      refine J.aload_n 0 dX8_load_39 rfl rfl ?_
      refine J.aload_n 0 dX8_load_40 rfl rfl ?_
      refine I.getR dX8_load_41 jcls fX8_23 rfl (by decide) rfl rfl ?_
      skip
      refine I.gI 4 rfl dX8_load_44 jcls fX8_99 rfl (by decide) rfl ?_
      refine I.sx (show _ = pIf ((pAll (aT a) (aL a)).1 = 0) 0 (pAll (aT a) (aL a)).1 by first | exact ((up_ne (by omega)).trans b2.1).trans (pIf_f ne).symm | exact ((up_ne (by omega)).trans c22.2.2.1).trans (pIf_t (by rw [e8]; exact z22)).symm) ?_
      refine I.pI 2 rfl dX8_load_47 jcls fX8_13 rfl (by decide) rfl ?_
      refine J.aload_n 0 dX8_load_50 rfl rfl ?_
      refine J.aload_n 0 dX8_load_51 rfl rfl ?_
      refine I.getR dX8_load_52 jcls fX8_23 rfl (by decide) rfl rfl ?_
      refine I.gI 5 rfl dX8_load_55 jcls fX8_100 rfl (by decide) rfl ?_
      refine I.sx (show _ = pIf ((pAll (aT a) (aL a)).1 = 0) (-1) (pS (aT a) (aL a) (pAll (aT a) (aL a)).2.1) by first | exact ((up_ne (by omega)).trans ((up_ne (by omega)).trans b2.2)).trans (pIf_f ne).symm | exact ((up_ne (by omega)).trans ((up_ne (by omega)).trans c22.2.2.2)).trans (pIf_t (by rw [e8]; exact z22)).symm) ?_
      refine I.pI 3 rfl dX8_load_58 jcls fX8_17 rfl (by decide) rfl ?_
      refine J.iload_n 1 dX8_load_61 rfl rfl ?_
      refine I.if_ne 75 dX8_load_62 (by decide) (by omega) (fun h62 => ?_) (fun h62 => ?_)
      · exact absurd h62 (by omega)
      · skip
        exact I.throw90 (text := "the text has an error") rfl (by decide) (Or.inl ⟨dX8_load_65, dX8_load_68, dX8_load_69, dX8_load_71, dX8_load_74⟩) (show 1 ≤ 1 ∧ 6 ≤ 6 from by decide) ⟨rfl, _, rfl, ne, p0.bad (fun q j x y => (up_ne (by omega)).trans ((up_ne (by omega)).trans ((up_ne (by omega)).trans (f2 q j (by omega))))) ((up_ne (by omega)).trans ((up_ne (by omega)).trans (up_eq _ _ _ _))) ((up_ne (by omega)).trans ((up_eq _ _ _ _).trans (pIf_f ne))) ((up_eq _ _ _ _).trans (pIf_f ne)), fun q j x => (up_ne (by omega)).trans ((up_ne (by omega)).trans ((up_ne (by omega)).trans (f2 q j (by omega))))⟩
    · skip
      obtain ⟨z22, c22⟩ := o22.went h25
      refine I.iconst dX8_load_28 ?_
      refine J.goto 33 dX8_load_29 (by decide) ?_
      refine J.istore_n 1 dX8_load_33 rfl (by decide) rfl ?_
      refine J.aload_n 0 dX8_load_34 rfl rfl ?_
      refine I.iconst dX8_load_35 ?_
      refine I.pI 1 rfl dX8_load_36 jcls fX8_68 rfl (by decide) rfl ?_
      refine J.aload_n 0 dX8_load_39 rfl rfl ?_
      refine J.aload_n 0 dX8_load_40 rfl rfl ?_
      refine I.getR dX8_load_41 jcls fX8_23 rfl (by decide) rfl rfl ?_
      skip
      refine I.gI 4 rfl dX8_load_44 jcls fX8_99 rfl (by decide) rfl ?_
      refine I.sx (show _ = pIf ((pAll (aT a) (aL a)).1 = 0) 0 (pAll (aT a) (aL a)).1 by first | exact ((up_ne (by omega)).trans b2.1).trans (pIf_f ne).symm | exact ((up_ne (by omega)).trans c22.2.2.1).trans (pIf_t (by rw [e8]; exact z22)).symm) ?_
      refine I.pI 2 rfl dX8_load_47 jcls fX8_13 rfl (by decide) rfl ?_
      refine J.aload_n 0 dX8_load_50 rfl rfl ?_
      refine J.aload_n 0 dX8_load_51 rfl rfl ?_
      refine I.getR dX8_load_52 jcls fX8_23 rfl (by decide) rfl rfl ?_
      refine I.gI 5 rfl dX8_load_55 jcls fX8_100 rfl (by decide) rfl ?_
      refine I.sx (show _ = pIf ((pAll (aT a) (aL a)).1 = 0) (-1) (pS (aT a) (aL a) (pAll (aT a) (aL a)).2.1) by first | exact ((up_ne (by omega)).trans ((up_ne (by omega)).trans b2.2)).trans (pIf_f ne).symm | exact ((up_ne (by omega)).trans ((up_ne (by omega)).trans c22.2.2.2)).trans (pIf_t (by rw [e8]; exact z22)).symm) ?_
      refine I.pI 3 rfl dX8_load_58 jcls fX8_17 rfl (by decide) rfl ?_
      refine J.iload_n 1 dX8_load_61 rfl rfl ?_
      refine I.if_ne 75 dX8_load_62 (by decide) (by omega) (fun h62 => ?_) (fun h62 => ?_)
      · skip
        refine J.aload_n 0 dX8_load_75 rfl rfl ?_
        refine I.getR dX8_load_76 jcls fX8_30 rfl (by decide) rfl rfl ?_
        refine J.aload_n 0 dX8_load_79 rfl rfl ?_
        refine I.getR dX8_load_80 jcls fX8_23 rfl (by decide) rfl rfl ?_
        refine I.getR dX8_load_83 jcls fX8_103 rfl (by decide) rfl rfl ?_
        refine I.callV1w (d' := d - 1) (mi' := mX2_copyFrom) dX8_load_86 lX8_106 eX2_copyFrom rfl rfl (c_X2_copyFrom (d := d - 1) hl (by omega) jm21 jm3 (c22.2.1.congr fun q j x y => (up_ne (by omega)).trans ((up_ne (by omega)).trans (up_ne (by omega)))) (by omega)) (show d - 1 + 1 ≤ d from by omega) (Nat.le_of_ble_eq_true rfl) ?_
        rintro s86 ⟨r86, f86⟩
        refine J.aload_n 0 dX8_load_89 rfl rfl ?_
        refine I.getR dX8_load_90 jcls fX8_47 rfl (by decide) rfl rfl ?_
        refine I.callV0v (d' := d - 1) (mi' := mX0_clear) dX8_load_93 lX8_110 eX0_clear rfl rfl (c_X0_clear (d := d - 1) hl (by omega) ) (show d - 1 + 1 ≤ d from by omega) (Nat.le_of_ble_eq_true rfl) ?_
        refine J.aload_n 0 dX8_load_96 rfl rfl ?_
        refine I.iconst dX8_load_97 ?_
        refine I.pZ 10 rfl dX8_load_98 jcls fX8_113 rfl (by decide) rfl (by first | exact Or.inl rfl | exact Or.inr rfl | exact bI_01 _ | omega) ?_
        refine J.aload_n 0 dX8_load_101 rfl rfl ?_
        refine I.getR dX8_load_102 jcls fX8_40 rfl (by decide) rfl rfl ?_
        refine I.callV0v (d' := d - 1) (mi' := mX5_forget) dX8_load_105 lX8_117 eX5_forget rfl rfl (c_X5_forget (d := d - 1) hl (by omega) ) (show d - 1 + 1 ≤ d from by omega) (Nat.le_of_ble_eq_true rfl) ?_
        refine J.aload_n 0 dX8_load_108 rfl rfl ?_
        refine I.getR dX8_load_109 jcls fX8_30 rfl (by decide) rfl rfl ?_
        refine I.getR dX8_load_112 jcls fX8_120 rfl (by decide) rfl rfl ?_
        refine I.gI 0 rfl dX8_load_115 jcls fX8_124 rfl (by decide) rfl ?_
        refine I.sx ((up_ne (by omega)).trans ((up_ne (by omega)).trans ((up_ne (by omega)).trans r86.rounds))) ?_
        have fr : ∀ q j, 36 ≤ q → (q ≠ 61 ∨ j ≠ 1) → (q ≠ 51 ∨ j ≠ 10) → up (up (up s86 61 1 0) 0 10 0) 51 10 (-1) q j = s q j := fun q j x y z => (up_ne (by omega)).trans ((up_ne (by omega)).trans ((up_ne (by omega)).trans ((f86 q j (by omega)).trans ((up_ne (by omega)).trans ((up_ne (by omega)).trans ((up_ne (by omega)).trans ((o22.1 q j (by omega)).trans (o12.1 q j (by omega)))))))))
        exact I.iretQ dX8_load_118 rfl ⟨by rw [e8]; exact z22, by rw [e8], (by rw [e8]; exact p0.ld (r86.congr fun q j x y => (up_ne (by omega)).trans ((up_ne (by omega)).trans (up_ne (by omega)))) (fun q j x y z => (up_ne (by omega)).trans ((up_ne (by omega)).trans ((up_ne (by omega)).trans ((f86 q j (by omega)).trans ((up_ne (by omega)).trans ((up_ne (by omega)).trans ((up_ne (by omega)).trans ((o22.1 q j (by omega)).trans (o12.1 q j (by omega)))))))))) ((up_ne (by omega)).trans ((up_ne (by omega)).trans (up_eq _ _ _ _))) (up_eq _ _ _ _) ((up_ne (by omega)).trans (up_eq _ _ _ _)) ((up_ne (by omega)).trans ((up_ne (by omega)).trans ((up_ne (by omega)).trans ((f86 _ _ (by omega)).trans ((up_ne (by omega)).trans ((up_ne (by omega)).trans (up_eq _ _ _ _))))))) ((up_ne (by omega)).trans ((up_ne (by omega)).trans ((up_ne (by omega)).trans ((f86 _ _ (by omega)).trans ((up_ne (by omega)).trans ((up_eq _ _ _ _).trans (pIf_t (by rw [e8]; exact z22)))))))) ((up_ne (by omega)).trans ((up_ne (by omega)).trans ((up_ne (by omega)).trans ((f86 _ _ (by omega)).trans ((up_eq _ _ _ _).trans (pIf_t (by rw [e8]; exact z22))))))) (p0.2.2.2.2.1.congr (fr 135 1 (by omega) (by omega) (by omega)) (fun i => fr 136 i (by omega) (by omega) (by omega)))), p1.ld (by rw [e8]; exact r86.l) (by rw [e8]; exact r86.v), fun q j x => fr q j (by omega) (by omega) (by omega)⟩
      · exact absurd h62 (by omega)
