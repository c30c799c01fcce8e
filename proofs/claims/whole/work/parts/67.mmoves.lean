/-- the model, reading the moves -/
def MM (T : Int → Int) (n : Int) (s : Nat → Int → Int) (g : Int → Int) (q : Int) : Prop := MK T n s q ∧ (MV s g ∧ s 137 2 = 2320) ∧ FL g ∧ FS g
section MMs
variable {T : Int → Int} {n q e : Int} {g h : Int → Int} {s s' z : Nat → Int → Int} {r t : Int × Int × (Int → Int)} {ok ok2 : Prop}
theorem MM.w (h : MM T n s g q) : MW s g := ⟨h.2.1.1, h.2.2⟩
theorem MM.ft {p : Int} (h : MM T n s g q) (k : MK T n s' p) (f : FrT s s') : MM T n s' g p := ⟨k, MV.ft h.2.1 f, h.2.2⟩
theorem MM.fm (c : MM T n s g q) (m : MV s' h) (f : FrM s s') (hv : FL h ∧ FS h) : MM T n s' h q := ⟨c.1.fm f, ⟨m, MV.at0 c.2.1 f⟩, hv⟩
theorem MR.is (f : FrN s z) (h : MK T n z q) (h1 : z 137 16 = 1) (e1 : r = (1, q, g)) : MR T n s z 0 r ok := by
  subst e1
  exact ⟨f, Or.inr ⟨rfl, h.2.2.2.1, Or.inl ⟨by show (1 : Int) ≠ 0; decide, h1⟩⟩⟩
theorem pTok_4 (h : ¬ pTok T n q ∨ pSrt (pK T n q) ≠ 3) : pK T n q ≠ 4 := by
  rcases h with h | h
  · have := pTok_D h; omega
  · have := pSrt_3 (pK T n q); omega
theorem pTok_d1 (h : ¬ pTok T n q ∨ pSrt (pK T n q) ≠ 2) : ¬ pD T n q 1 := by
  rcases h with h | h
  · exact pTok_2 h (by decide)
  · have := pSrt_2 (pK T n q); exact fun x => by have := x.1; omega
theorem pTok_w {i : Nat} (hi : i < 5) (h : ¬ pTok T n q) : ¬ pW T n q i := by
  intro w
  have r := jwl_rng i hi
  have a := w.1
  have b := w.2.1
  unfold pTok at h
  omega
theorem gPlay_ok {z : Int} (hv : FL g ∧ FS g) (hz : gLegal g z) (ho : ¬ gOver g) : FL (gPlay g z) ∧ FS (gPlay g z) := ⟨hv.1.lay (gPlay_lay hv.1 hv.2 hz), gPlay_FS hv.1 hv.2 hz ho⟩
theorem gNext_ok (hv : FL g ∧ FS g) (h1 : g 1 + 1 < g 0) : FL (gNext g) ∧ FS (gNext g) := by
  obtain ⟨l, v⟩ := hv
  have b := gBt_rng l v
  have c := v.cur
  have hf := v.first
  have fd : FD g (g 1 + 1) := by
    refine ⟨⟨by omega, h1⟩, fun a p a0 a1 p0 p1 => ?_, fun p p0 p1 => ?_⟩
    · have x := v.sc a p a0 a1 p0 p1
      refine ⟨x.1, ?_⟩
      have y := x.2
      split at y <;> split <;> first | omega | (split at y <;> omega)
    · have x := v.bu p p0 p1
      omega
  exact ⟨l.lay gDeal_lay, gDeal_FS l fd (by unfold gNextSt; (repeat' split) <;> omega)⟩
theorem pMv_bad (h : ¬ pTok T n q) : pMv T n q g = (1, q, g) := by
  unfold pMv
  rw [pIf_f (pTok_w (by decide) h), pIf_f (pTok_w (by decide) h), pIf_f (pTok_w (by decide) h), pIf_f (pTok_w (by decide) h)]
theorem pMs_bad {k : Nat} (h : ¬ pTok T n q) : pMs T n (k + 1) q g = (1, q, g) := by
  have e := @pMv_bad T n q g h
  have := pTok_D h
  show (if _ then _ else _) = _
  rw [if_neg (by omega), e, if_pos (by exact (by decide : (1 : Int) ≠ 0))]
theorem pRs_w {k : Nat} (h : ¬ pW T n q 0) : pRs T n k q g = (0, q, g) := by
  cases k with
  | zero => show (pIf _ _ _, _, _) = _; rw [pIf_f h]
  | succ k => exact pIf_f h
theorem FD_0 (hp : FP g) (hl : FL g) : FD g 0 :=
  ⟨⟨by decide, by have := hl.rn; omega⟩, fun a p a0 a1 p0 p1 => by rw [hp.2.2.2.2 _ (by omega) (by omega)]; rw [if_neg (by omega)]; decide, fun p p0 p1 => by rw [hp.2.2.2.2 _ (by omega) (by omega)]; decide⟩
end MMs
set_option maxHeartbeats 1000000 in
theorem c_X9_readsBurn {Γ : jE} (hl : Γ.1.stackTraces = false) {s : Nat → Int → Int} {ε : jEps} {d : Nat} {x : Int} {T : Int → Int} {n q : Int} {g : Int → Int} (hd : 5 ≤ d) (p0 : PTx T n) (p1 : MM T n s g q) (p2 : 0 ≤ x ∧ x ≤ 1) : Con Γ (d, 0, 0) mX9_readsBurn [.ref 137, .int (iI x)] (jmem s ε) (RQ (fun w s' => MR T n s s' w (pBu T n x q g) (MM T n s' (pBu T n x q g).2.2 (pBu T n x q g).2.1 ∧ pK T n (pBu T n x q g).2.1 = 4)) ε) X0 := by
  refine Con.ofJ (by decide +kernel) (by simp [Value.category]) (Nat.le_of_ble_eq_true rfl) ?_ hl
  have w := p1.1.w p0
  have t0 := p0.2
  refine J.aload_n 0 dX9_readsBurn_0 rfl rfl ?_
  refine I.iconst dX9_readsBurn_1 ?_
  refine I.callV1q (d' := d - 1) (mi' := mX9_is) dX9_readsBurn_2 lX9_207 eX9_is rfl rfl (c_X9_is (d := d - 1) hl (by omega) p0 p1.1.1 ⟨p1.1.2.2.1, by omega, by omega⟩ (by first | omega | assumption)) (show d - 1 + 1 ≤ d from by omega) (Nat.le_of_ble_eq_true rfl) ?_
  rintro w2 s2 ⟨m2, f2, o2⟩
  refine I.if_ne 10 dX9_readsBurn_5 (by decide) (by rcases o2 with x | x <;> omega) (fun h5 => ?_) (fun h5 => ?_)
  · skip
    have yes : pTok T n (pN T n q) ∧ pSrt (pK T n (pN T n q)) = 2 := by rcases o2 with x | x; exact x.2; omega
    have k2 := (pSrt_2 _).mp yes.2
    have c2 := p1.ft m2 f2
    have w2 := m2.w p0
    have hw := c2.w.w
    refine J.aload_n 0 dX9_readsBurn_10 rfl rfl ?_
    refine I.gI 13 rfl dX9_readsBurn_11 jcls fX9_162 rfl (by decide) rfl ?_
    refine I.sx m2.2.2.1 ?_
    refine J.aload_n 0 dX9_readsBurn_14 rfl rfl ?_
    refine I.gI 14 rfl dX9_readsBurn_15 jcls fX9_169 rfl (by decide) rfl ?_
    refine I.sx m2.2.2.2.1 ?_
    refine I.sub dX9_readsBurn_18 ?_
    refine I.iconst dX9_readsBurn_19 ?_
    refine I.icmp_eq 29 dX9_readsBurn_20 (by decide) (by omega) (by omega) (fun h20 => ?_) (fun h20 => ?_)
    · skip
      have dd : pD T n (pN T n q) 1 := ⟨k2, h20⟩
      have b6 := pT1_rng (T := T) w2.1.2.1 k2
      have u1 : pT1 T n (pN T n q) = T (pS T n (pN T n q)) - 48 := rfl
      have g1 : gSg (T (pS T n (pN T n q))) = T (pS T n (pN T n q)) := if_pos (by omega)
      refine J.aload_n 0 dX9_readsBurn_29 rfl rfl ?_
      refine I.getR dX9_readsBurn_30 jcls fX9_13 rfl (by decide) rfl rfl ?_
      refine J.aload_n 0 dX9_readsBurn_33 rfl rfl ?_
      refine I.gI 14 rfl dX9_readsBurn_34 jcls fX9_169 rfl (by decide) rfl ?_
      refine I.sx m2.2.2.2.1 ?_
      refine I.bald dX9_readsBurn_37 rfl (by omega) (by omega) ?_
      refine I.sx ((m2.1.1 _ (by omega) (by omega)).trans g1) ?_
      refine I.bipush dX9_readsBurn_38 (by decide) ?_
      refine I.sub dX9_readsBurn_40 ?_
      refine I.sx (show _ = pT1 T n (pN T n q) from u1.symm) ?_
      refine J.istore_n 2 dX9_readsBurn_41 rfl (by decide) rfl ?_
      refine J.aload_n 0 dX9_readsBurn_42 rfl rfl ?_
      refine J.iload_n 2 dX9_readsBurn_43 rfl rfl ?_
      refine I.callV1i (d' := d - 1) (mi' := mX9_isChain) dX9_readsBurn_44 lX9_216 eX9_isChain rfl rfl (c_X9_isChain (d := d - 1) hl (by omega) c2.w (by first | omega | assumption)) (show d - 1 + 1 ≤ d from by omega) (Nat.le_of_ble_eq_true rfl) ?_
      refine I.if_eqB 65 dX9_readsBurn_47 (by decide) (fun h47 => ?_) (fun h47 => ?_)
      · skip
        have e9 : pBu T n x q g = (6, (pN T n q), g) := (pIf_f (not_not_intro dd)).trans (pIf_t (Or.inr (Or.inl (by omega))))
        refine J.aload_n 0 dX9_readsBurn_65 rfl rfl ?_
        refine I.bipush dX9_readsBurn_66 (by decide) ?_
        refine I.callV1i (d' := d - 1) (mi' := mX9_faults) dX9_readsBurn_68 lX9_175 eX9_faults rfl rfl (c_X9_faults (d := d - 1) hl (by omega) ) (show d - 1 + 1 ≤ d from by omega) (Nat.le_of_ble_eq_true rfl) ?_
        exact I.zretQ dX9_readsBurn_71 rfl (by first | exact Or.inl rfl | exact Or.inr rfl | exact bI_01 _ | omega) (MR.bad (FrN.ft f2) m2 e9 (by decide))
      · skip
        refine J.aload_n 0 dX9_readsBurn_50 rfl rfl ?_
        refine I.callV0i (d' := d - 1) (mi' := mX9_isOver) dX9_readsBurn_51 lX9_88 eX9_isOver rfl rfl (c_X9_isOver (d := d - 1) hl (by omega) c2.w) (show d - 1 + 1 ≤ d from by omega) (Nat.le_of_ble_eq_true rfl) ?_
        refine I.if_neB 65 dX9_readsBurn_54 (by decide) (fun h54 => ?_) (fun h54 => ?_)
        · skip
          have e9 : pBu T n x q g = (6, (pN T n q), g) := (pIf_f (not_not_intro dd)).trans (pIf_t (Or.inl h54))
          refine J.aload_n 0 dX9_readsBurn_65 rfl rfl ?_
          refine I.bipush dX9_readsBurn_66 (by decide) ?_
          refine I.callV1i (d' := d - 1) (mi' := mX9_faults) dX9_readsBurn_68 lX9_175 eX9_faults rfl rfl (c_X9_faults (d := d - 1) hl (by omega) ) (show d - 1 + 1 ≤ d from by omega) (Nat.le_of_ble_eq_true rfl) ?_
          exact I.zretQ dX9_readsBurn_71 rfl (by first | exact Or.inl rfl | exact Or.inr rfl | exact bI_01 _ | omega) (MR.bad (FrN.ft f2) m2 e9 (by decide))
        · skip
          refine J.aload_n 0 dX9_readsBurn_57 rfl rfl ?_
          refine J.iload_n 2 dX9_readsBurn_58 rfl rfl ?_
          refine I.callV1i (d' := d - 1) (mi' := mX9_isBurnable) dX9_readsBurn_59 lX9_81 eX9_isBurnable rfl rfl (c_X9_isBurnable (d := d - 1) hl (by omega) c2.w (by omega)) (show d - 1 + 1 ≤ d from by omega) (Nat.le_of_ble_eq_true rfl) ?_
          refine I.if_neB 72 dX9_readsBurn_62 (by decide) (fun h62 => ?_) (fun h62 => ?_)
          · skip
            have e8 : pBu T n x q g = pSe T n (pN T n q) g (gPlay g (2 * pT1 T n (pN T n q) + x)) := (pIf_f (not_not_intro dd)).trans (pIf_f (by rintro (y | y | y); exact h54 y; omega; omega))
            have lg : gLegal g (2 * pT1 T n (pN T n q) + x) := Or.inr ⟨by omega, by rw [show (2 * pT1 T n (pN T n q) + x) / 2 = pT1 T n (pN T n q) by omega]; omega, by rw [show (2 * pT1 T n (pN T n q) + x) / 2 = pT1 T n (pN T n q) by omega]; omega⟩
            refine J.aload_n 0 dX9_readsBurn_72 rfl rfl ?_
            refine I.iconst dX9_readsBurn_73 ?_
            refine I.callV1q (d' := d - 1) (mi' := mX9_is) dX9_readsBurn_74 lX9_207 eX9_is rfl rfl (c_X9_is (d := d - 1) hl (by omega) p0 c2.1.1 ⟨c2.1.2.2.1, by omega, by omega⟩ (by first | omega | assumption)) (show d - 1 + 1 ≤ d from by omega) (Nat.le_of_ble_eq_true rfl) ?_
            rintro w74 s74 ⟨m74, f74, o74⟩
            refine I.if_ne 82 dX9_readsBurn_77 (by decide) (by rcases o74 with x | x <;> omega) (fun h77 => ?_) (fun h77 => ?_)
            · skip
              have yes2 : pTok T n (pN T n (pN T n q)) ∧ pSrt (pK T n (pN T n (pN T n q))) = 3 := by rcases o74 with x | x; exact x.2; omega
              have k4 : pK T n (pN T n (pN T n q)) = 4 := by have := pSrt_3 (pK T n (pN T n (pN T n q))); have := yes2.1.2.2; omega
              have c74 := c2.ft m74 f74
              have e9 : pBu T n x q g = (0, (pN T n (pN T n q)), gPlay g (2 * pT1 T n (pN T n q) + x)) := e8.trans (if_pos k4)
              refine J.aload_n 0 dX9_readsBurn_82 rfl rfl ?_
              refine I.iconst dX9_readsBurn_83 ?_
              refine J.iload_n 2 dX9_readsBurn_84 rfl rfl ?_
              refine I.mul dX9_readsBurn_85 ?_
              refine J.iload_n 1 dX9_readsBurn_86 rfl rfl ?_
              refine I.add dX9_readsBurn_87 ?_
              refine I.callV1w (d' := d - 1) (mi' := mX9_makes) dX9_readsBurn_88 lX9_144 eX9_makes rfl rfl (c_X9_makes (d := d - 1) hl (by omega) c74.w lg h54) (show d - 1 + 1 ≤ d from by omega) (Nat.le_of_ble_eq_true rfl) ?_
              rintro s88 ⟨m88, f88⟩
              refine I.iconst dX9_readsBurn_91 ?_
              exact I.zretQ dX9_readsBurn_92 rfl (by first | exact Or.inl rfl | exact Or.inr rfl | exact bI_01 _ | omega) (MR.good (((FrN.ft f2).trans (FrN.ft f74)).trans (FrN.fm f88 c74.2.1.2)) (by rw [e9]) (by rw [e9]; exact yes2.1) (by rw [e9]; exact ⟨c74.fm m88 f88 (gPlay_ok c74.2.2 lg h54), k4⟩))
            · skip
              have no2 : (¬ pTok T n (pN T n (pN T n q)) ∨ pSrt (pK T n (pN T n (pN T n q))) ≠ 3) ∧ s74 137 16 = 1 := by rcases o74 with x | x; omega; exact x.2
              have e9 : pBu T n x q g = (1, (pN T n (pN T n q)), g) := e8.trans (if_neg (pTok_4 no2.1))
              refine I.iconst dX9_readsBurn_80 ?_
              exact I.zretQ dX9_readsBurn_81 rfl (by first | exact Or.inl rfl | exact Or.inr rfl | exact bI_01 _ | omega) (MR.is ((FrN.ft f2).trans (FrN.ft f74)) m74 no2.2 e9)
          · skip
            have e9 : pBu T n x q g = (6, (pN T n q), g) := (pIf_f (not_not_intro dd)).trans (pIf_t (Or.inr (Or.inr (by omega))))
            refine J.aload_n 0 dX9_readsBurn_65 rfl rfl ?_
            refine I.bipush dX9_readsBurn_66 (by decide) ?_
            refine I.callV1i (d' := d - 1) (mi' := mX9_faults) dX9_readsBurn_68 lX9_175 eX9_faults rfl rfl (c_X9_faults (d := d - 1) hl (by omega) ) (show d - 1 + 1 ≤ d from by omega) (Nat.le_of_ble_eq_true rfl) ?_
            exact I.zretQ dX9_readsBurn_71 rfl (by first | exact Or.inl rfl | exact Or.inr rfl | exact bI_01 _ | omega) (MR.bad (FrN.ft f2) m2 e9 (by decide))
    · skip
      have nd : ¬ pD T n (pN T n q) 1 := fun x => h20 x.2
      have e9 : pBu T n x q g = (1, (pN T n q), g) := pIf_t nd
      refine J.aload_n 0 dX9_readsBurn_23 rfl rfl ?_
      refine I.iconst dX9_readsBurn_24 ?_
      refine I.callV1i (d' := d - 1) (mi' := mX9_faults) dX9_readsBurn_25 lX9_175 eX9_faults rfl rfl (c_X9_faults (d := d - 1) hl (by omega) ) (show d - 1 + 1 ≤ d from by omega) (Nat.le_of_ble_eq_true rfl) ?_
      exact I.zretQ dX9_readsBurn_28 rfl (by first | exact Or.inl rfl | exact Or.inr rfl | exact bI_01 _ | omega) (MR.bad (FrN.ft f2) m2 e9 (by decide))
  · skip
    have no : (¬ pTok T n (pN T n q) ∨ pSrt (pK T n (pN T n q)) ≠ 2) ∧ s2 137 16 = 1 := by rcases o2 with x | x; omega; exact x.2
    have e9 : pBu T n x q g = (1, (pN T n q), g) := pIf_t (pTok_d1 no.1)
    refine I.iconst dX9_readsBurn_8 ?_
    exact I.zretQ dX9_readsBurn_9 rfl (by first | exact Or.inl rfl | exact Or.inr rfl | exact bI_01 _ | omega) (MR.is (FrN.ft f2) m2 no.2 e9)
set_option maxHeartbeats 1000000 in
theorem c_X9_readsMove {Γ : jE} (hl : Γ.1.stackTraces = false) {s : Nat → Int → Int} {ε : jEps} {d : Nat} {T : Int → Int} {n q : Int} {g : Int → Int} (hd : 6 ≤ d) (p0 : PTx T n) (p1 : MM T n s g q) : Con Γ (d, 0, 0) mX9_readsMove [.ref 137] (jmem s ε) (RQ (fun w s' => MR T n s s' w (pMv T n q g) (MM T n s' (pMv T n q g).2.2 (pMv T n q g).2.1 ∧ pK T n (pMv T n q g).2.1 = 4)) ε) X0 := by
  refine Con.ofJ (by decide +kernel) (by simp [Value.category]) (Nat.le_of_ble_eq_true rfl) ?_ hl
  have w := p1.1.w p0
  have t0 := p0.2
  refine J.aload_n 0 dX9_readsMove_0 rfl rfl ?_
  refine I.bipush dX9_readsMove_1 (by decide) ?_
  refine I.bipush dX9_readsMove_3 (by decide) ?_
  refine I.bipush dX9_readsMove_5 (by decide) ?_
  refine I.bipush dX9_readsMove_7 (by decide) ?_
  refine I.iconst dX9_readsMove_9 ?_
  refine I.callV5i (d' := d - 1) (mi' := mX9_isWord) dX9_readsMove_10 lX9_185 eX9_isWord rfl rfl (c_X9_isWord (d := d - 1) hl (by omega) p0 p1.1 (by first | omega | assumption) (by first | omega | assumption) (by first | omega | assumption) (by first | omega | assumption) (by first | omega | assumption)) (show d - 1 + 1 ≤ d from by omega) (Nat.le_of_ble_eq_true rfl) ?_
  refine J.istore_n 1 dX9_readsMove_13 rfl (by decide) rfl ?_
  refine J.iload_n 1 dX9_readsMove_14 rfl rfl ?_
  refine I.if_neB 35 dX9_readsMove_15 (by decide) (fun h15 => ?_) (fun h15 => ?_)
  · skip
    refine J.aload_n 0 dX9_readsMove_35 rfl rfl ?_
    refine J.iload_n 1 dX9_readsMove_36 rfl rfl ?_
    refine I.if_eqB 44 dX9_readsMove_37 (by decide) (fun h37 => ?_) (fun h37 => ?_)
    · first | exact absurd h15 h37 | exact absurd h37 h15
    · skip
      have e9 : pMv T n q g = pBu T n 0 q g := pIf_t (pW_1.mpr h15)
      refine I.iconst dX9_readsMove_40 ?_
      refine J.goto 45 dX9_readsMove_41 (by decide) ?_
      refine I.callV1q (d' := d - 1) (mi' := mX9_readsBurn) dX9_readsMove_45 lX9_204 eX9_readsBurn rfl rfl (c_X9_readsBurn (d := d - 1) hl (by omega) p0 p1 (by omega)) (show d - 1 + 1 ≤ d from by omega) (Nat.le_of_ble_eq_true rfl) ?_
      rintro w45 s45 o45
      exact I.zretQ dX9_readsMove_48 rfl (by have := o45.rng; omega) (by rw [e9]; exact o45)
  · skip
    refine J.aload_n 0 dX9_readsMove_18 rfl rfl ?_
    refine I.bipush dX9_readsMove_19 (by decide) ?_
    refine I.bipush dX9_readsMove_21 (by decide) ?_
    refine I.bipush dX9_readsMove_23 (by decide) ?_
    refine I.bipush dX9_readsMove_25 (by decide) ?_
    refine I.bipush dX9_readsMove_27 (by decide) ?_
    refine I.callV5i (d' := d - 1) (mi' := mX9_isWord) dX9_readsMove_29 lX9_185 eX9_isWord rfl rfl (c_X9_isWord (d := d - 1) hl (by omega) p0 p1.1 (by first | omega | assumption) (by first | omega | assumption) (by first | omega | assumption) (by first | omega | assumption) (by first | omega | assumption)) (show d - 1 + 1 ≤ d from by omega) (Nat.le_of_ble_eq_true rfl) ?_
    refine I.if_eqB 49 dX9_readsMove_32 (by decide) (fun h32 => ?_) (fun h32 => ?_)
    · skip
      have n1 : ¬ pW T n q 1 := fun y => h15 (pW_1.mp y)
      have n2 : ¬ pW T n q 2 := fun y => h32 (pW_2.mp y)
      refine J.aload_n 0 dX9_readsMove_49 rfl rfl ?_
      refine I.bipush dX9_readsMove_50 (by decide) ?_
      refine I.bipush dX9_readsMove_52 (by decide) ?_
      refine I.bipush dX9_readsMove_54 (by decide) ?_
      refine I.bipush dX9_readsMove_56 (by decide) ?_
      refine I.iconst dX9_readsMove_58 ?_
      refine I.callV5i (d' := d - 1) (mi' := mX9_isWord) dX9_readsMove_59 lX9_185 eX9_isWord rfl rfl (c_X9_isWord (d := d - 1) hl (by omega) p0 p1.1 (by first | omega | assumption) (by first | omega | assumption) (by first | omega | assumption) (by first | omega | assumption) (by first | omega | assumption)) (show d - 1 + 1 ≤ d from by omega) (Nat.le_of_ble_eq_true rfl) ?_
      refine I.if_eqB 97 dX9_readsMove_62 (by decide) (fun h62 => ?_) (fun h62 => ?_)
      · skip
        have n3 : ¬ pW T n q 3 := fun y => h62 (pW_3.mp y)
        refine J.aload_n 0 dX9_readsMove_97 rfl rfl ?_
        refine I.bipush dX9_readsMove_98 (by decide) ?_
        refine I.bipush dX9_readsMove_100 (by decide) ?_
        refine I.bipush dX9_readsMove_102 (by decide) ?_
        refine I.bipush dX9_readsMove_104 (by decide) ?_
        refine I.iconst dX9_readsMove_106 ?_
        refine I.callV5i (d' := d - 1) (mi' := mX9_isWord) dX9_readsMove_107 lX9_185 eX9_isWord rfl rfl (c_X9_isWord (d := d - 1) hl (by omega) p0 p1.1 (by first | omega | assumption) (by first | omega | assumption) (by first | omega | assumption) (by first | omega | assumption) (by first | omega | assumption)) (show d - 1 + 1 ≤ d from by omega) (Nat.le_of_ble_eq_true rfl) ?_
        refine I.if_neB 119 dX9_readsMove_110 (by decide) (fun h110 => ?_) (fun h110 => ?_)
        · skip
          refine J.aload_n 0 dX9_readsMove_119 rfl rfl ?_
          refine I.callV0i (d' := d - 1) (mi' := mX9_isOver) dX9_readsMove_120 lX9_88 eX9_isOver rfl rfl (c_X9_isOver (d := d - 1) hl (by omega) p1.w) (show d - 1 + 1 ≤ d from by omega) (Nat.le_of_ble_eq_true rfl) ?_
          refine I.if_eqB 133 dX9_readsMove_123 (by decide) (fun h123 => ?_) (fun h123 => ?_)
          · skip
            have e9 : pMv T n q g = (6, q, g) := (pIf_f n1).trans ((pIf_f n2).trans ((pIf_f n3).trans ((pIf_t (pW_4.mpr h110)).trans (pIf_t (Or.inl h123)))))
            refine J.aload_n 0 dX9_readsMove_133 rfl rfl ?_
            refine I.bipush dX9_readsMove_134 (by decide) ?_
            refine I.callV1i (d' := d - 1) (mi' := mX9_faults) dX9_readsMove_136 lX9_175 eX9_faults rfl rfl (c_X9_faults (d := d - 1) hl (by omega) ) (show d - 1 + 1 ≤ d from by omega) (Nat.le_of_ble_eq_true rfl) ?_
            exact I.zretQ dX9_readsMove_139 rfl (by first | exact Or.inl rfl | exact Or.inr rfl | exact bI_01 _ | omega) (MR.bad FrN.refl p1.1 e9 (by decide))
          · skip
            refine J.aload_n 0 dX9_readsMove_126 rfl rfl ?_
            refine I.callV0i (d' := d - 1) (mi' := mX9_isLast) dX9_readsMove_127 lX9_210 eX9_isLast rfl rfl (c_X9_isLast (d := d - 1) hl (by omega) p1.w) (show d - 1 + 1 ≤ d from by omega) (Nat.le_of_ble_eq_true rfl) ?_
            refine I.if_eqB 140 dX9_readsMove_130 (by decide) (fun h130 => ?_) (fun h130 => ?_)
            · skip
              have e8 : pMv T n q g = pSe T n q g (gNext g) := (pIf_f n1).trans ((pIf_f n2).trans ((pIf_f n3).trans ((pIf_t (pW_4.mpr h110)).trans (pIf_f (by rintro (y | y); exact y h123; exact h130 y)))))
              have hw := p1.w.w
              refine J.aload_n 0 dX9_readsMove_140 rfl rfl ?_
              refine I.iconst dX9_readsMove_141 ?_
              refine I.callV1q (d' := d - 1) (mi' := mX9_is) dX9_readsMove_142 lX9_207 eX9_is rfl rfl (c_X9_is (d := d - 1) hl (by omega) p0 p1.1.1 ⟨p1.1.2.2.1, by omega, by omega⟩ (by first | omega | assumption)) (show d - 1 + 1 ≤ d from by omega) (Nat.le_of_ble_eq_true rfl) ?_
              rintro w142 s142 ⟨m142, f142, o142⟩
              refine I.if_ne 150 dX9_readsMove_145 (by decide) (by rcases o142 with x | x <;> omega) (fun h145 => ?_) (fun h145 => ?_)
              · skip
                have yes2 : pTok T n (pN T n q) ∧ pSrt (pK T n (pN T n q)) = 3 := by rcases o142 with x | x; exact x.2; omega
                have k4 : pK T n (pN T n q) = 4 := by have := pSrt_3 (pK T n (pN T n q)); have := yes2.1.2.2; omega
                have c142 := p1.ft m142 f142
                have e9 := e8.trans (if_pos k4)
                refine J.aload_n 0 dX9_readsMove_150 rfl rfl ?_
                refine I.callV0w (d' := d - 1) (mi' := mX9_goesOn) dX9_readsMove_151 lX9_213 eX9_goesOn rfl rfl (c_X9_goesOn (d := d - 1) hl (by omega) c142.w (by omega)) (show d - 1 + 1 ≤ d from by omega) (Nat.le_of_ble_eq_true rfl) ?_
                rintro s151 ⟨m151, f151⟩
                refine I.iconst dX9_readsMove_154 ?_
                exact I.zretQ dX9_readsMove_155 rfl (by first | exact Or.inl rfl | exact Or.inr rfl | exact bI_01 _ | omega) (MR.good ((FrN.ft f142).trans (FrN.fm f151 c142.2.1.2)) (by rw [e9]) (by rw [e9]; exact yes2.1) (by rw [e9]; exact ⟨c142.fm m151 f151 (gNext_ok c142.2.2 (by omega)), k4⟩))
              · skip
                have no2 : (¬ pTok T n (pN T n q) ∨ pSrt (pK T n (pN T n q)) ≠ 3) ∧ s142 137 16 = 1 := by rcases o142 with x | x; omega; exact x.2
                have e9 : pMv T n q g = (1, (pN T n q), g) := e8.trans (if_neg (pTok_4 no2.1))
                refine I.iconst dX9_readsMove_148 ?_
                exact I.zretQ dX9_readsMove_149 rfl (by first | exact Or.inl rfl | exact Or.inr rfl | exact bI_01 _ | omega) (MR.is (FrN.ft f142) m142 no2.2 e9)
            · skip
              have e9 : pMv T n q g = (6, q, g) := (pIf_f n1).trans ((pIf_f n2).trans ((pIf_f n3).trans ((pIf_t (pW_4.mpr h110)).trans (pIf_t (Or.inr h130)))))
              refine J.aload_n 0 dX9_readsMove_133 rfl rfl ?_
              refine I.bipush dX9_readsMove_134 (by decide) ?_
              refine I.callV1i (d' := d - 1) (mi' := mX9_faults) dX9_readsMove_136 lX9_175 eX9_faults rfl rfl (c_X9_faults (d := d - 1) hl (by omega) ) (show d - 1 + 1 ≤ d from by omega) (Nat.le_of_ble_eq_true rfl) ?_
              exact I.zretQ dX9_readsMove_139 rfl (by first | exact Or.inl rfl | exact Or.inr rfl | exact bI_01 _ | omega) (MR.bad FrN.refl p1.1 e9 (by decide))
        · skip
          have e9 : pMv T n q g = (1, q, g) := (pIf_f n1).trans ((pIf_f n2).trans ((pIf_f n3).trans (pIf_f (fun y => h110 (pW_4.mp y)))))
          refine J.aload_n 0 dX9_readsMove_113 rfl rfl ?_
          refine I.iconst dX9_readsMove_114 ?_
          refine I.callV1i (d' := d - 1) (mi' := mX9_faults) dX9_readsMove_115 lX9_175 eX9_faults rfl rfl (c_X9_faults (d := d - 1) hl (by omega) ) (show d - 1 + 1 ≤ d from by omega) (Nat.le_of_ble_eq_true rfl) ?_
          exact I.zretQ dX9_readsMove_118 rfl (by first | exact Or.inl rfl | exact Or.inr rfl | exact bI_01 _ | omega) (MR.bad FrN.refl p1.1 e9 (by decide))
      · skip
        refine J.aload_n 0 dX9_readsMove_65 rfl rfl ?_
        refine I.callV0i (d' := d - 1) (mi' := mX9_isOver) dX9_readsMove_66 lX9_88 eX9_isOver rfl rfl (c_X9_isOver (d := d - 1) hl (by omega) p1.w) (show d - 1 + 1 ≤ d from by omega) (Nat.le_of_ble_eq_true rfl) ?_
        refine I.if_eqB 79 dX9_readsMove_69 (by decide) (fun h69 => ?_) (fun h69 => ?_)
        · skip
          have e8 : pMv T n q g = pSe T n q g (gPlay g 6) := (pIf_f n1).trans ((pIf_f n2).trans ((pIf_t (pW_3.mpr h62)).trans (pIf_f h69)))
          refine J.aload_n 0 dX9_readsMove_79 rfl rfl ?_
          refine I.iconst dX9_readsMove_80 ?_
          refine I.callV1q (d' := d - 1) (mi' := mX9_is) dX9_readsMove_81 lX9_207 eX9_is rfl rfl (c_X9_is (d := d - 1) hl (by omega) p0 p1.1.1 ⟨p1.1.2.2.1, by omega, by omega⟩ (by first | omega | assumption)) (show d - 1 + 1 ≤ d from by omega) (Nat.le_of_ble_eq_true rfl) ?_
          rintro w81 s81 ⟨m81, f81, o81⟩
          refine I.if_ne 89 dX9_readsMove_84 (by decide) (by rcases o81 with x | x <;> omega) (fun h84 => ?_) (fun h84 => ?_)
          · skip
            have yes2 : pTok T n (pN T n q) ∧ pSrt (pK T n (pN T n q)) = 3 := by rcases o81 with x | x; exact x.2; omega
            have k4 : pK T n (pN T n q) = 4 := by have := pSrt_3 (pK T n (pN T n q)); have := yes2.1.2.2; omega
            have c81 := p1.ft m81 f81
            have e9 := e8.trans (if_pos k4)
            refine J.aload_n 0 dX9_readsMove_89 rfl rfl ?_
            refine I.bipush dX9_readsMove_90 (by decide) ?_
            refine I.callV1w (d' := d - 1) (mi' := mX9_makes) dX9_readsMove_92 lX9_144 eX9_makes rfl rfl (c_X9_makes (d := d - 1) hl (by omega) c81.w (Or.inl rfl) h69) (show d - 1 + 1 ≤ d from by omega) (Nat.le_of_ble_eq_true rfl) ?_
            rintro s92 ⟨m92, f92⟩
            refine I.iconst dX9_readsMove_95 ?_
            exact I.zretQ dX9_readsMove_96 rfl (by first | exact Or.inl rfl | exact Or.inr rfl | exact bI_01 _ | omega) (MR.good ((FrN.ft f81).trans (FrN.fm f92 c81.2.1.2)) (by rw [e9]) (by rw [e9]; exact yes2.1) (by rw [e9]; exact ⟨c81.fm m92 f92 (gPlay_ok c81.2.2 (Or.inl rfl) h69), k4⟩))
          · skip
            have no2 : (¬ pTok T n (pN T n q) ∨ pSrt (pK T n (pN T n q)) ≠ 3) ∧ s81 137 16 = 1 := by rcases o81 with x | x; omega; exact x.2
            have e9 : pMv T n q g = (1, (pN T n q), g) := e8.trans (if_neg (pTok_4 no2.1))
            refine I.iconst dX9_readsMove_87 ?_
            exact I.zretQ dX9_readsMove_88 rfl (by first | exact Or.inl rfl | exact Or.inr rfl | exact bI_01 _ | omega) (MR.is (FrN.ft f81) m81 no2.2 e9)
        · skip
          have e9 : pMv T n q g = (6, q, g) := (pIf_f n1).trans ((pIf_f n2).trans ((pIf_t (pW_3.mpr h62)).trans (pIf_t h69)))
          refine J.aload_n 0 dX9_readsMove_72 rfl rfl ?_
          refine I.bipush dX9_readsMove_73 (by decide) ?_
          refine I.callV1i (d' := d - 1) (mi' := mX9_faults) dX9_readsMove_75 lX9_175 eX9_faults rfl rfl (c_X9_faults (d := d - 1) hl (by omega) ) (show d - 1 + 1 ≤ d from by omega) (Nat.le_of_ble_eq_true rfl) ?_
          exact I.zretQ dX9_readsMove_78 rfl (by first | exact Or.inl rfl | exact Or.inr rfl | exact bI_01 _ | omega) (MR.bad FrN.refl p1.1 e9 (by decide))
    · skip
      refine J.aload_n 0 dX9_readsMove_35 rfl rfl ?_
      refine J.iload_n 1 dX9_readsMove_36 rfl rfl ?_
      refine I.if_eqB 44 dX9_readsMove_37 (by decide) (fun h37 => ?_) (fun h37 => ?_)
      · skip
        have e9 : pMv T n q g = pBu T n 1 q g := (pIf_f (fun y => h15 (pW_1.mp y))).trans (pIf_t (pW_2.mpr h32))
        refine I.iconst dX9_readsMove_44 ?_
        refine I.callV1q (d' := d - 1) (mi' := mX9_readsBurn) dX9_readsMove_45 lX9_204 eX9_readsBurn rfl rfl (c_X9_readsBurn (d := d - 1) hl (by omega) p0 p1 (by omega)) (show d - 1 + 1 ≤ d from by omega) (Nat.le_of_ble_eq_true rfl) ?_
        rintro w45 s45 o45
        exact I.zretQ dX9_readsMove_48 rfl (by have := o45.rng; omega) (by rw [e9]; exact o45)
      · first | exact absurd h15 h37 | exact absurd h37 h15
