theorem pSrt_rng (k : Int) (h : 0 ≤ k ∧ k ≤ 5) : 0 ≤ pSrt k ∧ pSrt k ≤ 4 := by unfold pSrt; (repeat' split) <;> omega
theorem pSrt_1 (k : Int) : pSrt k = 1 ↔ k = 1 := by unfold pSrt; (repeat' split) <;> omega
theorem pSrt_2 (k : Int) : pSrt k = 2 ↔ k = 2 := by unfold pSrt; (repeat' split) <;> omega
theorem pSrt_3 (k : Int) : pSrt k = 3 ↔ k = 4 ∨ k = 5 := by unfold pSrt; (repeat' split) <;> omega
theorem pSrt_4 (k : Int) : pSrt k = 4 ↔ k = 3 := by unfold pSrt; (repeat' split) <;> omega
theorem pSrt_0 (k : Int) : pSrt k = 0 ↔ k = 0 := by unfold pSrt; (repeat' split) <;> omega
set_option maxHeartbeats 1000000 in
theorem c_X9_is {Γ : jE} (hl : Γ.1.stackTraces = false) {s : Nat → Int → Int} {ε : jEps} {d : Nat} {x : Int} {T : Int → Int} {n p : Int} (hd : 2 ≤ d) (p0 : PTx T n) (p1 : MB T n s) (p2 : s 137 13 = p ∧ 0 ≤ p ∧ p ≤ n) (p3 : 0 ≤ x ∧ x ≤ 4) : Con Γ (d, 0, 0) mX9_is [.ref 137, .int (iI x)] (jmem s ε) (RQ (fun w s' => MK T n s' p ∧ FrT s s' ∧ (w = 1 ∧ pTok T n p ∧ pSrt (pK T n p) = x ∨ w = 0 ∧ (¬ pTok T n p ∨ pSrt (pK T n p) ≠ x) ∧ s' 137 16 = 1)) ε) X0 := by
  refine Con.ofJ (by decide +kernel) (by simp [Value.category]) (Nat.le_of_ble_eq_true rfl) ?_ hl
  refine J.aload_n 0 dX9_is_0 rfl rfl ?_
  refine I.callV0q (d' := d - 1) (mi' := mX9_token) dX9_is_1 lX9_178 eX9_token rfl rfl (c_X9_token (d := d - 1) hl (by omega) p0 p1 p2) (show d - 1 + 1 ≤ d from by omega) (Nat.le_of_ble_eq_true rfl) ?_
  rintro w1 s1 ⟨m1, f1, o1⟩
  refine I.if_eq 27 dX9_is_4 (by decide) (by rcases o1 with x | x <;> omega) (fun h4 => ?_) (fun h4 => ?_)
  · skip
    have no : ¬ pTok T n p ∧ s1 137 16 = 1 := by rcases o1 with x | x; omega; exact x.2
    refine I.iconst dX9_is_27 ?_
    exact I.zretQ dX9_is_28 rfl (by first | exact Or.inl rfl | exact Or.inr rfl | exact bI_01 _ | omega) ⟨m1, f1, Or.inr ⟨rfl, Or.inl no.1, no.2⟩⟩
  · skip
    have yes : pTok T n p := by rcases o1 with x | x; exact x.2; omega
    have ks := pSrt_rng _ (m1.w p0).2.1
    refine J.aload_n 0 dX9_is_7 rfl rfl ?_
    refine I.gI 15 rfl dX9_is_8 jcls fX9_172 rfl (by decide) rfl ?_
    refine I.sx m1.2.2.2.2 ?_
    refine J.iload_n 1 dX9_is_11 rfl rfl ?_
    refine I.icmp_eq 23 dX9_is_12 (by decide) (by omega) (by omega) (fun h12 => ?_) (fun h12 => ?_)
    · skip
      refine I.iconst dX9_is_23 ?_
      refine J.goto 28 dX9_is_24 (by decide) ?_
      exact I.zretQ dX9_is_28 rfl (by first | exact Or.inl rfl | exact Or.inr rfl | exact bI_01 _ | omega) ⟨m1, f1, Or.inl ⟨rfl, yes, h12⟩⟩
    · skip
      refine J.aload_n 0 dX9_is_15 rfl rfl ?_
      refine I.iconst dX9_is_16 ?_
      refine I.callV1i (d' := d - 1) (mi' := mX9_faults) dX9_is_17 lX9_175 eX9_faults rfl rfl (c_X9_faults (d := d - 1) hl (by omega) ) (show d - 1 + 1 ≤ d from by omega) (Nat.le_of_ble_eq_true rfl) ?_
      refine I.if_eq 27 dX9_is_20 (by decide) (by omega) (fun h20 => ?_) (fun h20 => ?_)
      · skip
        refine I.iconst dX9_is_27 ?_
        exact I.zretQ dX9_is_28 rfl (by first | exact Or.inl rfl | exact Or.inr rfl | exact bI_01 _ | omega) ⟨m1.keep fun a j h => up_ne (by omega), fun q j h => (up_ne (by omega)).trans (f1 q j h), Or.inr ⟨rfl, Or.inr h12, up_eq _ _ _ _⟩⟩
      · skip
        omega
set_option maxHeartbeats 1000000 in
theorem c_X9_letterIs {Γ : jE} (hl : Γ.1.stackTraces = false) {s : Nat → Int → Int} {ε : jEps} {d : Nat} {k : Int} {l : Int} {T : Int → Int} {n q : Int} (hd : 0 ≤ d) (p0 : PTx T n) (p1 : MK T n s q) (p2 : 0 ≤ k ∧ k ≤ 5) (p3 : 0 ≤ l ∧ l < 128) : Con Γ (d, 0, 0) mX9_letterIs [.ref 137, .int (iI k), .int (iI l)] (jmem s ε) (RI (bI (pL T n q k l)) (s) ε) X0 := by
  refine Con.ofJ (by decide +kernel) (by simp [Value.category]) (Nat.le_of_ble_eq_true rfl) ?_ hl
  have w := p1.w p0
  have t0 := p0.2
  refine J.iload_n 2 dX9_letterIs_0 rfl rfl ?_
  refine I.if_ne 25 dX9_letterIs_1 (by decide) (by omega) (fun h1 => ?_) (fun h1 => ?_)
  · skip
    refine J.aload_n 0 dX9_letterIs_25 rfl rfl ?_
    refine I.gI 14 rfl dX9_letterIs_26 jcls fX9_169 rfl (by decide) rfl ?_
    refine I.sx p1.2.2.2.1 ?_
    refine J.iload_n 1 dX9_letterIs_29 rfl rfl ?_
    refine I.add dX9_letterIs_30 ?_
    refine J.aload_n 0 dX9_letterIs_31 rfl rfl ?_
    refine I.gI 13 rfl dX9_letterIs_32 jcls fX9_162 rfl (by decide) rfl ?_
    refine I.sx p1.2.2.1 ?_
    refine I.icmp_ge 57 dX9_letterIs_35 (by decide) (by omega) (by omega) (fun h35 => ?_) (fun h35 => ?_)
    · skip
      refine I.iconst dX9_letterIs_57 ?_
      exact I.zretI dX9_letterIs_58 rfl (by first | exact Or.inl rfl | exact Or.inr rfl | exact bI_01 _ | omega) (by unfold pL; first | exact (bI_t (by omega)).symm | exact (bI_f (by omega)).symm) rfl
    · skip
      have t1 := t0 (pS T n q + k) (by omega) (by omega)
      have g1 := gSg_rng t1
      have g2 := gSg_lt (z := l) t1 p3
      refine J.aload_n 0 dX9_letterIs_38 rfl rfl ?_
      refine I.getR dX9_letterIs_39 jcls fX9_13 rfl (by decide) rfl rfl ?_
      refine J.aload_n 0 dX9_letterIs_42 rfl rfl ?_
      refine I.gI 14 rfl dX9_letterIs_43 jcls fX9_169 rfl (by decide) rfl ?_
      refine I.sx p1.2.2.2.1 ?_
      refine J.iload_n 1 dX9_letterIs_46 rfl rfl ?_
      refine I.add dX9_letterIs_47 ?_
      refine I.bald dX9_letterIs_48 rfl (by omega) (by omega) ?_
      refine I.sx (p1.1.1 _ (by omega) (by omega)) ?_
      refine J.iload_n 2 dX9_letterIs_49 rfl rfl ?_
      refine I.icmp_ne 57 dX9_letterIs_50 (by decide) (by omega) (by omega) (fun h50 => ?_) (fun h50 => ?_)
      · skip
        refine I.iconst dX9_letterIs_57 ?_
        exact I.zretI dX9_letterIs_58 rfl (by first | exact Or.inl rfl | exact Or.inr rfl | exact bI_01 _ | omega) (by unfold pL; first | exact (bI_t (by omega)).symm | exact (bI_f (by omega)).symm) rfl
      · skip
        refine I.iconst dX9_letterIs_53 ?_
        refine J.goto 58 dX9_letterIs_54 (by decide) ?_
        exact I.zretI dX9_letterIs_58 rfl (by first | exact Or.inl rfl | exact Or.inr rfl | exact bI_01 _ | omega) (by unfold pL; first | exact (bI_t (by omega)).symm | exact (bI_f (by omega)).symm) rfl
  · skip
    refine J.aload_n 0 dX9_letterIs_4 rfl rfl ?_
    refine I.gI 14 rfl dX9_letterIs_5 jcls fX9_169 rfl (by decide) rfl ?_
    refine I.sx p1.2.2.2.1 ?_
    refine J.iload_n 1 dX9_letterIs_8 rfl rfl ?_
    refine I.add dX9_letterIs_9 ?_
    refine J.aload_n 0 dX9_letterIs_10 rfl rfl ?_
    refine I.gI 13 rfl dX9_letterIs_11 jcls fX9_162 rfl (by decide) rfl ?_
    refine I.sx p1.2.2.1 ?_
    refine I.icmp_lt 21 dX9_letterIs_14 (by decide) (by omega) (by omega) (fun h14 => ?_) (fun h14 => ?_)
    · skip
      refine I.iconst dX9_letterIs_21 ?_
      refine J.goto 58 dX9_letterIs_22 (by decide) ?_
      exact I.zretI dX9_letterIs_58 rfl (by first | exact Or.inl rfl | exact Or.inr rfl | exact bI_01 _ | omega) (by unfold pL; first | exact (bI_t (by omega)).symm | exact (bI_f (by omega)).symm) rfl
    · skip
      refine I.iconst dX9_letterIs_17 ?_
      refine J.goto 58 dX9_letterIs_18 (by decide) ?_
      exact I.zretI dX9_letterIs_58 rfl (by first | exact Or.inl rfl | exact Or.inr rfl | exact bI_01 _ | omega) (by unfold pL; first | exact (bI_t (by omega)).symm | exact (bI_f (by omega)).symm) rfl
set_option maxHeartbeats 1000000 in
theorem c_X9_isWord {Γ : jE} (hl : Γ.1.stackTraces = false) {s : Nat → Int → Int} {ε : jEps} {d : Nat} {a0 : Int} {a1 : Int} {a2 : Int} {a3 : Int} {a4 : Int} {T : Int → Int} {n q : Int} (hd : 1 ≤ d) (p0 : PTx T n) (p1 : MK T n s q) (p2 : 0 ≤ a0 ∧ a0 < 128) (p3 : 0 ≤ a1 ∧ a1 < 128) (p4 : 0 ≤ a2 ∧ a2 < 128) (p5 : 0 ≤ a3 ∧ a3 < 128) (p6 : 0 ≤ a4 ∧ a4 < 128) : Con Γ (d, 0, 0) mX9_isWord [.ref 137, .int (iI a0), .int (iI a1), .int (iI a2), .int (iI a3), .int (iI a4)] (jmem s ε) (RI (bI (pWl T n q a0 a1 a2 a3 a4)) (s) ε) X0 := by
  refine Con.ofJ (by decide +kernel) (by simp [Value.category]) (Nat.le_of_ble_eq_true rfl) ?_ hl
  have w := p1.w p0
  have t0 := p0.2
  refine J.aload_n 0 dX9_isWord_0 rfl rfl ?_
  have k0 := pSrt_rng _ w.2.1
  have k1 := pSrt_1 (pK T n q)
  refine I.gI 15 rfl dX9_isWord_1 jcls fX9_172 rfl (by decide) rfl ?_
  refine I.sx (p1.2.2.2.2) ?_
  refine I.iconst dX9_isWord_4 ?_
  refine I.icmp_ne 68 dX9_isWord_5 (by decide) (by omega) (by omega) (fun h5 => ?_) (fun h5 => ?_)
  · skip
    refine I.iconst dX9_isWord_68 ?_
    exact I.zretI dX9_isWord_69 rfl (by first | exact Or.inl rfl | exact Or.inr rfl | exact bI_01 _ | omega) (bI_f (fun h => by have := h.1; omega)).symm rfl
  · skip
    refine J.aload_n 0 dX9_isWord_8 rfl rfl ?_
    refine I.iconst dX9_isWord_9 ?_
    refine J.iload_n 1 dX9_isWord_10 rfl rfl ?_
    refine I.callV2i (d' := d - 1) (mi' := mX9_letterIs) dX9_isWord_11 lX9_181 eX9_letterIs rfl rfl (c_X9_letterIs (d := d - 1) hl (by omega) p0 p1 (by first | omega | assumption) (by first | omega | assumption)) (show d - 1 + 1 ≤ d from by omega) (Nat.le_of_ble_eq_true rfl) ?_
    refine I.if_eqB 68 dX9_isWord_14 (by decide) (fun h14 => ?_) (fun h14 => ?_)
    · skip
      refine I.iconst dX9_isWord_68 ?_
      exact I.zretI dX9_isWord_69 rfl (by first | exact Or.inl rfl | exact Or.inr rfl | exact bI_01 _ | omega) (bI_f (fun h => h14 h.2.1)).symm rfl
    · skip
      refine J.aload_n 0 dX9_isWord_17 rfl rfl ?_
      refine I.iconst dX9_isWord_18 ?_
      refine J.iload_n 2 dX9_isWord_19 rfl rfl ?_
      refine I.callV2i (d' := d - 1) (mi' := mX9_letterIs) dX9_isWord_20 lX9_181 eX9_letterIs rfl rfl (c_X9_letterIs (d := d - 1) hl (by omega) p0 p1 (by first | omega | assumption) (by first | omega | assumption)) (show d - 1 + 1 ≤ d from by omega) (Nat.le_of_ble_eq_true rfl) ?_
      refine I.if_eqB 68 dX9_isWord_23 (by decide) (fun h23 => ?_) (fun h23 => ?_)
      · skip
        refine I.iconst dX9_isWord_68 ?_
        exact I.zretI dX9_isWord_69 rfl (by first | exact Or.inl rfl | exact Or.inr rfl | exact bI_01 _ | omega) (bI_f (fun h => h23 h.2.2.1)).symm rfl
      · skip
        refine J.aload_n 0 dX9_isWord_26 rfl rfl ?_
        refine I.iconst dX9_isWord_27 ?_
        refine J.iload_n 3 dX9_isWord_28 rfl rfl ?_
        refine I.callV2i (d' := d - 1) (mi' := mX9_letterIs) dX9_isWord_29 lX9_181 eX9_letterIs rfl rfl (c_X9_letterIs (d := d - 1) hl (by omega) p0 p1 (by first | omega | assumption) (by first | omega | assumption)) (show d - 1 + 1 ≤ d from by omega) (Nat.le_of_ble_eq_true rfl) ?_
        refine I.if_eqB 68 dX9_isWord_32 (by decide) (fun h32 => ?_) (fun h32 => ?_)
        · skip
          refine I.iconst dX9_isWord_68 ?_
          exact I.zretI dX9_isWord_69 rfl (by first | exact Or.inl rfl | exact Or.inr rfl | exact bI_01 _ | omega) (bI_f (fun h => h32 h.2.2.2.1)).symm rfl
        · skip
          refine J.aload_n 0 dX9_isWord_35 rfl rfl ?_
          refine I.iconst dX9_isWord_36 ?_
          refine J.iload dX9_isWord_37 rfl ?_
          refine I.callV2i (d' := d - 1) (mi' := mX9_letterIs) dX9_isWord_39 lX9_181 eX9_letterIs rfl rfl (c_X9_letterIs (d := d - 1) hl (by omega) p0 p1 (by first | omega | assumption) (by first | omega | assumption)) (show d - 1 + 1 ≤ d from by omega) (Nat.le_of_ble_eq_true rfl) ?_
          refine I.if_eqB 68 dX9_isWord_42 (by decide) (fun h42 => ?_) (fun h42 => ?_)
          · skip
            refine I.iconst dX9_isWord_68 ?_
            exact I.zretI dX9_isWord_69 rfl (by first | exact Or.inl rfl | exact Or.inr rfl | exact bI_01 _ | omega) (bI_f (fun h => h42 h.2.2.2.2.1)).symm rfl
          · skip
            refine J.aload_n 0 dX9_isWord_45 rfl rfl ?_
            refine I.iconst dX9_isWord_46 ?_
            refine J.iload dX9_isWord_47 rfl ?_
            refine I.callV2i (d' := d - 1) (mi' := mX9_letterIs) dX9_isWord_49 lX9_181 eX9_letterIs rfl rfl (c_X9_letterIs (d := d - 1) hl (by omega) p0 p1 (by first | omega | assumption) (by first | omega | assumption)) (show d - 1 + 1 ≤ d from by omega) (Nat.le_of_ble_eq_true rfl) ?_
            refine I.if_eqB 68 dX9_isWord_52 (by decide) (fun h52 => ?_) (fun h52 => ?_)
            · skip
              refine I.iconst dX9_isWord_68 ?_
              exact I.zretI dX9_isWord_69 rfl (by first | exact Or.inl rfl | exact Or.inr rfl | exact bI_01 _ | omega) (bI_f (fun h => h52 h.2.2.2.2.2.1)).symm rfl
            · skip
              refine J.aload_n 0 dX9_isWord_55 rfl rfl ?_
              refine I.iconst dX9_isWord_56 ?_
              refine I.iconst dX9_isWord_57 ?_
              refine I.callV2i (d' := d - 1) (mi' := mX9_letterIs) dX9_isWord_58 lX9_181 eX9_letterIs rfl rfl (c_X9_letterIs (d := d - 1) hl (by omega) p0 p1 (by first | omega | assumption) (by first | omega | assumption)) (show d - 1 + 1 ≤ d from by omega) (Nat.le_of_ble_eq_true rfl) ?_
              refine I.if_eqB 68 dX9_isWord_61 (by decide) (fun h61 => ?_) (fun h61 => ?_)
              · skip
                refine I.iconst dX9_isWord_68 ?_
                exact I.zretI dX9_isWord_69 rfl (by first | exact Or.inl rfl | exact Or.inr rfl | exact bI_01 _ | omega) (bI_f (fun h => h61 h.2.2.2.2.2.2)).symm rfl
              · skip
                refine I.iconst dX9_isWord_64 ?_
                refine J.goto 69 dX9_isWord_65 (by decide) ?_
                exact I.zretI dX9_isWord_69 rfl (by first | exact Or.inl rfl | exact Or.inr rfl | exact bI_01 _ | omega) (bI_t ⟨by omega, h14, h23, h32, h42, h52, h61⟩).symm rfl
set_option maxHeartbeats 1000000 in
theorem c_X9_isRoundWord {Γ : jE} (hl : Γ.1.stackTraces = false) {s : Nat → Int → Int} {ε : jEps} {d : Nat} {T : Int → Int} {n q : Int} (hd : 2 ≤ d) (p0 : PTx T n) (p1 : MK T n s q) : Con Γ (d, 0, 0) mX9_isRoundWord [.ref 137] (jmem s ε) (RI (bI (pW T n q 0)) (s) ε) X0 := by
  refine Con.ofJ (by decide +kernel) (by simp [Value.category]) (Nat.le_of_ble_eq_true rfl) ?_ hl
  refine J.aload_n 0 dX9_isRoundWord_0 rfl rfl ?_
  refine I.bipush dX9_isRoundWord_1 (by decide) ?_
  refine I.bipush dX9_isRoundWord_3 (by decide) ?_
  refine I.bipush dX9_isRoundWord_5 (by decide) ?_
  refine I.bipush dX9_isRoundWord_7 (by decide) ?_
  refine I.bipush dX9_isRoundWord_9 (by decide) ?_
  refine I.callV5i (d' := d - 1) (mi' := mX9_isWord) dX9_isRoundWord_11 lX9_185 eX9_isWord rfl rfl (c_X9_isWord (d := d - 1) hl (by omega) p0 p1 (by first | omega | assumption) (by first | omega | assumption) (by first | omega | assumption) (by first | omega | assumption) (by first | omega | assumption)) (show d - 1 + 1 ≤ d from by omega) (Nat.le_of_ble_eq_true rfl) ?_
  exact I.zretI dX9_isRoundWord_14 rfl (by first | exact Or.inl rfl | exact Or.inr rfl | exact bI_01 _ | omega) (bI_congr pW_0.symm) rfl
