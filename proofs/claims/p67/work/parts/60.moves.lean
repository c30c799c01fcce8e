/-- the class, reading the moves -/
def CM (T : Int → Int) (n : Int) (s : Nat → Int → Int) (g : Int → Int) (q : Int) : Prop := SC T n s q ∧ RM s 3 g ∧ s 2 4 = 0 ∧ s 2 5 = -1
section CMs
variable {T : Int → Int} {n q : Int} {g h : Int → Int} {s s' : Nat → Int → Int}
theorem CM.next (t : PTx T n) (h : CM T n s g q) (k : s' 18 2 = pK T n (pN T n q) ∧ s' 18 3 = pS T n (pN T n q) ∧ s' 18 4 = pN T n (pN T n q)) (f : FrS s s') : CM T n s' g (pN T n q) :=
  ⟨h.1.next t k f, h.2.1.congr fun a j x y => f a j (by omega), (f 2 4 (by omega)).trans h.2.2.1, (f 2 5 (by omega)).trans h.2.2.2⟩
theorem CM.plays (c : CM T n s g q) (r : RM s' 3 h) (f : ∀ q i, (q < 3 + 7 ∨ 3 + 15 ≤ q) → s' q i = s q i) : CM T n s' h q :=
  ⟨c.1.keep fun a j x => f a j (by omega), r, (f 2 4 (by omega)).trans c.2.2.1, (f 2 5 (by omega)).trans c.2.2.2⟩
theorem FrP.fs (f : FrS s s') : FrP s s' := fun a j x => f a j (by omega)
end CMs
set_option maxHeartbeats 1000000 in
theorem c_X3_readSemicolon {Γ : jE} (hl : Γ.1.stackTraces = false) {s : Nat → Int → Int} {ε : jEps} {d : Nat} {T : Int → Int} {n q : Int} {g : Int → Int} (hd : 2 ≤ d) (p0 : PTx T n) (p1 : CM T n s g q) : Con Γ (d, 0, 0) mX3_readSemicolon [.ref 2] (jmem s ε) (RQ (fun w s' => CR T n s s' w (pSe T n q g g) (CM T n s' g (pN T n (pN T n q)))) ε) X0 := by
  refine Con.ofJ (by decide +kernel) (by simp [Value.category]) (Nat.le_of_ble_eq_true rfl) ?_ hl
  have w := p1.1.w p0
  refine J.aload_n 0 dX3_readSemicolon_0 rfl rfl ?_
  refine I.getR dX3_readSemicolon_1 jcls fX3_21 rfl (by decide) rfl rfl ?_
  refine I.callV0w (d' := d - 1) (mi' := mX4_step) dX3_readSemicolon_4 lX3_75 eX4_step rfl rfl (c_X4_step (d := d - 1) hl (by omega) p0 p1.1.1 ⟨p1.1.2.2.2.2, by omega, by omega⟩) (show d - 1 + 1 ≤ d from by omega) (Nat.le_of_ble_eq_true rfl) ?_
  rintro s4 ⟨⟨k4, a4, n4⟩, f4⟩
  have c4 := p1.next p0 ⟨k4, a4, n4⟩ f4
  have w4 := c4.1.w p0
  refine J.aload_n 0 dX3_readSemicolon_7 rfl rfl ?_
  refine I.getR dX3_readSemicolon_8 jcls fX3_21 rfl (by decide) rfl rfl ?_
  refine I.gI 2 rfl dX3_readSemicolon_11 jcls fX3_66 rfl (by decide) rfl ?_
  refine I.sx c4.1.2.2.1 ?_
  refine I.iconst dX3_readSemicolon_14 ?_
  refine I.icmp_eq 24 dX3_readSemicolon_15 (by decide) (by omega) (by omega) (fun h15 => ?_) (fun h15 => ?_)
  · skip
    have e9 : pSe T n q g g = (0, pN T n q, g) := by unfold pSe; exact if_pos h15
    refine J.aload_n 0 dX3_readSemicolon_24 rfl rfl ?_
    refine I.getR dX3_readSemicolon_25 jcls fX3_21 rfl (by decide) rfl rfl ?_
    refine I.callV0w (d' := d - 1) (mi' := mX4_step) dX3_readSemicolon_28 lX3_75 eX4_step rfl rfl (c_X4_step (d := d - 1) hl (by omega) p0 c4.1.1 ⟨c4.1.2.2.2.2, by omega, by omega⟩) (show d - 1 + 1 ≤ d from by omega) (Nat.le_of_ble_eq_true rfl) ?_
    rintro s28 ⟨⟨k28, a28, n28⟩, f28⟩
    refine I.iconst dX3_readSemicolon_31 ?_
    exact I.zretQ dX3_readSemicolon_32 rfl (by first | exact Or.inl rfl | exact Or.inr rfl | exact bI_01 _ | omega) (CR.good ((FrP.fs f4).trans (FrP.fs f28)) (by rw [e9]) (c4.next p0 ⟨k28, a28, n28⟩ f28))
  · skip
    have e9 : pSe T n q g g = (1, pN T n q, g) := by unfold pSe; exact if_neg h15
    refine J.aload_n 0 dX3_readSemicolon_18 rfl rfl ?_
    refine I.iconst dX3_readSemicolon_19 ?_
    refine I.callV1q (d' := d - 1) (mi' := mX3_fail) dX3_readSemicolon_20 lX3_55 eX3_fail rfl rfl (c_X3_fail (d := d - 1) hl (by omega) ) (show d - 1 + 1 ≤ d from by omega) (Nat.le_of_ble_eq_true rfl) ?_
    rintro _ _ ⟨rfl, rfl⟩
    exact I.zretQ dX3_readSemicolon_23 rfl (by first | exact Or.inl rfl | exact Or.inr rfl | exact bI_01 _ | omega) (CR.bad (FrP.fs f4) c4.1 e9 (by decide))
theorem pSe_h {T : Int → Int} {n q : Int} {g h : Int → Int} (e : (pSe T n q g g).1 = 0) : pSe T n q g h = (0, pN T n q, h) := by
  unfold pSe at e ⊢
  split at e
  · rename_i k; exact if_pos k
  · exact absurd (show (1 : Int) = 0 from e) (by decide)
theorem pSe_n {T : Int → Int} {n q : Int} {g h : Int → Int} (e : (pSe T n q g g).1 ≠ 0) : pSe T n q g h = pSe T n q g g := by
  unfold pSe at e ⊢
  split at e
  · exact absurd rfl e
  · rename_i k; rw [if_neg k, if_neg k]
set_option maxHeartbeats 1000000 in
theorem c_X3_readBurn {Γ : jE} (hl : Γ.1.stackTraces = false) {s : Nat → Int → Int} {ε : jEps} {d : Nat} {b : Int} {T : Int → Int} {n q : Int} {g : Int → Int} (hd : 3 ≤ d) (p0 : PTx T n) (p1 : CM T n s g q) (p2 : 0 ≤ b ∧ b ≤ 1) : Con Γ (d, 0, 0) mX3_readBurn [.ref 2, .int (iI b)] (jmem s ε) (RQ (fun w s' => CR T n s s' w (pBu T n (1 - b) q g) (CM T n s' (pBu T n (1 - b) q g).2.2 (pN T n (pBu T n (1 - b) q g).2.1))) ε) X0 := by
  refine Con.ofJ (by decide +kernel) (by simp [Value.category]) (Nat.le_of_ble_eq_true rfl) ?_ hl
  have w := p1.1.w p0
  refine J.aload_n 0 dX3_readBurn_0 rfl rfl ?_
  refine I.getR dX3_readBurn_1 jcls fX3_21 rfl (by decide) rfl rfl ?_
  refine I.callV0w (d' := d - 1) (mi' := mX4_step) dX3_readBurn_4 lX3_75 eX4_step rfl rfl (c_X4_step (d := d - 1) hl (by omega) p0 p1.1.1 ⟨p1.1.2.2.2.2, by omega, by omega⟩) (show d - 1 + 1 ≤ d from by omega) (Nat.le_of_ble_eq_true rfl) ?_
  rintro s4 ⟨⟨k4, a4, n4⟩, f4⟩
  have c4 := p1.next p0 ⟨k4, a4, n4⟩ f4
  have w4 := c4.1.w p0
  have hw := c4.2.1.w
  refine J.aload_n 0 dX3_readBurn_7 rfl rfl ?_
  refine I.getR dX3_readBurn_8 jcls fX3_21 rfl (by decide) rfl rfl ?_
  refine I.iconst dX3_readBurn_11 ?_
  refine I.callV1i (d' := d - 1) (mi' := mX4_isRun) dX3_readBurn_12 lX3_95 eX4_isRun rfl rfl (c_X4_isRun (d := d - 1) hl (by omega) p0 c4.1 (by first | omega | assumption)) (show d - 1 + 1 ≤ d from by omega) (Nat.le_of_ble_eq_true rfl) ?_
  refine I.if_neB 24 dX3_readBurn_15 (by decide) (fun h15 => ?_) (fun h15 => ?_)
  · skip
    have d1 := pT1_rng (T := T) w4.1.2.1 h15.1
    have x15 := h15.1
    refine J.aload_n 0 dX3_readBurn_24 rfl rfl ?_
    refine I.getR dX3_readBurn_25 jcls fX3_21 rfl (by decide) rfl rfl ?_
    refine I.iconst dX3_readBurn_28 ?_
    refine I.callV1i (d' := d - 1) (mi' := mX4_digit) dX3_readBurn_29 lX3_88 eX4_digit rfl rfl (c_X4_digit (d := d - 1) hl (by omega) p0 c4.1 (by omega)) (show d - 1 + 1 ≤ d from by omega) (Nat.le_of_ble_eq_true rfl) ?_
    refine I.sx (show _ = pT1 T n (pN T n q) by unfold pT1; rw [Int.add_zero]) ?_
    refine J.istore_n 2 dX3_readBurn_32 rfl (by decide) rfl ?_
    refine J.aload_n 0 dX3_readBurn_33 rfl rfl ?_
    refine I.getR dX3_readBurn_34 jcls fX3_12 rfl (by decide) rfl rfl ?_
    refine I.getR dX3_readBurn_37 jcls fX3_134 rfl (by decide) rfl rfl ?_
    refine I.gI 4 rfl dX3_readBurn_40 jcls fX3_138 rfl (by decide) rfl ?_
    refine I.sx (c4.2.1.over) ?_
    refine I.if_neB 69 dX3_readBurn_43 (by decide) (fun h43 => ?_) (fun h43 => ?_)
    · skip
      have e9 : pBu T n (1 - b) q g = (6, (pN T n q), g) := by unfold pBu; rw [pIf_f (not_not_intro h15)]; exact pIf_t (Or.inl h43)
      refine J.aload_n 0 dX3_readBurn_69 rfl rfl ?_
      refine I.bipush dX3_readBurn_70 (by decide) ?_
      refine I.callV1q (d' := d - 1) (mi' := mX3_fail) dX3_readBurn_72 lX3_55 eX3_fail rfl rfl (c_X3_fail (d := d - 1) hl (by omega) ) (show d - 1 + 1 ≤ d from by omega) (Nat.le_of_ble_eq_true rfl) ?_
      rintro _ _ ⟨rfl, rfl⟩
      exact I.zretQ dX3_readBurn_75 rfl (by first | exact Or.inl rfl | exact Or.inr rfl | exact bI_01 _ | omega) (CR.bad (FrP.fs f4) c4.1 e9 (by decide))
    · skip
      refine J.iload_n 2 dX3_readBurn_46 rfl rfl ?_
      refine J.aload_n 0 dX3_readBurn_47 rfl rfl ?_
      refine I.getR dX3_readBurn_48 jcls fX3_12 rfl (by decide) rfl rfl ?_
      refine I.callV0i (d' := d - 1) (mi' := mX2_chainsNow) dX3_readBurn_51 lX3_144 eX2_chainsNow rfl rfl (c_X2_chainsNow (d := d - 1) hl (by omega) jm3 c4.2.1) (show d - 1 + 1 ≤ d from by omega) (Nat.le_of_ble_eq_true rfl) ?_
      refine I.icmp_ge 69 dX3_readBurn_54 (by decide) (by omega) (by omega) (fun h54 => ?_) (fun h54 => ?_)
      · skip
        have e9 : pBu T n (1 - b) q g = (6, (pN T n q), g) := by unfold pBu; rw [pIf_f (not_not_intro h15)]; exact pIf_t (Or.inr (Or.inl h54))
        refine J.aload_n 0 dX3_readBurn_69 rfl rfl ?_
        refine I.bipush dX3_readBurn_70 (by decide) ?_
        refine I.callV1q (d' := d - 1) (mi' := mX3_fail) dX3_readBurn_72 lX3_55 eX3_fail rfl rfl (c_X3_fail (d := d - 1) hl (by omega) ) (show d - 1 + 1 ≤ d from by omega) (Nat.le_of_ble_eq_true rfl) ?_
        rintro _ _ ⟨rfl, rfl⟩
        exact I.zretQ dX3_readBurn_75 rfl (by first | exact Or.inl rfl | exact Or.inr rfl | exact bI_01 _ | omega) (CR.bad (FrP.fs f4) c4.1 e9 (by decide))
      · skip
        refine J.aload_n 0 dX3_readBurn_57 rfl rfl ?_
        refine I.getR dX3_readBurn_58 jcls fX3_12 rfl (by decide) rfl rfl ?_
        refine J.iload_n 2 dX3_readBurn_61 rfl rfl ?_
        have ee := c4.2.1.e (pT1 T n (pN T n q)) (by omega) (by omega)
        refine I.callV1i (d' := d - 1) (mi' := mX2_lengthNow) dX3_readBurn_62 lX3_148 eX2_lengthNow rfl rfl (c_X2_lengthNow (d := d - 1) hl (by omega) jm3 c4.2.1 (by omega)) (show d - 1 + 1 ≤ d from by omega) (Nat.le_of_ble_eq_true rfl) ?_
        refine I.iconst dX3_readBurn_65 ?_
        refine I.icmp_ge 76 dX3_readBurn_66 (by decide) (by omega) (by omega) (fun h66 => ?_) (fun h66 => ?_)
        · skip
          have e8 : pBu T n (1 - b) q g = pSe T n (pN T n q) g (gPlay g (2 * pT1 T n (pN T n q) + (1 - b))) := by
            unfold pBu
            rw [pIf_f (not_not_intro h15)]
            exact pIf_f (by rintro (x | x | x); exact h43 x; omega; omega)
          have lg : gLegal g (2 * pT1 T n (pN T n q) + (1 - b)) := Or.inr ⟨by omega, by rw [show (2 * pT1 T n (pN T n q) + (1 - b)) / 2 = pT1 T n (pN T n q) by omega]; omega, by rw [show (2 * pT1 T n (pN T n q) + (1 - b)) / 2 = pT1 T n (pN T n q) by omega]; omega⟩
          refine J.aload_n 0 dX3_readBurn_76 rfl rfl ?_
          refine I.callV0q (d' := d - 1) (mi' := mX3_readSemicolon) dX3_readBurn_77 lX3_151 eX3_readSemicolon rfl rfl (c_X3_readSemicolon (d := d - 1) hl (q := (pN T n q)) (by omega) p0 c4) (show d - 1 + 1 ≤ d from by omega) (Nat.le_of_ble_eq_true rfl) ?_
          rintro w77 s77 o77
          refine I.if_ne 85 dX3_readBurn_80 (by decide) (by have := o77.rng; omega) (fun h80 => ?_) (fun h80 => ?_)
          · skip
            obtain ⟨z77, c77⟩ := o77.went h80
            refine J.aload_n 0 dX3_readBurn_85 rfl rfl ?_
            refine I.getR dX3_readBurn_86 jcls fX3_12 rfl (by decide) rfl rfl ?_
            refine J.iload_n 2 dX3_readBurn_89 rfl rfl ?_
            refine J.iload_n 1 dX3_readBurn_90 rfl rfl ?_
            refine I.callSN2i (d' := d - 1) (mi' := mX8_burnCode) dX3_readBurn_91 nX3_154 eX8_burnCode (c_X8_burnCode (d := d - 1) hl (by omega) (by omega) (by omega)) (show d - 1 + 1 ≤ d from by omega) (Nat.le_of_ble_eq_true rfl) ?_
            refine I.callV1w (d' := d - 1) (mi' := mX2_play) dX3_readBurn_94 lX3_158 eX2_play rfl rfl (c_X2_play (d := d - 1) hl (by omega) jm3 c77.2.1 lg h43) (show d - 1 + 1 ≤ d from by omega) (Nat.le_of_ble_eq_true rfl) ?_
            rintro s94 ⟨r94, f94⟩
            refine I.iconst dX3_readBurn_97 ?_
            exact I.zretQ dX3_readBurn_98 rfl (by first | exact Or.inl rfl | exact Or.inr rfl | exact bI_01 _ | omega) (CR.good ((FrP.fs f4).trans (o77.1.trans fun a j x => f94 a j (by omega))) (by rw [e8, pSe_h z77]) (by rw [e8, pSe_h z77]; exact c77.plays r94 f94))
          · skip
            have ne77 : (pSe T n (pN T n q) g g).1 ≠ 0 := (by rcases o77.2 with x | x; omega; exact x.1)
            refine I.iconst dX3_readBurn_83 ?_
            exact I.zretQ dX3_readBurn_84 rfl (by first | exact Or.inl rfl | exact Or.inr rfl | exact bI_01 _ | omega) (CR.fails (FrP.fs f4) o77 h80 (e8.trans (pSe_n ne77)))
        · skip
          have e9 : pBu T n (1 - b) q g = (6, (pN T n q), g) := by unfold pBu; rw [pIf_f (not_not_intro h15)]; exact pIf_t (Or.inr (Or.inr h66))
          refine J.aload_n 0 dX3_readBurn_69 rfl rfl ?_
          refine I.bipush dX3_readBurn_70 (by decide) ?_
          refine I.callV1q (d' := d - 1) (mi' := mX3_fail) dX3_readBurn_72 lX3_55 eX3_fail rfl rfl (c_X3_fail (d := d - 1) hl (by omega) ) (show d - 1 + 1 ≤ d from by omega) (Nat.le_of_ble_eq_true rfl) ?_
          rintro _ _ ⟨rfl, rfl⟩
          exact I.zretQ dX3_readBurn_75 rfl (by first | exact Or.inl rfl | exact Or.inr rfl | exact bI_01 _ | omega) (CR.bad (FrP.fs f4) c4.1 e9 (by decide))
  · skip
    have e9 : pBu T n (1 - b) q g = (1, (pN T n q), g) := by unfold pBu; exact pIf_t h15
    refine J.aload_n 0 dX3_readBurn_18 rfl rfl ?_
    refine I.iconst dX3_readBurn_19 ?_
    refine I.callV1q (d' := d - 1) (mi' := mX3_fail) dX3_readBurn_20 lX3_55 eX3_fail rfl rfl (c_X3_fail (d := d - 1) hl (by omega) ) (show d - 1 + 1 ≤ d from by omega) (Nat.le_of_ble_eq_true rfl) ?_
    rintro _ _ ⟨rfl, rfl⟩
    exact I.zretQ dX3_readBurn_23 rfl (by first | exact Or.inl rfl | exact Or.inr rfl | exact bI_01 _ | omega) (CR.bad (FrP.fs f4) c4.1 e9 (by decide))
set_option maxHeartbeats 1000000 in
theorem c_X3_readPass {Γ : jE} (hl : Γ.1.stackTraces = false) {s : Nat → Int → Int} {ε : jEps} {d : Nat} {T : Int → Int} {n q : Int} {g : Int → Int} (hd : 3 ≤ d) (p0 : PTx T n) (p1 : CM T n s g q) : Con Γ (d, 0, 0) mX3_readPass [.ref 2] (jmem s ε) (RQ (fun w s' => CR T n s s' w (pIf (gOver g) (6, q, g) (pSe T n q g (gPlay g 6))) (CM T n s' (pIf (gOver g) (6, q, g) (pSe T n q g (gPlay g 6))).2.2 (pN T n (pIf (gOver g) (6, q, g) (pSe T n q g (gPlay g 6))).2.1))) ε) X0 := by
  refine Con.ofJ (by decide +kernel) (by simp [Value.category]) (Nat.le_of_ble_eq_true rfl) ?_ hl
  have w := p1.1.w p0
  refine J.aload_n 0 dX3_readPass_0 rfl rfl ?_
  refine I.getR dX3_readPass_1 jcls fX3_12 rfl (by decide) rfl rfl ?_
  refine I.getR dX3_readPass_4 jcls fX3_134 rfl (by decide) rfl rfl ?_
  refine I.gI 4 rfl dX3_readPass_7 jcls fX3_138 rfl (by decide) rfl ?_
  refine I.sx (p1.2.1.over) ?_
  refine I.if_eqB 20 dX3_readPass_10 (by decide) (fun h10 => ?_) (fun h10 => ?_)
  · skip
    have e8 : pIf (gOver g) (6, q, g) (pSe T n q g (gPlay g 6)) = pSe T n q g (gPlay g 6) := pIf_f h10
    refine J.aload_n 0 dX3_readPass_20 rfl rfl ?_
    refine I.callV0q (d' := d - 1) (mi' := mX3_readSemicolon) dX3_readPass_21 lX3_151 eX3_readSemicolon rfl rfl (c_X3_readSemicolon (d := d - 1) hl (q := q) (by omega) p0 p1) (show d - 1 + 1 ≤ d from by omega) (Nat.le_of_ble_eq_true rfl) ?_
    rintro w21 s21 o21
    refine I.if_ne 29 dX3_readPass_24 (by decide) (by have := o21.rng; omega) (fun h24 => ?_) (fun h24 => ?_)
    · skip
      obtain ⟨z21, c21⟩ := o21.went h24
      refine J.aload_n 0 dX3_readPass_29 rfl rfl ?_
      refine I.getR dX3_readPass_30 jcls fX3_12 rfl (by decide) rfl rfl ?_
      refine I.bipush dX3_readPass_33 (by decide) ?_
      refine I.callV1w (d' := d - 1) (mi' := mX2_play) dX3_readPass_35 lX3_158 eX2_play rfl rfl (c_X2_play (d := d - 1) hl (by omega) jm3 c21.2.1 (Or.inl rfl) h10) (show d - 1 + 1 ≤ d from by omega) (Nat.le_of_ble_eq_true rfl) ?_
      rintro s35 ⟨r35, f35⟩
      refine I.iconst dX3_readPass_38 ?_
      exact I.zretQ dX3_readPass_39 rfl (by first | exact Or.inl rfl | exact Or.inr rfl | exact bI_01 _ | omega) (CR.good (o21.1.trans fun a j x => f35 a j (by omega)) (by rw [e8, pSe_h z21]) (by rw [e8, pSe_h z21]; exact c21.plays r35 f35))
    · skip
      have ne21 : (pSe T n q g g).1 ≠ 0 := (by rcases o21.2 with x | x; omega; exact x.1)
      refine I.iconst dX3_readPass_27 ?_
      exact I.zretQ dX3_readPass_28 rfl (by first | exact Or.inl rfl | exact Or.inr rfl | exact bI_01 _ | omega) (CR.fails (fun q j h => rfl) o21 h24 (e8.trans (pSe_n ne21)))
  · skip
    have e9 : pIf (gOver g) (6, q, g) (pSe T n q g (gPlay g 6)) = (6, q, g) := pIf_t h10
    refine J.aload_n 0 dX3_readPass_13 rfl rfl ?_
    refine I.bipush dX3_readPass_14 (by decide) ?_
    refine I.callV1q (d' := d - 1) (mi' := mX3_fail) dX3_readPass_16 lX3_55 eX3_fail rfl rfl (c_X3_fail (d := d - 1) hl (by omega) ) (show d - 1 + 1 ≤ d from by omega) (Nat.le_of_ble_eq_true rfl) ?_
    rintro _ _ ⟨rfl, rfl⟩
    exact I.zretQ dX3_readPass_19 rfl (by first | exact Or.inl rfl | exact Or.inr rfl | exact bI_01 _ | omega) (CR.bad (fun q j h => rfl) p1.1 e9 (by decide))
set_option maxHeartbeats 1000000 in
theorem c_X3_readNext {Γ : jE} (hl : Γ.1.stackTraces = false) {s : Nat → Int → Int} {ε : jEps} {d : Nat} {T : Int → Int} {n q : Int} {g : Int → Int} (hd : 4 ≤ d) (p0 : PTx T n) (p1 : CM T n s g q) : Con Γ (d, 0, 0) mX3_readNext [.ref 2] (jmem s ε) (RQ (fun w s' => CR T n s s' w (pIf (¬ gOver g ∨ g 1 = g 0 - 1) (6, q, g) (pSe T n q g (gNext g))) (CM T n s' (pIf (¬ gOver g ∨ g 1 = g 0 - 1) (6, q, g) (pSe T n q g (gNext g))).2.2 (pN T n (pIf (¬ gOver g ∨ g 1 = g 0 - 1) (6, q, g) (pSe T n q g (gNext g))).2.1))) ε) X0 := by
  refine Con.ofJ (by decide +kernel) (by simp [Value.category]) (Nat.le_of_ble_eq_true rfl) ?_ hl
  have w := p1.1.w p0
  refine J.aload_n 0 dX3_readNext_0 rfl rfl ?_
  refine I.getR dX3_readNext_1 jcls fX3_12 rfl (by decide) rfl rfl ?_
  refine I.getR dX3_readNext_4 jcls fX3_134 rfl (by decide) rfl rfl ?_
  refine I.gI 4 rfl dX3_readNext_7 jcls fX3_138 rfl (by decide) rfl ?_
  refine I.sx (p1.2.1.over) ?_
  refine I.if_eqB 23 dX3_readNext_10 (by decide) (fun h10 => ?_) (fun h10 => ?_)
  · skip
    have e9 : pIf (¬ gOver g ∨ g 1 = g 0 - 1) (6, q, g) (pSe T n q g (gNext g)) = (6, q, g) := pIf_t (Or.inl h10)
    refine J.aload_n 0 dX3_readNext_23 rfl rfl ?_
    refine I.bipush dX3_readNext_24 (by decide) ?_
    refine I.callV1q (d' := d - 1) (mi' := mX3_fail) dX3_readNext_26 lX3_55 eX3_fail rfl rfl (c_X3_fail (d := d - 1) hl (by omega) ) (show d - 1 + 1 ≤ d from by omega) (Nat.le_of_ble_eq_true rfl) ?_
    rintro _ _ ⟨rfl, rfl⟩
    exact I.zretQ dX3_readNext_29 rfl (by first | exact Or.inl rfl | exact Or.inr rfl | exact bI_01 _ | omega) (CR.bad (fun q j h => rfl) p1.1 e9 (by decide))
  · skip
    refine J.aload_n 0 dX3_readNext_13 rfl rfl ?_
    refine I.getR dX3_readNext_14 jcls fX3_12 rfl (by decide) rfl rfl ?_
    refine I.callV0i (d' := d - 1) (mi' := mX2_isLastRound) dX3_readNext_17 lX3_162 eX2_isLastRound rfl rfl (c_X2_isLastRound (d := d - 1) hl (by omega) jm3 p1.2.1) (show d - 1 + 1 ≤ d from by omega) (Nat.le_of_ble_eq_true rfl) ?_
    refine I.if_eqB 30 dX3_readNext_20 (by decide) (fun h20 => ?_) (fun h20 => ?_)
    · skip
      have e8 : pIf (¬ gOver g ∨ g 1 = g 0 - 1) (6, q, g) (pSe T n q g (gNext g)) = pSe T n q g (gNext g) := pIf_f (by rintro (x | x); exact x h10; exact h20 x)
      have hw := p1.2.1.w
      refine J.aload_n 0 dX3_readNext_30 rfl rfl ?_
      refine I.callV0q (d' := d - 1) (mi' := mX3_readSemicolon) dX3_readNext_31 lX3_151 eX3_readSemicolon rfl rfl (c_X3_readSemicolon (d := d - 1) hl (q := q) (by omega) p0 p1) (show d - 1 + 1 ≤ d from by omega) (Nat.le_of_ble_eq_true rfl) ?_
      rintro w31 s31 o31
      refine I.if_ne 39 dX3_readNext_34 (by decide) (by have := o31.rng; omega) (fun h34 => ?_) (fun h34 => ?_)
      · skip
        obtain ⟨z31, c31⟩ := o31.went h34
        refine J.aload_n 0 dX3_readNext_39 rfl rfl ?_
        refine I.getR dX3_readNext_40 jcls fX3_12 rfl (by decide) rfl rfl ?_
        refine I.callV0w (d' := d - 1) (mi' := mX2_beginNext) dX3_readNext_43 lX3_165 eX2_beginNext rfl rfl (c_X2_beginNext (d := d - 1) hl (by omega) jm3 c31.2.1 (by omega)) (show d - 1 + 1 ≤ d from by omega) (Nat.le_of_ble_eq_true rfl) ?_
        rintro s43 ⟨r43, f43⟩
        refine I.iconst dX3_readNext_46 ?_
        exact I.zretQ dX3_readNext_47 rfl (by first | exact Or.inl rfl | exact Or.inr rfl | exact bI_01 _ | omega) (CR.good (o31.1.trans fun a j x => f43 a j (by omega)) (by rw [e8, pSe_h z31]) (by rw [e8, pSe_h z31]; exact c31.plays r43 f43))
      · skip
        have ne31 : (pSe T n q g g).1 ≠ 0 := (by rcases o31.2 with x | x; omega; exact x.1)
        refine I.iconst dX3_readNext_37 ?_
        exact I.zretQ dX3_readNext_38 rfl (by first | exact Or.inl rfl | exact Or.inr rfl | exact bI_01 _ | omega) (CR.fails (fun q j h => rfl) o31 h34 (e8.trans (pSe_n ne31)))
    · skip
      have e9 : pIf (¬ gOver g ∨ g 1 = g 0 - 1) (6, q, g) (pSe T n q g (gNext g)) = (6, q, g) := pIf_t (Or.inr h20)
      refine J.aload_n 0 dX3_readNext_23 rfl rfl ?_
      refine I.bipush dX3_readNext_24 (by decide) ?_
      refine I.callV1q (d' := d - 1) (mi' := mX3_fail) dX3_readNext_26 lX3_55 eX3_fail rfl rfl (c_X3_fail (d := d - 1) hl (by omega) ) (show d - 1 + 1 ≤ d from by omega) (Nat.le_of_ble_eq_true rfl) ?_
      rintro _ _ ⟨rfl, rfl⟩
      exact I.zretQ dX3_readNext_29 rfl (by first | exact Or.inl rfl | exact Or.inr rfl | exact bI_01 _ | omega) (CR.bad (fun q j h => rfl) p1.1 e9 (by decide))
set_option maxHeartbeats 1000000 in
theorem c_X3_readMove {Γ : jE} (hl : Γ.1.stackTraces = false) {s : Nat → Int → Int} {ε : jEps} {d : Nat} {T : Int → Int} {n q : Int} {g : Int → Int} (hd : 5 ≤ d) (p0 : PTx T n) (p1 : CM T n s g q) : Con Γ (d, 0, 0) mX3_readMove [.ref 2] (jmem s ε) (RQ (fun w s' => CR T n s s' w (pMv T n q g) (CM T n s' (pMv T n q g).2.2 (pN T n (pMv T n q g).2.1))) ε) X0 := by
  refine Con.ofJ (by decide +kernel) (by simp [Value.category]) (Nat.le_of_ble_eq_true rfl) ?_ hl
  have w := p1.1.w p0
  refine J.aload_n 0 dX3_readMove_0 rfl rfl ?_
  refine I.getR dX3_readMove_1 jcls fX3_21 rfl (by decide) rfl rfl ?_
  refine J.ldcS 1 dX3_readMove_4 (t := "left") (by decide) rfl ?_
  refine I.callV1i (d' := d - 1) (mi' := mX4_isWord) dX3_readMove_6 lX3_51 eX4_isWord rfl rfl (c_X4_isWord (d := d - 1) hl (by omega) (by decide) p0 p1.1) (show d - 1 + 1 ≤ d from by omega) (Nat.le_of_ble_eq_true rfl) ?_
  refine I.if_eqB 18 dX3_readMove_9 (by decide) (fun h9 => ?_) (fun h9 => ?_)
  · skip
    refine J.aload_n 0 dX3_readMove_18 rfl rfl ?_
    refine I.getR dX3_readMove_19 jcls fX3_21 rfl (by decide) rfl rfl ?_
    refine J.ldcS 2 dX3_readMove_22 (t := "right") (by decide) rfl ?_
    refine I.callV1i (d' := d - 1) (mi' := mX4_isWord) dX3_readMove_24 lX3_51 eX4_isWord rfl rfl (c_X4_isWord (d := d - 1) hl (by omega) (by decide) p0 p1.1) (show d - 1 + 1 ≤ d from by omega) (Nat.le_of_ble_eq_true rfl) ?_
    refine I.if_eqB 36 dX3_readMove_27 (by decide) (fun h27 => ?_) (fun h27 => ?_)
    · skip
      refine J.aload_n 0 dX3_readMove_36 rfl rfl ?_
      refine I.getR dX3_readMove_37 jcls fX3_21 rfl (by decide) rfl rfl ?_
      refine J.ldcS 3 dX3_readMove_40 (t := "pass") (by decide) rfl ?_
      refine I.callV1i (d' := d - 1) (mi' := mX4_isWord) dX3_readMove_42 lX3_51 eX4_isWord rfl rfl (c_X4_isWord (d := d - 1) hl (by omega) (by decide) p0 p1.1) (show d - 1 + 1 ≤ d from by omega) (Nat.le_of_ble_eq_true rfl) ?_
      refine I.if_eqB 53 dX3_readMove_45 (by decide) (fun h45 => ?_) (fun h45 => ?_)
      · skip
        refine J.aload_n 0 dX3_readMove_53 rfl rfl ?_
        refine I.getR dX3_readMove_54 jcls fX3_21 rfl (by decide) rfl rfl ?_
        refine J.ldcS 4 dX3_readMove_57 (t := "next") (by decide) rfl ?_
        refine I.callV1i (d' := d - 1) (mi' := mX4_isWord) dX3_readMove_59 lX3_51 eX4_isWord rfl rfl (c_X4_isWord (d := d - 1) hl (by omega) (by decide) p0 p1.1) (show d - 1 + 1 ≤ d from by omega) (Nat.le_of_ble_eq_true rfl) ?_
        refine I.if_eqB 70 dX3_readMove_62 (by decide) (fun h62 => ?_) (fun h62 => ?_)
        · skip
          have e9 : pMv T n q g = (1, q, g) := by unfold pMv; rw [pIf_f h9, pIf_f h27, pIf_f h45]; exact pIf_f h62
          refine J.aload_n 0 dX3_readMove_70 rfl rfl ?_
          refine I.iconst dX3_readMove_71 ?_
          refine I.callV1q (d' := d - 1) (mi' := mX3_fail) dX3_readMove_72 lX3_55 eX3_fail rfl rfl (c_X3_fail (d := d - 1) hl (by omega) ) (show d - 1 + 1 ≤ d from by omega) (Nat.le_of_ble_eq_true rfl) ?_
          rintro _ _ ⟨rfl, rfl⟩
          exact I.zretQ dX3_readMove_75 rfl (by first | exact Or.inl rfl | exact Or.inr rfl | exact bI_01 _ | omega) (CR.bad (fun q j h => rfl) p1.1 e9 (by decide))
        · skip
          have e9 : pMv T n q g = pIf (¬ gOver g ∨ g 1 = g 0 - 1) (6, q, g) (pSe T n q g (gNext g)) := by unfold pMv; rw [pIf_f h9, pIf_f h27, pIf_f h45]; exact pIf_t h62
          refine J.aload_n 0 dX3_readMove_65 rfl rfl ?_
          refine I.callV0q (d' := d - 1) (mi' := mX3_readNext) dX3_readMove_66 lX3_131 eX3_readNext rfl rfl (c_X3_readNext (d := d - 1) hl (by omega) p0 p1) (show d - 1 + 1 ≤ d from by omega) (Nat.le_of_ble_eq_true rfl) ?_
          rintro w66 s66 o66
          exact I.zretQ dX3_readMove_69 rfl (by have := o66.rng; omega) (by rw [e9]; exact o66)
      · skip
        have e9 : pMv T n q g = pIf (gOver g) (6, q, g) (pSe T n q g (gPlay g 6)) := by unfold pMv; rw [pIf_f h9, pIf_f h27]; exact pIf_t h45
        refine J.aload_n 0 dX3_readMove_48 rfl rfl ?_
        refine I.callV0q (d' := d - 1) (mi' := mX3_readPass) dX3_readMove_49 lX3_126 eX3_readPass rfl rfl (c_X3_readPass (d := d - 1) hl (by omega) p0 p1) (show d - 1 + 1 ≤ d from by omega) (Nat.le_of_ble_eq_true rfl) ?_
        rintro w49 s49 o49
        exact I.zretQ dX3_readMove_52 rfl (by have := o49.rng; omega) (by rw [e9]; exact o49)
    · skip
      have e9 : pMv T n q g = pBu T n (1 - 0) q g := by unfold pMv; rw [pIf_f h9]; exact pIf_t h27
      refine J.aload_n 0 dX3_readMove_30 rfl rfl ?_
      refine I.iconst dX3_readMove_31 ?_
      refine I.callV1q (d' := d - 1) (mi' := mX3_readBurn) dX3_readMove_32 lX3_118 eX3_readBurn rfl rfl (c_X3_readBurn (d := d - 1) hl (by omega) p0 p1 (by omega)) (show d - 1 + 1 ≤ d from by omega) (Nat.le_of_ble_eq_true rfl) ?_
      rintro w32 s32 o32
      exact I.zretQ dX3_readMove_35 rfl (by have := o32.rng; omega) (by rw [e9]; exact o32)
  · skip
    have e9 : pMv T n q g = pBu T n (1 - 1) q g := by unfold pMv; exact pIf_t h9
    refine J.aload_n 0 dX3_readMove_12 rfl rfl ?_
    refine I.iconst dX3_readMove_13 ?_
    refine I.callV1q (d' := d - 1) (mi' := mX3_readBurn) dX3_readMove_14 lX3_118 eX3_readBurn rfl rfl (c_X3_readBurn (d := d - 1) hl (by omega) p0 p1 (by omega)) (show d - 1 + 1 ≤ d from by omega) (Nat.le_of_ble_eq_true rfl) ?_
    rintro w14 s14 o14
    exact I.zretQ dX3_readMove_17 rfl (by have := o14.rng; omega) (by rw [e9]; exact o14)
set_option maxHeartbeats 1000000 in
theorem k_X3_readMoves_9 {Γ : jE} (hl : Γ.1.stackTraces = false) {s : Nat → Int → Int} {ε : jEps} {d : Nat} {T : Int → Int} {n q : Int} {g : Int → Int} (hd : 6 ≤ d) (p0 : PTx T n) (p1 : CP T n s g q) (p2 : FL g) : ∀ (k : Nat) {z : Nat → Int → Int} {i p : Int} {h : Int → Int} (q0 : ((k : Nat) : Int) = 500 - i) (q1 : 0 ≤ i) (q2 : CM T n z h p) (q3 : FrP s z), J Γ (d, 0, 0) mX3_readMoves 9 [some (.ref 2), some (.int (iI (i)))] [] (jmem z ε) (RQ (fun w s' => CR T n s s' w (pMs T n k p h) (CM T n s' (pMs T n k p h).2.2 (pMs T n k p h).2.1)) ε) X0 := by
  have w := p1.1.w p0
  intro k
  induction k with
  | zero =>
    intro z i p h q0 q1 q2 q3
    have w := q2.1.w p0
    refine J.iload_n 1 dX3_readMoves_9 rfl rfl ?_
    refine I.sipush dX3_readMoves_10 (by decide) ?_
    refine I.icmp_ge 41 dX3_readMoves_13 (by decide) (by omega) (by omega) (fun h13 => ?_) (fun h13 => ?_)
    · skip
      refine I.iconst dX3_readMoves_41 ?_
      exact I.zretQ dX3_readMoves_42 rfl (by first | exact Or.inl rfl | exact Or.inr rfl | exact bI_01 _ | omega) (CR.good q3 rfl q2)
    · exact absurd h13 (by omega)
  | succ k ih =>
    intro z i p h q0 q1 q2 q3
    have w := q2.1.w p0
    refine J.iload_n 1 dX3_readMoves_9 rfl rfl ?_
    refine I.sipush dX3_readMoves_10 (by decide) ?_
    refine I.icmp_ge 41 dX3_readMoves_13 (by decide) (by omega) (by omega) (fun h13 => ?_) (fun h13 => ?_)
    · exact absurd h13 (by omega)
    · skip
      refine J.aload_n 0 dX3_readMoves_16 rfl rfl ?_
      refine I.getR dX3_readMoves_17 jcls fX3_21 rfl (by decide) rfl rfl ?_
      refine I.gI 2 rfl dX3_readMoves_20 jcls fX3_66 rfl (by decide) rfl ?_
      refine I.sx q2.1.2.2.1 ?_
      refine I.if_eq 41 dX3_readMoves_23 (by decide) (by omega) (fun h23 => ?_) (fun h23 => ?_)
      · skip
        have e9 : pMs T n (k + 1) p h = (0, p, h) := by unfold pMs; exact if_pos h23
        refine I.iconst dX3_readMoves_41 ?_
        exact I.zretQ dX3_readMoves_42 rfl (by first | exact Or.inl rfl | exact Or.inr rfl | exact bI_01 _ | omega) (CR.good q3 (by rw [e9]) (by rw [e9]; exact q2))
      · skip
        refine J.aload_n 0 dX3_readMoves_26 rfl rfl ?_
        refine I.callV0q (d' := d - 1) (mi' := mX3_readMove) dX3_readMoves_27 lX3_69 eX3_readMove rfl rfl (c_X3_readMove (d := d - 1) hl (by omega) p0 q2) (show d - 1 + 1 ≤ d from by omega) (Nat.le_of_ble_eq_true rfl) ?_
        rintro w27 s27 o27
        refine I.if_ne 35 dX3_readMoves_30 (by decide) (by have := o27.rng; omega) (fun h30 => ?_) (fun h30 => ?_)
        · skip
          obtain ⟨z27, c27⟩ := o27.went h30
          have e9 : pMs T n (k + 1) p h = pMs T n k (pN T n (pMv T n p h).2.1) (pMv T n p h).2.2 := (show (if _ then _ else _) = _ from (if_neg h23).trans (if_neg (not_not_intro z27)))
          refine I.iinc dX3_readMoves_35 rfl rfl ?_
          refine J.goto 9 dX3_readMoves_38 (by decide) ?_
          rw [e9]
          exact J.fgt (by exact ⟨Or.inr rfl, Or.inr rfl, trivial⟩) (ih (by omega) (by omega) c27 (q3.trans o27.1))
        · skip
          have e9 : pMs T n (k + 1) p h = pMv T n p h := (show (if _ then _ else _) = _ from (if_neg h23).trans (if_pos (by rcases o27.2 with x | x; omega; exact x.1)))
          refine I.iconst dX3_readMoves_33 ?_
          exact I.zretQ dX3_readMoves_34 rfl (by first | exact Or.inl rfl | exact Or.inr rfl | exact bI_01 _ | omega) (CR.fails q3 o27 h30 e9)
set_option maxHeartbeats 1000000 in
theorem c_X3_readMoves {Γ : jE} (hl : Γ.1.stackTraces = false) {s : Nat → Int → Int} {ε : jEps} {d : Nat} {T : Int → Int} {n q : Int} {g : Int → Int} (hd : 6 ≤ d) (p0 : PTx T n) (p1 : CP T n s g q) (p2 : FL g) : Con Γ (d, 0, 0) mX3_readMoves [.ref 2] (jmem s ε) (RQ (fun w s' => CR T n s s' w (pMs T n 500 q (gDeal g 0 0)) (CM T n s' (pMs T n 500 q (gDeal g 0 0)).2.2 (pMs T n 500 q (gDeal g 0 0)).2.1)) ε) X0 := by
  refine Con.ofJ (by decide +kernel) (by simp [Value.category]) (Nat.le_of_ble_eq_true rfl) ?_ hl
  have w := p1.1.w p0
  refine J.aload_n 0 dX3_readMoves_0 rfl rfl ?_
  refine I.getR dX3_readMoves_1 jcls fX3_12 rfl (by decide) rfl rfl ?_
  refine I.callV0w (d' := d - 1) (mi' := mX2_beginMatch) dX3_readMoves_4 lX3_63 eX2_beginMatch rfl rfl (c_X2_beginMatch (d := d - 1) hl (by omega) jm3 p1.2.1 p2 (fun j a b => p1.2.2.1.2.2.2.2 j (by omega) b)) (show d - 1 + 1 ≤ d from by omega) (Nat.le_of_ble_eq_true rfl) ?_
  rintro s4 ⟨r4, f4⟩
  have c4 : CM T n s4 (gDeal g 0 0) q := ⟨p1.1.keep fun a j x => f4 a j (by omega), r4, (f4 2 4 (by omega)).trans p1.2.2.2.1, (f4 2 5 (by omega)).trans p1.2.2.2.2⟩
  have f5 : FrP s s4 := fun a j x => f4 a j (by omega)
  refine I.iconst dX3_readMoves_7 ?_
  refine J.istore_n 1 dX3_readMoves_8 rfl (by decide) rfl ?_
  exact J.fgt (by exact ⟨Or.inr rfl, Or.inr rfl, trivial⟩) (k_X3_readMoves_9 hl (by omega) p0 p1 p2 (500) (by omega) (by omega) c4 f5)
