section PC
variable {T : Int → Int} {n r q : Int} {g : Int → Int}
noncomputable def pCt (T : Int → Int) (n r : Int) (k : Nat) (p : Int) (g : Int → Int) : Int × Int × (Int → Int) :=
  if (pCh T n r p g).1 ≠ 0 then pCh T n r p g
  else if pK T n (pCh T n r p g).2.1 = 4 then pCh T n r p g
  else if pK T n (pCh T n r p g).2.1 = 3 then pCs T n r k (pCh T n r p g).2.1 (pCh T n r p g).2.2
  else (1, (pCh T n r p g).2.1, (pCh T n r p g).2.2)
theorem pCs_t {k : Nat} : pCs T n r (k + 1) q g = pCt T n r k (pN T n q) g := rfl
theorem pCt_a {k : Nat} (h : (pCh T n r q g).1 ≠ 0) : pCt T n r k q g = pCh T n r q g := if_pos h
theorem pCt_4 {k : Nat} (h : (pCh T n r q g).1 = 0) (h4 : pK T n (pCh T n r q g).2.1 = 4) : pCt T n r k q g = pCh T n r q g := (if_neg (not_not_intro h)).trans (if_pos h4)
theorem pCt_3 {k : Nat} (h : (pCh T n r q g).1 = 0) (h4 : pK T n (pCh T n r q g).2.1 = 3) : pCt T n r k q g = pCs T n r k (pCh T n r q g).2.1 (pCh T n r q g).2.2 := (if_neg (not_not_intro h)).trans ((if_neg (by omega)).trans (if_pos h4))
theorem pCt_n {k : Nat} (h : (pCh T n r q g).1 = 0) (h4 : pK T n (pCh T n r q g).2.1 ≠ 4) (h3 : pK T n (pCh T n r q g).2.1 ≠ 3) : pCt T n r k q g = (1, (pCh T n r q g).2.1, (pCh T n r q g).2.2) := (if_neg (not_not_intro h)).trans ((if_neg h4).trans (if_neg h3))
theorem pCt_bad {k : Nat} (h : ¬ pTok T n q) : pCt T n r k q g = (1, q, gOCh g r) := by
  have e := @pCh_bad T n r q g h
  rw [pCt_a (by rw [e]; exact (by decide : (1 : Int) ≠ 0)), e]
end PC
set_option maxHeartbeats 1000000 in
theorem k_X9_readsRound_23 {Γ : jE} (hl : Γ.1.stackTraces = false) {s : Nat → Int → Int} {ε : jEps} {d : Nat} {T : Int → Int} {n q r : Int} {g : Int → Int} (hd : 3 ≤ d) (p0 : PTx T n) (p1 : MD T n s g q) (p2 : g 0 = r ∧ r < 4) : ∀ (k : Nat) {z : Nat → Int → Int} {p : Int} {h : Int → Int} (q0 : ((k : Nat) : Int) = 2 - h (18 + r)) (q1 : MD T n z h p) (q2 : FrN s z) (q3 : h 0 = r + 1 ∧ 0 ≤ r) (q4 : pTok T n p), J Γ (d, 0, 0) mX9_readsRound 23 [some (.ref 137), some (.int (iI (r)))] [] (jmem z ε) (RQ (fun w s' => MR T n s s' w (pCt T n r k p h) (MD T n s' (pCt T n r k p h).2.2 (pCt T n r k p h).2.1 ∧ pK T n (pCt T n r k p h).2.1 = 4)) ε) X0 := by
  have f1 := p1.2.2.1
  have w := p1.1.w p0
  have z0 := (p1.2.2.2.1 r (by omega) p2.2).2.2 (by omega)
  intro k
  induction k with
  | zero =>
    intro z p h q0 q1 q2 q3 q4
    have w := q1.1.w p0
    have a0 := q1.2.2.1
    have a2 := q1.2.2.2.1 r q3.2 (by omega)
    refine J.aload_n 0 dX9_readsRound_23 rfl rfl ?_
    refine J.iload_n 1 dX9_readsRound_24 rfl rfl ?_
    refine I.callV1q (d' := d - 1) (mi' := mX9_readsChain) dX9_readsRound_25 lX9_198 eX9_readsChain rfl rfl (c_X9_readsChain (d := d - 1) hl (c := h (18 + r)) (by omega) p0 q1 q4 q3 ⟨rfl, by omega⟩) (show d - 1 + 1 ≤ d from by omega) (Nat.le_of_ble_eq_true rfl) ?_
    rintro w25 s25 o25
    refine I.if_ne 33 dX9_readsRound_28 (by decide) (by have := o25.rng; omega) (fun h28 => ?_) (fun h28 => ?_)
    · skip
      obtain ⟨z25, t25, d25⟩ := o25.went h28
      have iv := pCh_inv (r := r) (by omega) q1.2.2 q3.2 (by omega) (by omega) z25
      have w5 := d25.1.w p0
      have ks := pSrt_rng _ w5.2.1
      have k3 := pSrt_3 (pK T n (pCh T n r p h).2.1)
      have k4 := pSrt_4 (pK T n (pCh T n r p h).2.1)
      have k5 := t25.2.2
      refine J.aload_n 0 dX9_readsRound_33 rfl rfl ?_
      refine I.gI 15 rfl dX9_readsRound_34 jcls fX9_172 rfl (by decide) rfl ?_
      refine I.sx d25.1.2.2.2.2 ?_
      refine I.iconst dX9_readsRound_37 ?_
      refine I.icmp_ne 43 dX9_readsRound_38 (by decide) (by omega) (by omega) (fun h38 => ?_) (fun h38 => ?_)
      · skip
        refine J.aload_n 0 dX9_readsRound_43 rfl rfl ?_
        refine I.gI 15 rfl dX9_readsRound_44 jcls fX9_172 rfl (by decide) rfl ?_
        refine I.sx d25.1.2.2.2.2 ?_
        refine I.iconst dX9_readsRound_47 ?_
        refine I.icmp_eq 57 dX9_readsRound_48 (by decide) (by omega) (by omega) (fun h48 => ?_) (fun h48 => ?_)
        · skip
          refine J.aload_n 0 dX9_readsRound_57 rfl rfl ?_
          refine I.bipush dX9_readsRound_58 (by decide) ?_
          refine J.iload_n 1 dX9_readsRound_60 rfl rfl ?_
          refine I.add dX9_readsRound_61 ?_
          refine I.callV1i (d' := d - 1) (mi' := mX9_get) dX9_readsRound_62 lX9_46 eX9_get rfl rfl (c_X9_get (d := d - 1) hl (by omega) d25.2.1.1 (by omega)) (show d - 1 + 1 ≤ d from by omega) (Nat.le_of_ble_eq_true rfl) ?_
          refine I.sx iv.2.2.1 ?_
          refine I.iconst dX9_readsRound_65 ?_
          refine I.icmp_ne 75 dX9_readsRound_66 (by decide) (by omega) (by omega) (fun h66 => ?_) (fun h66 => ?_)
          · exact absurd h66 (by omega)
          · skip
            have e9 := pCt_3 (k := 0) z25 (by omega)
            refine J.aload_n 0 dX9_readsRound_69 rfl rfl ?_
            refine I.iconst dX9_readsRound_70 ?_
            refine I.callV1i (d' := d - 1) (mi' := mX9_faults) dX9_readsRound_71 lX9_175 eX9_faults rfl rfl (c_X9_faults (d := d - 1) hl (by omega) ) (show d - 1 + 1 ≤ d from by omega) (Nat.le_of_ble_eq_true rfl) ?_
            exact I.zretQ dX9_readsRound_74 rfl (by first | exact Or.inl rfl | exact Or.inr rfl | exact bI_01 _ | omega) (MR.bad (q2.trans o25.1) d25.1 e9 (by decide))
        · skip
          have e9 := pCt_n (k := 0) z25 (by omega) (by omega)
          refine J.aload_n 0 dX9_readsRound_51 rfl rfl ?_
          refine I.iconst dX9_readsRound_52 ?_
          refine I.callV1i (d' := d - 1) (mi' := mX9_faults) dX9_readsRound_53 lX9_175 eX9_faults rfl rfl (c_X9_faults (d := d - 1) hl (by omega) ) (show d - 1 + 1 ≤ d from by omega) (Nat.le_of_ble_eq_true rfl) ?_
          exact I.zretQ dX9_readsRound_56 rfl (by first | exact Or.inl rfl | exact Or.inr rfl | exact bI_01 _ | omega) (MR.bad (q2.trans o25.1) d25.1 e9 (by decide))
      · skip
        have e9 := pCt_4 (k := 0) z25 (by omega)
        refine I.iconst dX9_readsRound_41 ?_
        exact I.zretQ dX9_readsRound_42 rfl (by first | exact Or.inl rfl | exact Or.inr rfl | exact bI_01 _ | omega) (MR.good (q2.trans o25.1) (by rw [e9]; exact z25) (by rw [e9]; exact t25) (by rw [e9]; exact ⟨d25, by omega⟩))
    · skip
      skip
      refine I.iconst dX9_readsRound_31 ?_
      exact I.zretQ dX9_readsRound_32 rfl (by first | exact Or.inl rfl | exact Or.inr rfl | exact bI_01 _ | omega) (MR.fails q2 o25 h28 (fun x => pCt_a x) (fun x y => by have := pTok_D y; rw [pCt_n x (by omega) (by omega)]; exact ⟨rfl, rfl⟩))
  | succ k ih =>
    intro z p h q0 q1 q2 q3 q4
    have w := q1.1.w p0
    have a0 := q1.2.2.1
    have a2 := q1.2.2.2.1 r q3.2 (by omega)
    refine J.aload_n 0 dX9_readsRound_23 rfl rfl ?_
    refine J.iload_n 1 dX9_readsRound_24 rfl rfl ?_
    refine I.callV1q (d' := d - 1) (mi' := mX9_readsChain) dX9_readsRound_25 lX9_198 eX9_readsChain rfl rfl (c_X9_readsChain (d := d - 1) hl (c := h (18 + r)) (by omega) p0 q1 q4 q3 ⟨rfl, by omega⟩) (show d - 1 + 1 ≤ d from by omega) (Nat.le_of_ble_eq_true rfl) ?_
    rintro w25 s25 o25
    refine I.if_ne 33 dX9_readsRound_28 (by decide) (by have := o25.rng; omega) (fun h28 => ?_) (fun h28 => ?_)
    · skip
      obtain ⟨z25, t25, d25⟩ := o25.went h28
      have iv := pCh_inv (r := r) (by omega) q1.2.2 q3.2 (by omega) (by omega) z25
      have w5 := d25.1.w p0
      have ks := pSrt_rng _ w5.2.1
      have k3 := pSrt_3 (pK T n (pCh T n r p h).2.1)
      have k4 := pSrt_4 (pK T n (pCh T n r p h).2.1)
      have k5 := t25.2.2
      refine J.aload_n 0 dX9_readsRound_33 rfl rfl ?_
      refine I.gI 15 rfl dX9_readsRound_34 jcls fX9_172 rfl (by decide) rfl ?_
      refine I.sx d25.1.2.2.2.2 ?_
      refine I.iconst dX9_readsRound_37 ?_
      refine I.icmp_ne 43 dX9_readsRound_38 (by decide) (by omega) (by omega) (fun h38 => ?_) (fun h38 => ?_)
      · skip
        refine J.aload_n 0 dX9_readsRound_43 rfl rfl ?_
        refine I.gI 15 rfl dX9_readsRound_44 jcls fX9_172 rfl (by decide) rfl ?_
        refine I.sx d25.1.2.2.2.2 ?_
        refine I.iconst dX9_readsRound_47 ?_
        refine I.icmp_eq 57 dX9_readsRound_48 (by decide) (by omega) (by omega) (fun h48 => ?_) (fun h48 => ?_)
        · skip
          refine J.aload_n 0 dX9_readsRound_57 rfl rfl ?_
          refine I.bipush dX9_readsRound_58 (by decide) ?_
          refine J.iload_n 1 dX9_readsRound_60 rfl rfl ?_
          refine I.add dX9_readsRound_61 ?_
          refine I.callV1i (d' := d - 1) (mi' := mX9_get) dX9_readsRound_62 lX9_46 eX9_get rfl rfl (c_X9_get (d := d - 1) hl (by omega) d25.2.1.1 (by omega)) (show d - 1 + 1 ≤ d from by omega) (Nat.le_of_ble_eq_true rfl) ?_
          refine I.sx iv.2.2.1 ?_
          refine I.iconst dX9_readsRound_65 ?_
          refine I.icmp_ne 75 dX9_readsRound_66 (by decide) (by omega) (by omega) (fun h66 => ?_) (fun h66 => ?_)
          · skip
            have e9 := (pCt_3 (k := k + 1) z25 (by omega)).trans pCs_t
            refine J.aload_n 0 dX9_readsRound_75 rfl rfl ?_
            refine I.callV0q (d' := d - 1) (mi' := mX9_token) dX9_readsRound_76 lX9_178 eX9_token rfl rfl (c_X9_token (d := d - 1) hl (by omega) p0 d25.1.1 ⟨d25.1.2.2.1, by omega, by omega⟩) (show d - 1 + 1 ≤ d from by omega) (Nat.le_of_ble_eq_true rfl) ?_
            rintro w76 s76 ⟨m76, f76, o76⟩
            refine I.if_ne 23 dX9_readsRound_79 (by decide) (by rcases o76 with x | x <;> omega) (fun h79 => ?_) (fun h79 => ?_)
            · skip
              have yes : pTok T n (pN T n (pCh T n r p h).2.1) := by rcases o76 with x | x; exact x.2; omega
              rw [e9]
              exact J.fgt (by exact ⟨Or.inr rfl, Or.inr rfl, trivial⟩) (ih (by rw [iv.2.2.1]; omega) ⟨m76, MV.ft d25.2.1 f76, d25.2.2⟩ ((q2.trans o25.1).trans (FrN.ft f76)) ⟨by rw [iv.2.1]; exact q3.1, q3.2⟩ yes)
            · skip
              have no : ¬ pTok T n (pN T n (pCh T n r p h).2.1) ∧ s76 137 16 = 1 := by rcases o76 with x | x; omega; exact x.2
              have pb := @pCt_bad T n r (pN T n (pCh T n r p h).2.1) (pCh T n r p h).2.2 k no.1
              refine I.iconst dX9_readsRound_82 ?_
              exact I.zretQ dX9_readsRound_83 rfl (by first | exact Or.inl rfl | exact Or.inr rfl | exact bI_01 _ | omega) (MR.tok ((q2.trans o25.1).trans (FrN.ft f76)) m76 no.1 no.2 (by rw [e9, pb]) (by rw [e9, pb]; exact Or.inr rfl))
          · exact absurd h66 (by omega)
        · skip
          have e9 := pCt_n (k := (k + 1)) z25 (by omega) (by omega)
          refine J.aload_n 0 dX9_readsRound_51 rfl rfl ?_
          refine I.iconst dX9_readsRound_52 ?_
          refine I.callV1i (d' := d - 1) (mi' := mX9_faults) dX9_readsRound_53 lX9_175 eX9_faults rfl rfl (c_X9_faults (d := d - 1) hl (by omega) ) (show d - 1 + 1 ≤ d from by omega) (Nat.le_of_ble_eq_true rfl) ?_
          exact I.zretQ dX9_readsRound_56 rfl (by first | exact Or.inl rfl | exact Or.inr rfl | exact bI_01 _ | omega) (MR.bad (q2.trans o25.1) d25.1 e9 (by decide))
      · skip
        have e9 := pCt_4 (k := (k + 1)) z25 (by omega)
        refine I.iconst dX9_readsRound_41 ?_
        exact I.zretQ dX9_readsRound_42 rfl (by first | exact Or.inl rfl | exact Or.inr rfl | exact bI_01 _ | omega) (MR.good (q2.trans o25.1) (by rw [e9]; exact z25) (by rw [e9]; exact t25) (by rw [e9]; exact ⟨d25, by omega⟩))
    · skip
      skip
      refine I.iconst dX9_readsRound_31 ?_
      exact I.zretQ dX9_readsRound_32 rfl (by first | exact Or.inl rfl | exact Or.inr rfl | exact bI_01 _ | omega) (MR.fails q2 o25 h28 (fun x => pCt_a x) (fun x y => by have := pTok_D y; rw [pCt_n x (by omega) (by omega)]; exact ⟨rfl, rfl⟩))
set_option maxHeartbeats 1000000 in
theorem c_X9_readsRound {Γ : jE} (hl : Γ.1.stackTraces = false) {s : Nat → Int → Int} {ε : jEps} {d : Nat} {T : Int → Int} {n q r : Int} {g : Int → Int} (hd : 3 ≤ d) (p0 : PTx T n) (p1 : MD T n s g q) (p2 : g 0 = r ∧ r < 4) : Con Γ (d, 0, 0) mX9_readsRound [.ref 137] (jmem s ε) (RQ (fun w s' => MR T n s s' w (pRd T n q g) (MD T n s' (pRd T n q g).2.2 (pRd T n q g).2.1 ∧ pK T n (pRd T n q g).2.1 = 4)) ε) X0 := by
  refine Con.ofJ (by decide +kernel) (by simp [Value.category]) (Nat.le_of_ble_eq_true rfl) ?_ hl
  have f1 := p1.2.2.1
  have w := p1.1.w p0
  have z0 := (p1.2.2.2.1 r (by omega) p2.2).2.2 (by omega)
  refine J.aload_n 0 dX9_readsRound_0 rfl rfl ?_
  refine I.iconst dX9_readsRound_1 ?_
  refine I.callV1i (d' := d - 1) (mi' := mX9_get) dX9_readsRound_2 lX9_46 eX9_get rfl rfl (c_X9_get (d := d - 1) hl (by omega) p1.2.1.1 (by omega)) (show d - 1 + 1 ≤ d from by omega) (Nat.le_of_ble_eq_true rfl) ?_
  refine I.sx p2.1 ?_
  refine J.istore_n 1 dX9_readsRound_5 rfl (by decide) rfl ?_
  refine J.aload_n 0 dX9_readsRound_6 rfl rfl ?_
  refine I.iconst dX9_readsRound_7 ?_
  refine J.iload_n 1 dX9_readsRound_8 rfl rfl ?_
  refine I.iconst dX9_readsRound_9 ?_
  refine I.add dX9_readsRound_10 ?_
  refine I.callV2w (d' := d - 1) (mi' := mX9_set) dX9_readsRound_11 lX9_32 eX9_set rfl rfl (c_X9_set (d := d - 1) hl (by omega) p1.2.1.1 (by omega)) (show d - 1 + 1 ≤ d from by omega) (Nat.le_of_ble_eq_true rfl) ?_
  rintro s11 ⟨m11, f11⟩
  rw [show r + 1 = g 0 + 1 by omega] at m11
  have d11 : MV s11 (gORd g) ∧ s11 137 2 = 2320 := ⟨m11, MV.at0 p1.2.1 f11⟩
  have k11 : MK T n s11 q := p1.1.fm f11
  have n11 : FrN s s11 := FrN.fm f11 p1.2.1.2
  have p11 : FP (gORd g) := p1.2.2.ord (by omega)
  have h0 : gORd g 0 = r + 1 := by show g 0 + 1 = r + 1; omega
  have hz18 : gORd g (18 + r) = 0 := by unfold gORd; rw [upr_ne (by omega)]; exact z0
  have e0 : pRd T n q g = pCt T n r 2 (pN T n q) (gORd g) := by unfold pRd; rw [p2.1]; rfl
  rw [e0]
  refine J.aload_n 0 dX9_readsRound_14 rfl rfl ?_
  refine I.callV0q (d' := d - 1) (mi' := mX9_token) dX9_readsRound_15 lX9_178 eX9_token rfl rfl (c_X9_token (d := d - 1) hl (by omega) p0 k11.1 ⟨k11.2.2.1, by omega, by omega⟩) (show d - 1 + 1 ≤ d from by omega) (Nat.le_of_ble_eq_true rfl) ?_
  rintro w15 s15 ⟨m15, f15, o15⟩
  refine I.if_ne 23 dX9_readsRound_18 (by decide) (by rcases o15 with x | x <;> omega) (fun h18 => ?_) (fun h18 => ?_)
  · skip
    have yes : pTok T n (pN T n q) := by rcases o15 with x | x; exact x.2; omega
    have d14 : MD T n s15 (gORd g) (pN T n q) := ⟨m15, MV.ft d11 f15, p11⟩
    exact J.fgt (by exact ⟨Or.inr rfl, Or.inr rfl, trivial⟩) (k_X9_readsRound_23 hl (by omega) p0 p1 p2 (2) (by rw [hz18]; decide) d14 (n11.trans (FrN.ft f15)) ⟨h0, by omega⟩ yes)
  · skip
    have no : ¬ pTok T n (pN T n q) ∧ s15 137 16 = 1 := by rcases o15 with x | x; omega; exact x.2
    have pb := @pCt_bad T n r (pN T n q) (gORd g) 2 no.1
    refine I.iconst dX9_readsRound_21 ?_
    exact I.zretQ dX9_readsRound_22 rfl (by first | exact Or.inl rfl | exact Or.inr rfl | exact bI_01 _ | omega) (MR.tok (n11.trans (FrN.ft f15)) m15 no.1 no.2 (by rw [pb]) (by rw [pb]; exact Or.inr rfl))
