section CRs
variable {T : Int → Int} {n : Int} {s z s' : Nat → Int → Int} {g : Int → Int} {q e w : Int} {r : Int × Int × (Int → Int)} {ok : Prop}
theorem FrP.trans (a : FrP s z) (b : FrP z s') : FrP s s' := fun q j h => (b q j h).trans (a q j h)
theorem CR.bad (f : FrP s z) (h : SC T n z q) (e1 : r = (e, q, g)) (ne : e ≠ 0) : CR T n s (up (up z 2 4 e) 2 5 (z 18 3)) 0 r ok := by
  subst e1
  exact ⟨fun a j x => (up_ne (by omega)).trans ((up_ne (by omega)).trans (f a j x)), Or.inr ⟨ne, rfl, (up_ne (by omega)).trans (up_eq _ _ _ _), (up_eq _ _ _ _).trans h.2.2.2.1⟩⟩
theorem CR.good (f : FrP s z) (e1 : r.1 = 0) (h : ok) : CR T n s z 1 r ok := ⟨f, Or.inl ⟨e1, rfl, h⟩⟩
/-- .. of a part, that failed -/
theorem CR.fails {t : Int × Int × (Int → Int)} {ok2 : Prop} (f : FrP s z) (h : CR T n z s' w r ok) (h0 : w = 0) (e1 : t = r) : CR T n s s' 0 t ok2 := by
  subst e1
  obtain ⟨f2, h | ⟨a, b, c⟩⟩ := h
  · omega
  · exact ⟨f.trans f2, Or.inr ⟨a, rfl, c⟩⟩
theorem CR.went (h : CR T n z s' w r ok) (h0 : w ≠ 0) : r.1 = 0 ∧ ok := by
  obtain ⟨f2, ⟨a, b, c⟩ | ⟨a, b, c⟩⟩ := h
  · exact ⟨a, c⟩
  · exact absurd b h0
theorem CR.mono {ok2 : Prop} (h : CR T n s s' w r ok) (k : ok → ok2) : CR T n s s' w r ok2 := ⟨h.1, h.2.imp (fun ⟨a, b, c⟩ => ⟨a, b, k c⟩) id⟩
theorem CR.rng (h : CR T n s s' w r ok) : 0 ≤ w ∧ w ≤ 1 := by
  obtain ⟨f2, ⟨a, b, c⟩ | ⟨a, b, c⟩⟩ := h <;> omega
end CRs
/-- behind a chain -/
def okC (T : Int → Int) (n : Int) (s : Nat → Int → Int) (r : Int) (z : Int × Int × (Int → Int)) : Prop := CP T n s z.2.2 z.2.1 ∧ SN s z.2.2 r
set_option maxHeartbeats 1000000 in
theorem k_X3_readChain_19 {Γ : jE} (hl : Γ.1.stackTraces = false) {s : Nat → Int → Int} {ε : jEps} {d : Nat} {T : Int → Int} {n q r c : Int} {g : Int → Int} (hd : 4 ≤ d) (p0 : PTx T n) (p1 : CP T n s g q) (p2 : SN s g r) (p3 : g 0 = r + 1 ∧ 0 ≤ r) (p4 : g (18 + r) = c + 1 ∧ 0 ≤ c) (p5 : g (22 + 3 * r + c) = 0) : ∀ (k : Nat) {z : Nat → Int → Int} {t p : Int} {h : Int → Int} (q0 : ((k : Nat) : Int) = 9 - t) (q1 : 0 ≤ t) (q2 : CP T n z h p) (q3 : SN z h r) (q4 : h 0 = r + 1 ∧ 0 ≤ r) (q5 : h (18 + r) = c + 1 ∧ 0 ≤ c) (q6 : FrP s z) (q7 : 0 < t → z 2 3 = h (gTp r c (t - 1)) % 10) (q8 : t = h (22 + 3 * r + c)), J Γ (d, 0, 0) mX3_readChain 19 [some (.ref 2), some (.int (iI (t))), none] [] (jmem z ε) (RQ (fun w s' => CR T n s s' w (pTs T n r c k t p h) (okC T n s' r (pTs T n r c k t p h))) ε) X0 := by
  have w := p1.1.w p0
  intro k
  induction k with
  | zero =>
    intro z t p h q0 q1 q2 q3 q4 q5 q6 q7 q8
    have a0 := q2.2.2.1.1
    have a2 := q2.2.2.1.2.1 r q4.2 (by omega)
    have a3 := q2.2.2.1.2.2.1 r c q4.2 (by omega) q5.2 (by omega)
    have w := q2.1.w p0
    refine J.iload_n 1 dX3_readChain_19 rfl rfl ?_
    refine I.bipush dX3_readChain_20 (by decide) ?_
    refine I.icmp_gt 85 dX3_readChain_22 (by decide) (by omega) (by omega) (fun h22 => ?_) (fun h22 => ?_)
    · skip
      omega
    · skip
      omega
  | succ k ih =>
    intro z t p h q0 q1 q2 q3 q4 q5 q6 q7 q8
    have a0 := q2.2.2.1.1
    have a2 := q2.2.2.1.2.1 r q4.2 (by omega)
    have a3 := q2.2.2.1.2.2.1 r c q4.2 (by omega) q5.2 (by omega)
    have w := q2.1.w p0
    refine J.iload_n 1 dX3_readChain_19 rfl rfl ?_
    refine I.bipush dX3_readChain_20 (by decide) ?_
    refine I.icmp_gt 85 dX3_readChain_22 (by decide) (by omega) (by omega) (fun h22 => ?_) (fun h22 => ?_)
    · exact absurd h22 (by omega)
    · skip
      refine J.aload_n 0 dX3_readChain_25 rfl rfl ?_
      refine I.getR dX3_readChain_26 jcls fX3_21 rfl (by decide) rfl rfl ?_
      refine I.gI 2 rfl dX3_readChain_29 jcls fX3_66 rfl (by decide) rfl ?_
      refine I.sx q2.1.2.2.1 ?_
      refine I.iconst dX3_readChain_32 ?_
      refine I.icmp_ne 85 dX3_readChain_33 (by decide) (by omega) (by omega) (fun h33 => ?_) (fun h33 => ?_)
      · skip
        have e9 : pTs T n r c (k + 1) t p h = (0, p, h) := by unfold pTs; rw [if_neg h33]
        refine I.iconst dX3_readChain_85 ?_
        exact I.zretQ dX3_readChain_86 rfl (by first | exact Or.inl rfl | exact Or.inr rfl | exact bI_01 _ | omega) (CR.good q6 (by rw [e9]) (by rw [e9]; exact ⟨q2, q3⟩))
      · skip
        refine J.aload_n 0 dX3_readChain_36 rfl rfl ?_
        refine J.iload_n 1 dX3_readChain_37 rfl rfl ?_
        refine I.callV1i (d' := d - 1) (mi' := mX3_tileFault) dX3_readChain_38 lX3_84 eX3_tileFault rfl rfl (c_X3_tileFault (d := d - 1) hl (by omega) p0 q2.1 q3 (by omega) q7 h33 q2.2.2.1 ⟨by omega, by omega, q8⟩) (show d - 1 + 1 ≤ d from by omega) (Nat.le_of_ble_eq_true rfl) ?_
        have te := @pTE_rng T n r c h t p
        refine J.istore_n 2 dX3_readChain_41 rfl (by decide) rfl ?_
        refine J.iload_n 2 dX3_readChain_42 rfl rfl ?_
        refine I.if_eq 52 dX3_readChain_43 (by decide) (by omega) (fun h43 => ?_) (fun h43 => ?_)
        · skip
          obtain ⟨b1, b2, b3, b4⟩ := pTE_0 h43
          have b5 := pTi_rng w.1.2.1 b1 b2 b3
          have b6 := pT1_rng (T := T) w.1.2.1 h33
          have b7 := pT2_rng b1
          have e9 : pTs T n r c (k + 1) t p h = pTs T n r c k (t + 1) (pN T n p) (gAdd h r c t (pTi T n p)) := by
            unfold pTs
            rw [if_pos h33, if_neg (not_not_intro h43)]
            cases k <;> rfl
          have er : h 0 - 1 = r := by omega
          refine J.aload_n 0 dX3_readChain_52 rfl rfl ?_
          refine J.aload_n 0 dX3_readChain_53 rfl rfl ?_
          refine I.getR dX3_readChain_54 jcls fX3_21 rfl (by decide) rfl rfl ?_
          refine I.iconst dX3_readChain_57 ?_
          refine I.callV1i (d' := d - 1) (mi' := mX4_digit) dX3_readChain_58 lX3_88 eX4_digit rfl rfl (c_X4_digit (d := d - 1) hl (by omega) p0 q2.1 (by omega)) (show d - 1 + 1 ≤ d from by omega) (Nat.le_of_ble_eq_true rfl) ?_
          refine I.sx (show _ = pT1 T n p by unfold pT1; rw [Int.add_zero]) ?_
          refine J.aload_n 0 dX3_readChain_61 rfl rfl ?_
          refine I.getR dX3_readChain_62 jcls fX3_21 rfl (by decide) rfl rfl ?_
          refine I.iconst dX3_readChain_65 ?_
          refine I.callV1i (d' := d - 1) (mi' := mX4_digit) dX3_readChain_66 lX3_88 eX4_digit rfl rfl (c_X4_digit (d := d - 1) hl (by omega) p0 q2.1 (by have := b1.2; omega)) (show d - 1 + 1 ≤ d from by omega) (Nat.le_of_ble_eq_true rfl) ?_
          refine I.sx (show _ = pT2 T n p from rfl) ?_
          refine I.callV2w (d' := d - 1) (mi' := mX3_takeTile) dX3_readChain_69 lX3_91 eX3_takeTile rfl rfl (c_X3_takeTile (d := d - 1) hl (c := c) (t := t) (by omega) q2.2.1 q2.2.2.1 (by omega) (by rw [er]; omega) (by rw [er]; omega) (by omega) (by omega) (by rw [er]; exact q3)) (show d - 1 + 1 ≤ d from by omega) (Nat.le_of_ble_eq_true rfl) ?_
          rintro s69 y69
          rw [er] at y69
          obtain ⟨y69, n69, o69, f69⟩ := y69
          have c69 : CP T n s69 (gAdd h r c t (pTi T n p)) p := ⟨q2.1.keep fun a j x => f69 a j (by omega) (by omega) (by omega), y69, q2.2.2.1.add q4.2 (by omega) q5.2 (by omega) q8 b4 ⟨b5.1, b5.2.1, b5.2.2.1⟩, (f69 2 4 (by omega) (by omega) (by omega)).trans q2.2.2.2.1, (f69 2 5 (by omega) (by omega) (by omega)).trans q2.2.2.2.2⟩
          refine J.aload_n 0 dX3_readChain_72 rfl rfl ?_
          refine I.getR dX3_readChain_73 jcls fX3_21 rfl (by decide) rfl rfl ?_
          refine I.callV0w (d' := d - 1) (mi' := mX4_step) dX3_readChain_76 lX3_75 eX4_step rfl rfl (c_X4_step (d := d - 1) hl (by omega) p0 c69.1.1 ⟨c69.1.2.2.2.2, by omega, by omega⟩) (show d - 1 + 1 ≤ d from by omega) (Nat.le_of_ble_eq_true rfl) ?_
          rintro s76 ⟨⟨k76, a76, n76⟩, f76⟩
          refine I.iinc dX3_readChain_79 rfl rfl ?_
          refine J.goto 19 dX3_readChain_82 (by decide) ?_
          have lo : ∀ j, j < 22 → gAdd h r c t (pTi T n p) j = h j := fun j hj => gAdd_o (by omega) (by unfold gTp; omega)
          rw [e9]
          exact J.fgt (by exact ⟨Or.inr rfl, Or.inr rfl, Or.inl rfl, trivial⟩) (ih (by omega) (by omega) (c69.next p0 ⟨k76, a76, n76⟩ f76) (SN.congr n69 fun i => f76 20 i (by omega)) ⟨by rw [lo 0 (by omega)]; exact q4.1, q4.2⟩ ⟨by rw [lo _ (by omega)]; exact q5.1, q5.2⟩ (fun a j x => (f76 a j (by omega)).trans ((f69 a j (by omega) (by omega) (by omega)).trans (q6 a j x))) (fun _ => by rw [f76 2 3 (by omega), o69, show t + 1 - 1 = t by omega, gAdd_t ⟨q4.2, by omega⟩ ⟨q5.2, by omega⟩ q1]; exact b5.2.2.2.2.symm) gAdd_l.symm)
        · skip
          have e9 : pTs T n r c (k + 1) t p h = (pTE T n h r c t p, p, h) := by unfold pTs; rw [if_pos h33, if_pos h43]
          refine J.aload_n 0 dX3_readChain_46 rfl rfl ?_
          refine J.iload_n 2 dX3_readChain_47 rfl rfl ?_
          refine I.callV1q (d' := d - 1) (mi' := mX3_fail) dX3_readChain_48 lX3_55 eX3_fail rfl rfl (c_X3_fail (d := d - 1) hl (by omega) ) (show d - 1 + 1 ≤ d from by omega) (Nat.le_of_ble_eq_true rfl) ?_
          rintro _ _ ⟨rfl, rfl⟩
          exact I.zretQ dX3_readChain_51 rfl (by first | exact Or.inl rfl | exact Or.inr rfl | exact bI_01 _ | omega) (CR.bad q6 q2.1 e9 h43)
set_option maxHeartbeats 1000000 in
theorem c_X3_readChain {Γ : jE} (hl : Γ.1.stackTraces = false) {s : Nat → Int → Int} {ε : jEps} {d : Nat} {T : Int → Int} {n q r c : Int} {g : Int → Int} (hd : 4 ≤ d) (p0 : PTx T n) (p1 : CP T n s g q) (p2 : SN s g r) (p3 : g 0 = r + 1 ∧ 0 ≤ r) (p4 : g (18 + r) = c + 1 ∧ 0 ≤ c) (p5 : g (22 + 3 * r + c) = 0) : Con Γ (d, 0, 0) mX3_readChain [.ref 2] (jmem s ε) (RQ (fun w s' => CR T n s s' w (pC2 T n r c q g) (okC T n s' r (pC2 T n r c q g))) ε) X0 := by
  refine Con.ofJ (by decide +kernel) (by simp [Value.category]) (Nat.le_of_ble_eq_true rfl) ?_ hl
  have w := p1.1.w p0
  refine J.aload_n 0 dX3_readChain_0 rfl rfl ?_
  refine I.getR dX3_readChain_1 jcls fX3_21 rfl (by decide) rfl rfl ?_
  refine I.gI 2 rfl dX3_readChain_4 jcls fX3_66 rfl (by decide) rfl ?_
  refine I.sx p1.1.2.2.1 ?_
  refine I.iconst dX3_readChain_7 ?_
  refine I.icmp_eq 17 dX3_readChain_8 (by decide) (by omega) (by omega) (fun h8 => ?_) (fun h8 => ?_)
  · skip
    have e9 : pC2 T n r c q g = pTs T n r c 9 0 q g := by unfold pC2; rw [if_pos h8]
    rw [e9]
    refine I.iconst dX3_readChain_17 ?_
    refine J.istore_n 1 dX3_readChain_18 rfl (by decide) rfl ?_
    exact J.fgt (by exact ⟨Or.inr rfl, Or.inr rfl, Or.inl rfl, trivial⟩) (k_X3_readChain_19 hl (by omega) p0 p1 p2 p3 p4 p5 (9) (by omega) (by omega) p1 p2 p3 p4 (fun q j h => rfl) (fun h => absurd h (by omega)) p5.symm)
  · skip
    have e9 : pC2 T n r c q g = (1, q, g) := by unfold pC2; rw [if_neg h8]
    refine J.aload_n 0 dX3_readChain_11 rfl rfl ?_
    refine I.iconst dX3_readChain_12 ?_
    refine I.callV1q (d' := d - 1) (mi' := mX3_fail) dX3_readChain_13 lX3_55 eX3_fail rfl rfl (c_X3_fail (d := d - 1) hl (by omega) ) (show d - 1 + 1 ≤ d from by omega) (Nat.le_of_ble_eq_true rfl) ?_
    rintro _ _ ⟨rfl, rfl⟩
    exact I.zretQ dX3_readChain_16 rfl (by first | exact Or.inl rfl | exact Or.inr rfl | exact bI_01 _ | omega) (CR.bad (fun q j h => rfl) p1.1 e9 (by decide))
/-- behind a round: its semicolon was stepped over -/
def okR (T : Int → Int) (n : Int) (s : Nat → Int → Int) (z : Int × Int × (Int → Int)) : Prop := CP T n s z.2.2 (pN T n z.2.1)
set_option maxHeartbeats 1000000 in
theorem k_X3_readRound_36 {Γ : jE} (hl : Γ.1.stackTraces = false) {s : Nat → Int → Int} {ε : jEps} {d : Nat} {T : Int → Int} {n q r : Int} {g : Int → Int} (hd : 5 ≤ d) (p0 : PTx T n) (p1 : CP T n s g q) (p2 : g 0 = r ∧ r < 4) : ∀ (k : Nat) {z : Nat → Int → Int} {i p : Int} {h : Int → Int} (q0 : ((k : Nat) : Int) = 3 - i) (q1 : 0 ≤ i) (q2 : CP T n z h p) (q3 : SN z h r) (q4 : h 0 = r + 1 ∧ 0 ≤ r) (q5 : h (18 + r) = i) (q6 : FrP s z), J Γ (d, 0, 0) mX3_readRound 36 [some (.ref 2), some (.int (iI (i)))] [] (jmem z ε) (RQ (fun w s' => CR T n s s' w (pCs T n r k p h) (okR T n s' (pCs T n r k p h))) ε) X0 := by
  have w := p1.1.w p0
  have a0 := p1.2.2.1.1
  have z0 := (p1.2.2.1.2.1 r (by omega) p2.2).2.2 (by omega)
  intro k
  induction k with
  | zero =>
    intro z i p h q0 q1 q2 q3 q4 q5 q6
    have a0 := q2.2.2.1.1
    have a2 := q2.2.2.1.2.1 r q4.2 (by omega)
    have w := q2.1.w p0
    have er : h 0 - 1 = r := by omega
    refine J.iload_n 1 dX3_readRound_36 rfl rfl ?_
    refine I.iconst dX3_readRound_37 ?_
    refine I.icmp_ge 110 dX3_readRound_38 (by decide) (by omega) (by omega) (fun h38 => ?_) (fun h38 => ?_)
    · skip
      refine J.aload_n 0 dX3_readRound_110 rfl rfl ?_
      refine I.iconst dX3_readRound_111 ?_
      refine I.callV1q (d' := d - 1) (mi' := mX3_fail) dX3_readRound_112 lX3_55 eX3_fail rfl rfl (c_X3_fail (d := d - 1) hl (by omega) ) (show d - 1 + 1 ≤ d from by omega) (Nat.le_of_ble_eq_true rfl) ?_
      rintro _ _ ⟨rfl, rfl⟩
      exact I.zretQ dX3_readRound_115 rfl (by first | exact Or.inl rfl | exact Or.inr rfl | exact bI_01 _ | omega) (CR.bad q6 q2.1 rfl (by decide))
    · exact absurd h38 (by omega)
  | succ k ih =>
    intro z i p h q0 q1 q2 q3 q4 q5 q6
    have a0 := q2.2.2.1.1
    have a2 := q2.2.2.1.2.1 r q4.2 (by omega)
    have w := q2.1.w p0
    have er : h 0 - 1 = r := by omega
    refine J.iload_n 1 dX3_readRound_36 rfl rfl ?_
    refine I.iconst dX3_readRound_37 ?_
    refine I.icmp_ge 110 dX3_readRound_38 (by decide) (by omega) (by omega) (fun h38 => ?_) (fun h38 => ?_)
    · exact absurd h38 (by omega)
    · skip
      refine J.aload_n 0 dX3_readRound_41 rfl rfl ?_
      refine I.getR dX3_readRound_42 jcls fX3_21 rfl (by decide) rfl rfl ?_
      refine I.callV0w (d' := d - 1) (mi' := mX4_step) dX3_readRound_45 lX3_75 eX4_step rfl rfl (c_X4_step (d := d - 1) hl (by omega) p0 q2.1.1 ⟨q2.1.2.2.2.2, by omega, by omega⟩) (show d - 1 + 1 ≤ d from by omega) (Nat.le_of_ble_eq_true rfl) ?_
      rintro s45 ⟨⟨k45, a45, n45⟩, f45⟩
      have c45 := q2.next p0 ⟨k45, a45, n45⟩ f45
      refine J.aload_n 0 dX3_readRound_48 rfl rfl ?_
      refine I.getR dX3_readRound_49 jcls fX3_12 rfl (by decide) rfl rfl ?_
      refine I.getR dX3_readRound_52 jcls fX3_36 rfl (by decide) rfl rfl ?_
      refine I.callV0w (d' := d - 1) (mi' := mX1_openChain) dX3_readRound_55 lX3_78 eX1_openChain rfl rfl (c_X1_openChain (d := d - 1) hl (by omega) jy4 c45.2.1 q2.2.2.1 (by omega) (by rw [er]; omega)) (show d - 1 + 1 ≤ d from by omega) (Nat.le_of_ble_eq_true rfl) ?_
      rintro s55 y55
      rw [er] at y55
      obtain ⟨y55, f55⟩ := y55
      have lo : ∀ j, j ≠ 18 + r → gOCh h r j = h j := fun j hj => upr_ne hj
      have hi : gOCh h r (18 + r) = i + 1 := (upr_eqq rfl).trans (by omega)
      have a3 := (q2.2.2.1.2.2.1 r i q4.2 (by omega) q1 (by omega)).2.2 (by omega)
      have c55 : CP T n s55 (gOCh h r) (pN T n p) := ⟨c45.1.keep fun a j x => f55 a j (by omega), y55, q2.2.2.1.och q4.2 (by omega) (by omega), (f55 2 4 (by omega)).trans c45.2.2.2.1, (f55 2 5 (by omega)).trans c45.2.2.2.2⟩
      have n55 : SN s55 (gOCh h r) r := fun a b a0 a1 b0 b1 => ((f55 20 _ (by omega)).trans ((f45 20 _ (by omega)).trans (q3 a b a0 a1 b0 b1))).trans (bI_congr (q2.2.2.1.there_och q4.2 (by omega) (by omega)).symm)
      have f56 : FrP s s55 := fun a j x => (f55 a j (by omega)).trans ((f45 a j (by omega)).trans (q6 a j x))
      refine J.aload_n 0 dX3_readRound_58 rfl rfl ?_
      refine I.callV0q (d' := d - 1) (mi' := mX3_readChain) dX3_readRound_59 lX3_81 eX3_readChain rfl rfl (c_X3_readChain (d := d - 1) hl (r := r) (c := i) (by omega) p0 c55 n55 ⟨by rw [lo 0 (by omega)]; exact q4.1, q4.2⟩ ⟨hi, q1⟩ (by rw [lo _ (by omega)]; exact a3)) (show d - 1 + 1 ≤ d from by omega) (Nat.le_of_ble_eq_true rfl) ?_
      rintro w59 s59 o59
      have e8 : pC2 T n r i (pN T n p) (gOCh h r) = pCh T n r (pN T n p) h := by rw [pCh_2, q5]
      rw [e8] at o59
      have r59 := o59.rng
      refine I.if_ne 67 dX3_readRound_62 (by decide) (by omega) (fun h62 => ?_) (fun h62 => ?_)
      · skip
        obtain ⟨z59, c59, n59⟩ := o59.went h62
        have iv := pCh_inv (r := r) (by omega) q2.2.2.1 q4.2 (by omega) (by omega) z59
        have w9 := c59.1.w p0
        refine J.aload_n 0 dX3_readRound_67 rfl rfl ?_
        refine I.getR dX3_readRound_68 jcls fX3_21 rfl (by decide) rfl rfl ?_
        refine I.gI 2 rfl dX3_readRound_71 jcls fX3_66 rfl (by decide) rfl ?_
        refine I.sx c59.1.2.2.1 ?_
        refine I.iconst dX3_readRound_74 ?_
        refine I.icmp_ne 87 dX3_readRound_75 (by decide) (by omega) (by omega) (fun h75 => ?_) (fun h75 => ?_)
        · skip
          refine J.aload_n 0 dX3_readRound_87 rfl rfl ?_
          refine I.getR dX3_readRound_88 jcls fX3_21 rfl (by decide) rfl rfl ?_
          refine I.gI 2 rfl dX3_readRound_91 jcls fX3_66 rfl (by decide) rfl ?_
          refine I.sx c59.1.2.2.1 ?_
          refine I.iconst dX3_readRound_94 ?_
          refine I.icmp_eq 104 dX3_readRound_95 (by decide) (by omega) (by omega) (fun h95 => ?_) (fun h95 => ?_)
          · skip
            have e9 : pCs T n r (k + 1) p h = pCs T n r k (pCh T n r (pN T n p) h).2.1 (pCh T n r (pN T n p) h).2.2 := (show (if (pCh T n r (pN T n p) h).1 ≠ 0 then _ else _) = _ from by rw [if_neg (not_not_intro z59), if_neg h75, if_pos h95])
            refine I.iinc dX3_readRound_104 rfl rfl ?_
            refine J.goto 36 dX3_readRound_107 (by decide) ?_
            rw [e9]
            exact J.fgt (by exact ⟨Or.inr rfl, Or.inr rfl, trivial⟩) (ih (by omega) (by omega) c59 n59 ⟨by rw [iv.2.1]; exact q4.1, q4.2⟩ (by rw [iv.2.2.1]; omega) (f56.trans o59.1))
          · skip
            have e9 : pCs T n r (k + 1) p h = (1, (pCh T n r (pN T n p) h).2.1, (pCh T n r (pN T n p) h).2.2) := by unfold pCs; rw [if_neg (not_not_intro z59), if_neg h75, if_neg h95]
            refine J.aload_n 0 dX3_readRound_98 rfl rfl ?_
            refine I.iconst dX3_readRound_99 ?_
            refine I.callV1q (d' := d - 1) (mi' := mX3_fail) dX3_readRound_100 lX3_55 eX3_fail rfl rfl (c_X3_fail (d := d - 1) hl (by omega) ) (show d - 1 + 1 ≤ d from by omega) (Nat.le_of_ble_eq_true rfl) ?_
            rintro _ _ ⟨rfl, rfl⟩
            exact I.zretQ dX3_readRound_103 rfl (by first | exact Or.inl rfl | exact Or.inr rfl | exact bI_01 _ | omega) (CR.bad (f56.trans o59.1) c59.1 e9 (by decide))
        · skip
          have e9 : pCs T n r (k + 1) p h = pCh T n r (pN T n p) h := by unfold pCs; rw [if_neg (not_not_intro z59), if_pos h75]
          refine J.aload_n 0 dX3_readRound_78 rfl rfl ?_
          refine I.getR dX3_readRound_79 jcls fX3_21 rfl (by decide) rfl rfl ?_
          refine I.callV0w (d' := d - 1) (mi' := mX4_step) dX3_readRound_82 lX3_75 eX4_step rfl rfl (c_X4_step (d := d - 1) hl (by omega) p0 c59.1.1 ⟨c59.1.2.2.2.2, by omega, by omega⟩) (show d - 1 + 1 ≤ d from by omega) (Nat.le_of_ble_eq_true rfl) ?_
          rintro s82 ⟨⟨k82, a82, n82⟩, f82⟩
          refine I.iconst dX3_readRound_85 ?_
          exact I.zretQ dX3_readRound_86 rfl (by first | exact Or.inl rfl | exact Or.inr rfl | exact bI_01 _ | omega) (CR.good (fun a j x => (f82 a j (by omega)).trans (o59.1 a j x |>.trans (f56 a j x))) (by rw [e9]; exact z59) (by rw [e9]; exact c59.next p0 ⟨k82, a82, n82⟩ f82))
      · skip
        have e9 : pCs T n r (k + 1) p h = pCh T n r (pN T n p) h := by unfold pCs; exact if_pos (by rcases o59.2 with x | x; omega; exact x.1)
        refine I.iconst dX3_readRound_65 ?_
        exact I.zretQ dX3_readRound_66 rfl (by first | exact Or.inl rfl | exact Or.inr rfl | exact bI_01 _ | omega) (CR.fails f56 o59 h62 e9)
set_option maxHeartbeats 1000000 in
theorem k_X3_readRound_12 {Γ : jE} (hl : Γ.1.stackTraces = false) {s : Nat → Int → Int} {ε : jEps} {d : Nat} {T : Int → Int} {n q r : Int} {g : Int → Int} (hd : 5 ≤ d) (p0 : PTx T n) (p1 : CP T n s g q) (p2 : g 0 = r ∧ r < 4) {mc ms : Nat} {P : Option Value → jM → Prop} {X : String → jM → Prop} : ∀ (k : Nat) {z : Nat → Int → Int} {i : Int} (q0 : ((k : Nat) : Int) = 49 - i) (q1 : 0 ≤ i) (q2 : ∀ j, 0 ≤ j → j < i → z 20 j = 0) (q3 : ∀ a j, a ≠ 20 → (a < 4 ∨ 10 ≤ a) → z a j = s a j) (q4 : RY z 4 (gORd g)) (kx : ∀ s', ((∀ j, 0 ≤ j → j < 49 → s' 20 j = 0) ∧ (∀ a j, a ≠ 20 → (a < 4 ∨ 10 ≤ a) → s' a j = s a j) ∧ RY s' 4 (gORd g)) → J Γ (d, mc, ms) mX3_readRound 34 [some (.ref 2), none] [] (jmem s' ε) P X), J Γ (d, mc, ms) mX3_readRound 12 [some (.ref 2), some (.int (iI (i)))] [] (jmem z ε) P X := by
  have w := p1.1.w p0
  have a0 := p1.2.2.1.1
  have z0 := (p1.2.2.1.2.1 r (by omega) p2.2).2.2 (by omega)
  intro k
  induction k with
  | zero =>
    intro z i q0 q1 q2 q3 q4 kx
    refine J.iload_n 1 dX3_readRound_12 rfl rfl ?_
    refine J.aload_n 0 dX3_readRound_13 rfl rfl ?_
    refine I.getR dX3_readRound_14 jcls fX3_25 rfl (by decide) rfl rfl ?_
    refine I.alen dX3_readRound_17 rfl (by decide) ?_
    refine I.icmp_ge 34 dX3_readRound_18 (by decide) (by omega) (by omega) (fun h18 => ?_) (fun h18 => ?_)
    · skip
      exact J.fgt (by exact ⟨Or.inr rfl, Or.inl rfl, trivial⟩) (kx _ ⟨fun j a b => q2 j a (by omega), q3, q4⟩)
    · exact absurd h18 (by omega)
  | succ k ih =>
    intro z i q0 q1 q2 q3 q4 kx
    refine J.iload_n 1 dX3_readRound_12 rfl rfl ?_
    refine J.aload_n 0 dX3_readRound_13 rfl rfl ?_
    refine I.getR dX3_readRound_14 jcls fX3_25 rfl (by decide) rfl rfl ?_
    refine I.alen dX3_readRound_17 rfl (by decide) ?_
    refine I.icmp_ge 34 dX3_readRound_18 (by decide) (by omega) (by omega) (fun h18 => ?_) (fun h18 => ?_)
    · exact absurd h18 (by omega)
    · skip
      refine J.aload_n 0 dX3_readRound_21 rfl rfl ?_
      refine I.getR dX3_readRound_22 jcls fX3_25 rfl (by decide) rfl rfl ?_
      refine J.iload_n 1 dX3_readRound_25 rfl rfl ?_
      refine I.iconst dX3_readRound_26 ?_
      refine I.iast dX3_readRound_27 rfl (by omega) (by omega) ?_
      refine I.iinc dX3_readRound_28 rfl rfl ?_
      refine J.goto 12 dX3_readRound_31 (by decide) ?_
      exact J.fgt (by exact ⟨Or.inr rfl, Or.inr rfl, trivial⟩) (ih (by omega) (by omega) (fun j a b => by by_cases e : j = i; (rw [e]; exact up_eq _ _ _ _); rw [up_ne (by omega)]; exact q2 j a (by omega)) (fun a j x y => (up_ne (by omega)).trans (q3 a j x y)) (q4.congr fun a j x y => up_ne (by omega)) kx)
set_option maxHeartbeats 1000000 in
theorem c_X3_readRound {Γ : jE} (hl : Γ.1.stackTraces = false) {s : Nat → Int → Int} {ε : jEps} {d : Nat} {T : Int → Int} {n q r : Int} {g : Int → Int} (hd : 5 ≤ d) (p0 : PTx T n) (p1 : CP T n s g q) (p2 : g 0 = r ∧ r < 4) : Con Γ (d, 0, 0) mX3_readRound [.ref 2] (jmem s ε) (RQ (fun w s' => CR T n s s' w (pRd T n q g) (okR T n s' (pRd T n q g))) ε) X0 := by
  refine Con.ofJ (by decide +kernel) (by simp [Value.category]) (Nat.le_of_ble_eq_true rfl) ?_ hl
  have w := p1.1.w p0
  have a0 := p1.2.2.1.1
  have z0 := (p1.2.2.1.2.1 r (by omega) p2.2).2.2 (by omega)
  refine J.aload_n 0 dX3_readRound_0 rfl rfl ?_
  refine I.getR dX3_readRound_1 jcls fX3_12 rfl (by decide) rfl rfl ?_
  refine I.getR dX3_readRound_4 jcls fX3_36 rfl (by decide) rfl rfl ?_
  refine I.callV0w (d' := d - 1) (mi' := mX1_openRound) dX3_readRound_7 lX3_72 eX1_openRound rfl rfl (c_X1_openRound (d := d - 1) hl (by omega) jy4 p1.2.1 p1.2.2.1 (by omega)) (show d - 1 + 1 ≤ d from by omega) (Nat.le_of_ble_eq_true rfl) ?_
  rintro s7 ⟨r7, f7⟩
  refine I.iconst dX3_readRound_10 ?_
  refine J.istore_n 1 dX3_readRound_11 rfl (by decide) rfl ?_
  refine J.fgt (by exact ⟨Or.inr rfl, Or.inr rfl, trivial⟩) (k_X3_readRound_12 hl (by omega) p0 p1 p2 (49) (by omega) (by omega) (fun j a b => by omega) (fun a j x y => f7 a j (by omega)) r7 ?_)
  rintro s12 ⟨z12, f12, y12⟩
  have c12 : CP T n s12 (gORd g) q := ⟨p1.1.keep fun a j x => f12 a j (by omega) (by omega), y12, p1.2.2.1.ord (by omega), (f12 2 4 (by omega) (by omega)).trans p1.2.2.2.1, (f12 2 5 (by omega) (by omega)).trans p1.2.2.2.2⟩
  have n12 : SN s12 (gORd g) r := fun a b a0 a1 b0 b1 => (z12 _ (by omega) (by omega)).trans (bI_f (by
    rintro ⟨c, k, c0, c1, _⟩
    have e : gORd g (18 + r) = 0 := by unfold gORd; rw [upr_ne (by omega)]; exact z0
    rw [e] at c1
    omega)).symm
  have e0 : pRd T n q g = pCs T n r 3 q (gORd g) := by unfold pRd; rw [p2.1]
  rw [e0]
  refine I.iconst dX3_readRound_34 ?_
  refine J.istore_n 1 dX3_readRound_35 rfl (by decide) rfl ?_
  exact J.fgt (by exact ⟨Or.inr rfl, Or.inr rfl, trivial⟩) (k_X3_readRound_36 hl (by omega) p0 p1 p2 (3) (by omega) (by omega) c12 n12 ⟨by show g 0 + 1 = r + 1; omega, by omega⟩ (by show gORd g (18 + r) = 0; unfold gORd; rw [upr_ne (by omega)]; exact z0) (fun a j x => f12 a j (by omega) (by omega)))
noncomputable def pLay (T : Int → Int) (n : Int) : Int × Int × (Int → Int) := pIf (pW T n 0 0) (pRs T n 4 0 fun _ => 0) (1, 0, fun _ => 0)
set_option maxHeartbeats 1000000 in
theorem k_X3_readRounds_49 {Γ : jE} (hl : Γ.1.stackTraces = false) {s : Nat → Int → Int} {ε : jEps} {d : Nat} {n : Int} {T : Int → Int} (hd : 6 ≤ d) (p0 : PTx T n) (p1 : ∀ i, 0 ≤ i → i < n → s 1 i = T i) : ∀ (k : Nat) {z : Nat → Int → Int} {i p : Int} {h : Int → Int} (q0 : ((k : Nat) : Int) = 4 - i) (q1 : 0 ≤ i) (q2 : CP T n z h p) (q3 : FrP s z) (q4 : h 0 = i) (q5 : FF h i), J Γ (d, 0, 0) mX3_readRounds 49 [some (.ref 2), some (.ref 1), some (.int (iI n)), some (.int (iI (i)))] [] (jmem z ε) (RQ (fun w s' => CR T n s s' w (pRs T n k p h) (CP T n s' (pRs T n k p h).2.2 (pRs T n k p h).2.1)) ε) X0 := by
  have n0 := p0.1
  intro k
  induction k with
  | zero =>
    intro z i p h q0 q1 q2 q3 q4 q5
    have w := q2.1.w p0
    refine J.iload_n 3 dX3_readRounds_49 rfl rfl ?_
    refine I.iconst dX3_readRounds_50 ?_
    refine I.icmp_gt 92 dX3_readRounds_51 (by decide) (by omega) (by omega) (fun h51 => ?_) (fun h51 => ?_)
    · exact absurd h51 (by omega)
    · skip
      refine J.aload_n 0 dX3_readRounds_54 rfl rfl ?_
      refine I.getR dX3_readRounds_55 jcls fX3_21 rfl (by decide) rfl rfl ?_
      refine J.ldcS 0 dX3_readRounds_58 (t := "round") (by decide) rfl ?_
      refine I.callV1i (d' := d - 1) (mi' := mX4_isWord) dX3_readRounds_60 lX3_51 eX4_isWord rfl rfl (c_X4_isWord (d := d - 1) hl (by omega) (by decide) p0 q2.1) (show d - 1 + 1 ≤ d from by omega) (Nat.le_of_ble_eq_true rfl) ?_
      refine I.if_eqB 92 dX3_readRounds_63 (by decide) (fun h63 => ?_) (fun h63 => ?_)
      · skip
        have e9 : pRs T n 0 p h = (0, p, h) := by unfold pRs; rw [pIf_f h63]
        refine I.iconst dX3_readRounds_92 ?_
        exact I.zretQ dX3_readRounds_93 rfl (by first | exact Or.inl rfl | exact Or.inr rfl | exact bI_01 _ | omega) (CR.good q3 (by rw [e9]) (by rw [e9]; exact q2))
      · skip
        have e9 : pRs T n 0 p h = (5, p, h) := by unfold pRs; rw [pIf_t h63]
        refine J.iload_n 3 dX3_readRounds_66 rfl rfl ?_
        refine I.iconst dX3_readRounds_67 ?_
        refine I.icmp_ne 77 dX3_readRounds_68 (by decide) (by omega) (by omega) (fun h68 => ?_) (fun h68 => ?_)
        · exact absurd h68 (by omega)
        · skip
          refine J.aload_n 0 dX3_readRounds_71 rfl rfl ?_
          refine I.iconst dX3_readRounds_72 ?_
          refine I.callV1q (d' := d - 1) (mi' := mX3_fail) dX3_readRounds_73 lX3_55 eX3_fail rfl rfl (c_X3_fail (d := d - 1) hl (by omega) ) (show d - 1 + 1 ≤ d from by omega) (Nat.le_of_ble_eq_true rfl) ?_
          rintro _ _ ⟨rfl, rfl⟩
          exact I.zretQ dX3_readRounds_76 rfl (by first | exact Or.inl rfl | exact Or.inr rfl | exact bI_01 _ | omega) (CR.bad q3 q2.1 e9 (by decide))
  | succ k ih =>
    intro z i p h q0 q1 q2 q3 q4 q5
    have w := q2.1.w p0
    refine J.iload_n 3 dX3_readRounds_49 rfl rfl ?_
    refine I.iconst dX3_readRounds_50 ?_
    refine I.icmp_gt 92 dX3_readRounds_51 (by decide) (by omega) (by omega) (fun h51 => ?_) (fun h51 => ?_)
    · exact absurd h51 (by omega)
    · skip
      refine J.aload_n 0 dX3_readRounds_54 rfl rfl ?_
      refine I.getR dX3_readRounds_55 jcls fX3_21 rfl (by decide) rfl rfl ?_
      refine J.ldcS 0 dX3_readRounds_58 (t := "round") (by decide) rfl ?_
      refine I.callV1i (d' := d - 1) (mi' := mX4_isWord) dX3_readRounds_60 lX3_51 eX4_isWord rfl rfl (c_X4_isWord (d := d - 1) hl (by omega) (by decide) p0 q2.1) (show d - 1 + 1 ≤ d from by omega) (Nat.le_of_ble_eq_true rfl) ?_
      refine I.if_eqB 92 dX3_readRounds_63 (by decide) (fun h63 => ?_) (fun h63 => ?_)
      · skip
        have e9 : pRs T n (k + 1) p h = (0, p, h) := by unfold pRs; exact pIf_f h63
        refine I.iconst dX3_readRounds_92 ?_
        exact I.zretQ dX3_readRounds_93 rfl (by first | exact Or.inl rfl | exact Or.inr rfl | exact bI_01 _ | omega) (CR.good q3 (by rw [e9]) (by rw [e9]; exact q2))
      · skip
        refine J.iload_n 3 dX3_readRounds_66 rfl rfl ?_
        refine I.iconst dX3_readRounds_67 ?_
        refine I.icmp_ne 77 dX3_readRounds_68 (by decide) (by omega) (by omega) (fun h68 => ?_) (fun h68 => ?_)
        · skip
          refine J.aload_n 0 dX3_readRounds_77 rfl rfl ?_
          refine I.callV0q (d' := d - 1) (mi' := mX3_readRound) dX3_readRounds_78 lX3_59 eX3_readRound rfl rfl (c_X3_readRound (d := d - 1) hl (r := i) (by omega) p0 q2 ⟨q4, by omega⟩) (show d - 1 + 1 ≤ d from by omega) (Nat.le_of_ble_eq_true rfl) ?_
          rintro w78 s78 o78
          refine I.if_ne 86 dX3_readRounds_81 (by decide) (by have := o78.rng; omega) (fun h81 => ?_) (fun h81 => ?_)
          · skip
            obtain ⟨z78, c78⟩ := o78.went h81
            have iv := pRd_inv (T := T) (n := n) (by omega) q2.2.2.1 (by omega) (by rw [q4]; exact q5) z78
            have e9 : pRs T n (k + 1) p h = pRs T n k (pN T n (pRd T n p h).2.1) (pRd T n p h).2.2 := (show pIf _ _ _ = _ from (pIf_t h63).trans (if_neg (not_not_intro z78)))
            refine I.iinc dX3_readRounds_86 rfl rfl ?_
            refine J.goto 49 dX3_readRounds_89 (by decide) ?_
            rw [e9]
            exact J.fgt (by exact ⟨Or.inr rfl, Or.inr rfl, Or.inr rfl, Or.inr rfl, trivial⟩) (ih (by omega) (by omega) c78 (q3.trans o78.1) (by rw [iv.2.1]; omega) (by rw [q4] at iv; exact iv.2.2.1))
          · skip
            have e9 : pRs T n (k + 1) p h = pRd T n p h := (show pIf _ _ _ = _ from (pIf_t h63).trans (if_pos (by rcases o78.2 with x | x; omega; exact x.1)))
            refine I.iconst dX3_readRounds_84 ?_
            exact I.zretQ dX3_readRounds_85 rfl (by first | exact Or.inl rfl | exact Or.inr rfl | exact bI_01 _ | omega) (CR.fails q3 o78 h81 e9)
        · exact absurd h68 (by omega)
set_option maxHeartbeats 1000000 in
theorem c_X3_readRounds {Γ : jE} (hl : Γ.1.stackTraces = false) {s : Nat → Int → Int} {ε : jEps} {d : Nat} {n : Int} {T : Int → Int} (hd : 6 ≤ d) (p0 : PTx T n) (p1 : ∀ i, 0 ≤ i → i < n → s 1 i = T i) : Con Γ (d, 0, 0) mX3_readRounds [.ref 2, .ref 1, .int (iI n)] (jmem s ε) (RQ (fun w s' => CR T n s s' w (pLay T n) (CP T n s' (pLay T n).2.2 (pLay T n).2.1)) ε) X0 := by
  refine Con.ofJ (by decide +kernel) (by simp [Value.category]) (Nat.le_of_ble_eq_true rfl) ?_ hl
  have n0 := p0.1
  refine J.aload_n 0 dX3_readRounds_0 rfl rfl ?_
  refine I.iconst dX3_readRounds_1 ?_
  refine I.pI 4 rfl dX3_readRounds_2 jcls fX3_29 rfl (by decide) rfl ?_
  refine J.aload_n 0 dX3_readRounds_5 rfl rfl ?_
  refine I.iconst dX3_readRounds_6 ?_
  refine I.pI 5 rfl dX3_readRounds_7 jcls fX3_33 rfl (by decide) rfl ?_
  refine J.aload_n 0 dX3_readRounds_10 rfl rfl ?_
  refine I.getR dX3_readRounds_11 jcls fX3_12 rfl (by decide) rfl rfl ?_
  refine I.getR dX3_readRounds_14 jcls fX3_36 rfl (by decide) rfl rfl ?_
  refine I.callV0v (d' := d - 1) (mi' := mX1_clear) dX3_readRounds_17 lX3_40 eX1_clear rfl rfl (c_X1_clear (d := d - 1) hl (by omega) jy4) (show d - 1 + 1 ≤ d from by omega) (Nat.le_of_ble_eq_true rfl) ?_
  refine J.aload_n 0 dX3_readRounds_20 rfl rfl ?_
  refine I.getR dX3_readRounds_21 jcls fX3_21 rfl (by decide) rfl rfl ?_
  refine J.aload_n 1 dX3_readRounds_24 rfl rfl ?_
  refine J.iload_n 2 dX3_readRounds_25 rfl rfl ?_
  refine I.callV2w (d' := d - 1) (mi' := mX4_open) dX3_readRounds_26 lX3_45 eX4_open rfl rfl (c_X4_open (d := d - 1) hl (by omega) p0 (fun i a b => (up_ne (by omega)).trans ((up_ne (by omega)).trans ((up_ne (by omega)).trans (p1 i a b))))) (show d - 1 + 1 ≤ d from by omega) (Nat.le_of_ble_eq_true rfl) ?_
  rintro s26 ⟨c26, f26⟩
  have c26 : CP T n s26 (fun _ => 0) 0 := ⟨c26, ⟨(f26 4 0 (by decide) (by decide)).trans (up_eq _ _ _ _), fun r a (b : r < 0) => by omega, fun r c a (b : r < 0) => by omega, fun r c t a (b : r < 0) => by omega, fun r c t a (b : r < 0) => by omega, fun r c t a (b : r < 0) => by omega⟩, FP.zero, (f26 2 4 (by decide) (by decide)).trans ((up_ne (by omega)).trans ((up_ne (by omega)).trans (up_eq _ _ _ _))), (f26 2 5 (by decide) (by decide)).trans ((up_ne (by omega)).trans (up_eq _ _ _ _))⟩
  have f27 : FrP s s26 := fun a j x => (f26 a j (by omega) (by omega)).trans ((up_ne (by omega)).trans ((up_ne (by omega)).trans (up_ne (by omega))))
  have w26 := c26.1.w p0
  refine J.aload_n 0 dX3_readRounds_29 rfl rfl ?_
  refine I.getR dX3_readRounds_30 jcls fX3_21 rfl (by decide) rfl rfl ?_
  refine J.ldcS 0 dX3_readRounds_33 (t := "round") (by decide) rfl ?_
  refine I.callV1i (d' := d - 1) (mi' := mX4_isWord) dX3_readRounds_35 lX3_51 eX4_isWord rfl rfl (c_X4_isWord (d := d - 1) hl (by omega) (by decide) p0 c26.1) (show d - 1 + 1 ≤ d from by omega) (Nat.le_of_ble_eq_true rfl) ?_
  refine I.if_neB 47 dX3_readRounds_38 (by decide) (fun h38 => ?_) (fun h38 => ?_)
  · skip
    have e8 : pLay T n = pRs T n 4 0 fun _ => 0 := by unfold pLay; exact pIf_t h38
    rw [e8]
    refine I.iconst dX3_readRounds_47 ?_
    refine J.istore_n 3 dX3_readRounds_48 rfl (by decide) rfl ?_
    exact J.fgt (by exact ⟨Or.inr rfl, Or.inr rfl, Or.inr rfl, Or.inr rfl, trivial⟩) (k_X3_readRounds_49 hl (by omega) p0 p1 (4) (by omega) (by omega) c26 f27 rfl (fun r a b => by omega))
  · skip
    have e8 : pLay T n = (1, 0, fun _ => 0) := by unfold pLay; exact pIf_f h38
    refine J.aload_n 0 dX3_readRounds_41 rfl rfl ?_
    refine I.iconst dX3_readRounds_42 ?_
    refine I.callV1q (d' := d - 1) (mi' := mX3_fail) dX3_readRounds_43 lX3_55 eX3_fail rfl rfl (c_X3_fail (d := d - 1) hl (by omega) ) (show d - 1 + 1 ≤ d from by omega) (Nat.le_of_ble_eq_true rfl) ?_
    rintro _ _ ⟨rfl, rfl⟩
    exact I.zretQ dX3_readRounds_46 rfl (by first | exact Or.inl rfl | exact Or.inr rfl | exact bI_01 _ | omega) (CR.bad f27 c26.1 e8 (by decide))
