section CRs
variable {T : Int → Int} {n : Int} {s z s' : Nat → Int → Int} {g : Int → Int} {q e w : Int} {r : Int × Int × (Int → Int)} {ok : Prop}
theorem FrP.trans (a : FrP s z) (b : FrP z s') : FrP s s' := fun q j h => (b q j h).trans (a q j h)
theorem CR.bad (f : FrP s z) (h : SC T n z q) (e1 : r = (e, q, g)) (ne : e ≠ 0) : CR T n s (up (up z 2 4 e) 2 5 (z 18 3)) 0 r ok := by
  subst e1
  exact ⟨fun a j x => (up_ne (by omega)).trans ((up_ne (by omega)).trans (f a j x)), Or.inr ⟨ne, rfl, (up_ne (by omega)).trans (up_eq _ _ _ _), (up_eq _ _ _ _).trans h.2.2.2.1⟩⟩
theorem CR.good (f : FrP s z) (e1 : r.1 = 0) (h : ok) : CR T n s z 1 r ok := ⟨f, Or.inl ⟨e1, rfl, h⟩⟩
/-- .. of a part, that failed -/
theorem CR.fails {t : Int × Int × (Int → Int)} {ok2 : Prop} (f : FrP s z) (h : CR T n z s' w r ok) (h0 : w = 0) (e1 : t = r) : CR T n s s' 0 t ok2 := by
  subst e1
  obtain ⟨f2, h | ⟨a, b, c⟩⟩ := h
  · omega
  · exact ⟨f.trans f2, Or.inr ⟨a, rfl, c⟩⟩
theorem CR.went (h : CR T n z s' w r ok) (h0 : w ≠ 0) : r.1 = 0 ∧ ok := by
  obtain ⟨f2, ⟨a, b, c⟩ | ⟨a, b, c⟩⟩ := h
  · exact ⟨a, c⟩
  · exact absurd b h0
theorem CR.mono {ok2 : Prop} (h : CR T n s s' w r ok) (k : ok → ok2) : CR T n s s' w r ok2 := ⟨h.1, h.2.imp (fun ⟨a, b, c⟩ => ⟨a, b, k c⟩) id⟩
theorem CR.rng (h : CR T n s s' w r ok) : 0 ≤ w ∧ w ≤ 1 := by
  obtain ⟨f2, ⟨a, b, c⟩ | ⟨a, b, c⟩⟩ := h <;> omega
end CRs
/-- behind a chain -/
def okC (T : Int → Int) (n : Int) (s : Nat → Int → Int) (r : Int) (z : Int × Int × (Int → Int)) : Prop := CP T n s z.2.2 z.2.1 ∧ SN s z.2.2 r
set_option maxHeartbeats 1000000 in
theorem k_X3_readChain_19 {Γ : jE} (hl : Γ.1.stackTraces = false) {s : Nat → Int → Int} {ε : jEps} {d : Nat} {T : Int → Int} {n q r c : Int} {g : Int → Int} (hd : 4 ≤ d) (p0 : PTx T n) (p1 : CP T n s g q) (p2 : SN s g r) (p3 : g 0 = r + 1 ∧ 0 ≤ r) (p4 : g (18 + r) = c + 1 ∧ 0 ≤ c) (p5 : g (22 + 3 * r + c) = 0) : ∀ (k : Nat) {z : Nat → Int → Int} {t p : Int} {h : Int → Int} (q0 : ((k : Nat) : Int) = 9 - t) (q1 : 0 ≤ t) (q2 : CP T n z h p) (q3 : SN z h r) (q4 : h 0 = r + 1 ∧ 0 ≤ r) (q5 : h (18 + r) = c + 1 ∧ 0 ≤ c) (q6 : FrP s z) (q7 : 0 < t → z 2 3 = h (gTp r c (t - 1)) % 10) (q8 : t = h (22 + 3 * r + c)), J Γ (d, 0, 0) mX3_readChain 19 [some (.ref 2), some (.int (iI (t))), none] [] (jmem z ε) (RQ (fun w s' => CR T n s s' w (pTs T n r c k t p h) (okC T n s' r (pTs T n r c k t p h))) ε) X0 := by
  have w := p1.1.w p0
  intro k
  induction k with
  | zero =>
    intro z t p h q0 q1 q2 q3 q4 q5 q6 q7 q8
    have a0 := q2.2.2.1.1
    have a2 := q2.2.2.1.2.1 r q4.2 (by omega)
    have a3 := q2.2.2.1.2.2.1 r c q4.2 (by omega) q5.2 (by omega)
    have w := q2.1.w p0
    refine J.iload_n 1 dX3_readChain_19 rfl rfl ?_
    refine I.bipush dX3_readChain_20 (by decide) ?_
    refine I.icmp_gt 85 dX3_readChain_22 (by decide) (by omega) (by omega) (fun h22 => ?_) (fun h22 => ?_)
    · skip
      omega
    · skip
      omega
  | succ k ih =>
    intro z t p h q0 q1 q2 q3 q4 q5 q6 q7 q8
    have a0 := q2.2.2.1.1
    have a2 := q2.2.2.1.2.1 r q4.2 (by omega)
    have a3 := q2.2.2.1.2.2.1 r c q4.2 (by omega) q5.2 (by omega)
    have w := q2.1.w p0
    refine J.iload_n 1 dX3_readChain_19 rfl rfl ?_
    refine I.bipush dX3_readChain_20 (by decide) ?_
    refine I.icmp_gt 85 dX3_readChain_22 (by decide) (by omega) (by omega) (fun h22 => ?_) (fun h22 => ?_)
    · exact absurd h22 (by omega)
    · skip
      refine J.aload_n 0 dX3_readChain_25 rfl rfl ?_
      refine I.getR dX3_readChain_26 jcls fX3_21 rfl (by decide) rfl rfl ?_
      refine I.gI 2 rfl dX3_readChain_29 jcls fX3_66 rfl (by decide) rfl ?_
      refine I.sx q2.1.2.2.1 ?_
      refine I.iconst dX3_readChain_32 ?_
      refine I.icmp_ne 85 dX3_readChain_33 (by decide) (by omega) (by omega) (fun h33 => ?_) (fun h33 => ?_)
      · skip
        have e9 : pTs T n r c (k + 1) t p h = (0, p, h) := by unfold pTs; rw [if_neg h33]
        refine I.iconst dX3_readChain_85 ?_
        exact I.zretQ dX3_readChain_86 rfl (by first | exact Or.inl rfl | exact Or.inr rfl | exact bI_01 _ | omega) (CR.good q6 (by rw [e9]) (by rw [e9]; exact ⟨q2, q3⟩))
      · skip
        refine J.aload_n 0 dX3_readChain_36 rfl rfl ?_
        refine J.iload_n 1 dX3_readChain_37 rfl rfl ?_
        refine I.callV1i (d' := d - 1) (mi' := mX3_tileFault) dX3_readChain_38 lX3_84 eX3_tileFault rfl rfl (c_X3_tileFault (d := d - 1) hl (by omega) p0 q2.1 q3 (by omega) q7 h33 q2.2.2.1 ⟨by omega, by omega, q8⟩) (show d - 1 + 1 ≤ d from by omega) (Nat.le_of_ble_eq_true rfl) ?_
        have te := @pTE_rng T n r c h t p
        refine J.istore_n 2 dX3_readChain_41 rfl (by decide) rfl ?_
        refine J.iload_n 2 dX3_readChain_42 rfl rfl ?_
        refine I.if_eq 52 dX3_readChain_43 (by decide) (by omega) (fun h43 => ?_) (fun h43 => ?_)
        · skip
          obtain ⟨b1, b2, b3, b4⟩ := pTE_0 h43
          have b5 := pTi_rng w.1.2.1 b1 b2 b3
          have b6 := pT1_rng (T := T) w.1.2.1 h33
          have b7 := pT2_rng b1
          have e9 : pTs T n r c (k + 1) t p h = pTs T n r c k (t + 1) (pN T n p) (gAdd h r c t (pTi T n p)) := by
            unfold pTs
            rw [if_pos h33, if_neg (not_not_intro h43)]
            cases k <;> rfl
          have er : h 0 - 1 = r := by omega
          refine J.aload_n 0 dX3_readChain_52 rfl rfl ?_
          refine J.aload_n 0 dX3_readChain_53 rfl rfl ?_
          refine I.getR dX3_readChain_54 jcls fX3_21 rfl (by decide) rfl rfl ?_
          refine I.iconst dX3_readChain_57 ?_
          refine I.callV1i (d' := d - 1) (mi' := mX4_digit) dX3_readChain_58 lX3_88 eX4_digit rfl rfl (c_X4_digit (d := d - 1) hl (by omega) p0 q2.1 (by omega)) (show d - 1 + 1 ≤ d from by omega) (Nat.le_of_ble_eq_true rfl) ?_
          refine I.sx (show _ = pT1 T n p by unfold pT1; rw [Int.add_zero]) ?_
          refine J.aload_n 0 dX3_readChain_61 rfl rfl ?_
          refine I.getR dX3_readChain_62 jcls fX3_21 rfl (by decide) rfl rfl ?_
          refine I.iconst dX3_readChain_65 ?_
          refine I.callV1i (d' := d - 1) (mi' := mX4_digit) dX3_readChain_66 lX3_88 eX4_digit rfl rfl (c_X4_digit (d := d - 1) hl (by omega) p0 q2.1 (by have := b1.2; omega)) (show d - 1 + 1 ≤ d from by omega) (Nat.le_of_ble_eq_true rfl) ?_
          refine I.sx (show _ = pT2 T n p from rfl) ?_
          refine I.callV2w (d' := d - 1) (mi' := mX3_takeTile) dX3_readChain_69 lX3_91 eX3_takeTile rfl rfl (c_X3_takeTile (d := d - 1) hl (c := c) (t := t) (by omega) q2.2.1 q2.2.2.1 (by omega) (by rw [er]; omega) (by rw [er]; omega) (by omega) (by omega) (by rw [er]; exact q3)) (show d - 1 + 1 ≤ d from by omega) (Nat.le_of_ble_eq_true rfl) ?_
          rintro s69 y69
          rw [er] at y69
          obtain ⟨y69, n69, o69, f69⟩ := y69
          have c69 : CP T n s69 (gAdd h r c t (pTi T n p)) p := ⟨q2.1.keep fun a j x => f69 a j (by omega) (by omega) (by omega), y69, q2.2.2.1.add q4.2 (by omega) q5.2 (by omega) q8 b4 ⟨b5.1, b5.2.1, b5.2.2.1⟩, (f69 2 4 (by omega) (by omega) (by omega)).trans q2.2.2.2.1, (f69 2 5 (by omega) (by omega) (by omega)).trans q2.2.2.2.2⟩
          refine J.aload_n 0 dX3_readChain_72 rfl rfl ?_
          refine I.getR dX3_readChain_73 jcls fX3_21 rfl (by decide) rfl rfl ?_
          refine I.callV0w (d' := d - 1) (mi' := mX4_step) dX3_readChain_76 lX3_75 eX4_step rfl rfl (c_X4_step (d := d - 1) hl (by omega) p0 c69.1.1 ⟨c69.1.2.2.2.2, by omega, by omega⟩) (show d - 1 + 1 ≤ d from by omega) (Nat.le_of_ble_eq_true rfl) ?_
          rintro s76 ⟨⟨k76, a76, n76⟩, f76⟩
          refine I.iinc dX3_readChain_79 rfl rfl ?_
          refine J.goto 19 dX3_readChain_82 (by decide) ?_
          have lo : ∀ j, j < 22 → gAdd h r c t (pTi T n p) j = h j := fun j hj => gAdd_o (by omega) (by unfold gTp; omega)
          rw [e9]
          exact J.fgt (by exact ⟨Or.inr rfl, Or.inr rfl, Or.inl rfl, trivial⟩) (ih (by omega) (by omega) (c69.next p0 ⟨k76, a76, n76⟩ f76) (SN.congr n69 fun i => f76 20 i (by omega)) ⟨by rw [lo 0 (by omega)]; exact q4.1, q4.2⟩ ⟨by rw [lo _ (by omega)]; exact q5.1, q5.2⟩ (fun a j x => (f76 a j (by omega)).trans ((f69 a j (by omega) (by omega) (by omega)).trans (q6 a j x))) (fun _ => by rw [f76 2 3 (by omega), o69, show t + 1 - 1 = t by omega, gAdd_t ⟨q4.2, by omega⟩ ⟨q5.2, by omega⟩ q1]; exact b5.2.2.2.2.symm) gAdd_l.symm)
        · skip
          have e9 : pTs T n r c (k + 1) t p h = (pTE T n h r c t p, p, h) := by unfold pTs; rw [if_pos h33, if_pos h43]
          refine J.aload_n 0 dX3_readChain_46 rfl rfl ?_
          refine J.iload_n 2 dX3_readChain_47 rfl rfl ?_
          refine I.callV1q (d' := d - 1) (mi' := mX3_fail) dX3_readChain_48 lX3_55 eX3_fail rfl rfl (c_X3_fail (d := d - 1) hl (by omega) ) (show d - 1 + 1 ≤ d from by omega) (Nat.le_of_ble_eq_true rfl) ?_
          rintro _ _ ⟨rfl, rfl⟩
          exact I.zretQ dX3_readChain_51 rfl (by first | exact Or.inl rfl | exact Or.inr rfl | exact bI_01 _ | omega) (CR.bad q6 q2.1 e9 h43)
set_option maxHeartbeats 1000000 in
theorem c_X3_readChain {Γ : jE} (hl : Γ.1.stackTraces = false) {s : Nat → Int → Int} {ε : jEps} {d : Nat} {T : Int → Int} {n q r c : Int} {g : Int → Int} (hd : 4 ≤ d) (p0 : PTx T n) (p1 : CP T n s g q) (p2 : SN s g r) (p3 : g 0 = r + 1 ∧ 0 ≤ r) (p4 : g (18 + r) = c + 1 ∧ 0 ≤ c) (p5 : g (22 + 3 * r + c) = 0) : Con Γ (d, 0, 0) mX3_readChain [.ref 2] (jmem s ε) (RQ (fun w s' => CR T n s s' w (pC2 T n r c q g) (okC T n s' r (pC2 T n r c q g))) ε) X0 := by
  refine Con.ofJ (by decide +kernel) (by simp [Value.category]) (Nat.le_of_ble_eq_true rfl) ?_ hl
  have w := p1.1.w p0
  refine J.aload_n 0 dX3_readChain_0 rfl rfl ?_
  refine I.getR dX3_readChain_1 jcls fX3_21 rfl (by decide) rfl rfl ?_
  refine I.gI 2 rfl dX3_readChain_4 jcls fX3_66 rfl (by decide) rfl ?_
  refine I.sx p1.1.2.2.1 ?_
  refine I.iconst dX3_readChain_7 ?_
  refine I.icmp_eq 17 dX3_readChain_8 (by decide) (by omega) (by omega) (fun h8 => ?_) (fun h8 => ?_)
  · skip
    have e9 : pC2 T n r c q g = pTs T n r c 9 0 q g := by unfold pC2; rw [if_pos h8]
    rw [e9]
    refine I.iconst dX3_readChain_17 ?_
    refine J.istore_n 1 dX3_readChain_18 rfl (by decide) rfl ?_
    exact J.fgt (by exact ⟨Or.inr rfl, Or.inr rfl, Or.inl rfl, trivial⟩) (k_X3_readChain_19 hl (by omega) p0 p1 p2 p3 p4 p5 (9) (by omega) (by omega) p1 p2 p3 p4 (fun q j h => rfl) (fun h => absurd h (by omega)) p5.symm)
  · skip
    have e9 : pC2 T n r c q g = (1, q, g) := by unfold pC2; rw [if_neg h8]
    refine J.aload_n 0 dX3_readChain_11 rfl rfl ?_
    refine I.iconst dX3_readChain_12 ?_
    refine I.callV1q (d' := d - 1) (mi' := mX3_fail) dX3_readChain_13 lX3_55 eX3_fail rfl rfl (c_X3_fail (d := d - 1) hl (by omega) ) (show d - 1 + 1 ≤ d from by omega) (Nat.le_of_ble_eq_true rfl) ?_
    rintro _ _ ⟨rfl, rfl⟩
    exact I.zretQ dX3_readChain_16 rfl (by first | exact Or.inl rfl | exact Or.inr rfl | exact bI_01 _ | omega) (CR.bad (fun q j h => rfl) p1.1 e9 (by decide))
