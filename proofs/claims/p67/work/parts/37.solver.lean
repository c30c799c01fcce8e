set_option maxHeartbeats 1000000 in
theorem c_X5_isBurnable {Γ : jE} (hl : Γ.1.stackTraces = false) {s : Nat → Int → Int} {ε : jEps} {d : Nat} {c : Int} {f e : Int → Int} {r : Int} (hd : 1 ≤ d) (p0 : WK s f r e) (p1 : 0 ≤ c ∧ c < 3) : Con Γ (d, 0, 0) mX5_isBurnable [.ref 51, .int (iI c)] (jmem s ε) (RI (bI (e c < e (3 + c))) (s) ε) X0 := by
  refine Con.ofJ (by decide +kernel) (by simp [Value.category]) (Nat.le_of_ble_eq_true rfl) ?_ hl
  have hs := p0.span p1.1 p1.2
  have he := p0.en p1.1 p1.2
  refine J.aload_n 0 dX5_isBurnable_0 rfl rfl ?_
  refine I.getR dX5_isBurnable_1 jcls fX5_27 rfl (by decide) rfl rfl ?_
  refine J.iload_n 1 dX5_isBurnable_4 rfl rfl ?_
  refine I.callSN2i (d' := d - 1) (mi' := mX8_at) dX5_isBurnable_5 nX5_94 eX8_at (c_X8_at (d := d - 1) hl (by omega) rfl (by first | omega | assumption) (by first | omega | assumption)) (show d - 1 + 1 ≤ d from by omega) (Nat.le_of_ble_eq_true rfl) ?_
  refine I.sx (p0.sp (by omega) (by omega)) ?_
  refine J.istore_n 2 dX5_isBurnable_8 rfl (by decide) rfl ?_
  refine J.aload_n 0 dX5_isBurnable_9 rfl rfl ?_
  refine I.getR dX5_isBurnable_10 jcls fX5_9 rfl (by decide) rfl rfl ?_
  refine J.iload_n 2 dX5_isBurnable_13 rfl rfl ?_
  refine I.callSN2i (d' := d - 1) (mi' := mX8_at) dX5_isBurnable_14 nX5_94 eX8_at (c_X8_at (d := d - 1) hl (by omega) rfl (by first | omega | assumption) (by first | omega | assumption)) (show d - 1 + 1 ≤ d from by omega) (Nat.le_of_ble_eq_true rfl) ?_
  refine I.sx (p0.lo (by omega) (by omega)) ?_
  refine J.aload_n 0 dX5_isBurnable_17 rfl rfl ?_
  refine I.getR dX5_isBurnable_18 jcls fX5_15 rfl (by decide) rfl rfl ?_
  refine J.iload_n 2 dX5_isBurnable_21 rfl rfl ?_
  refine I.callSN2i (d' := d - 1) (mi' := mX8_at) dX5_isBurnable_22 nX5_94 eX8_at (c_X8_at (d := d - 1) hl (by omega) rfl (by first | omega | assumption) (by first | omega | assumption)) (show d - 1 + 1 ≤ d from by omega) (Nat.le_of_ble_eq_true rfl) ?_
  refine I.sx (p0.hi (by omega) (by omega)) ?_
  refine I.icmp_ge 32 dX5_isBurnable_25 (by decide) (by omega) (by omega) (fun h25 => ?_) (fun h25 => ?_)
  · skip
    refine I.iconst dX5_isBurnable_32 ?_
    exact I.zretI dX5_isBurnable_33 rfl (by first | exact Or.inl rfl | exact Or.inr rfl | exact bI_01 _ | omega) (by first | exact (bI_t (by omega)).symm | exact (bI_f (by omega)).symm | rfl) rfl
  · skip
    refine I.iconst dX5_isBurnable_28 ?_
    refine J.goto 33 dX5_isBurnable_29 (by decide) ?_
    exact I.zretI dX5_isBurnable_33 rfl (by first | exact Or.inl rfl | exact Or.inr rfl | exact bI_01 _ | omega) (by first | exact (bI_t (by omega)).symm | exact (bI_f (by omega)).symm | rfl) rfl
set_option maxHeartbeats 1000000 in
theorem c_X5_leftPoints {Γ : jE} (hl : Γ.1.stackTraces = false) {s : Nat → Int → Int} {ε : jEps} {d : Nat} {c : Int} {f e : Int → Int} {r : Int} (hd : 1 ≤ d) (p0 : WK s f r e) (p1 : 0 ≤ c ∧ c < 3) (p2 : e c < e (3 + c)) : Con Γ (d, 0, 0) mX5_leftPoints [.ref 51, .int (iI c)] (jmem s ε) (RI (gPt (gCan f r e) (2 * c)) (s) ε) X0 := by
  refine Con.ofJ (by decide +kernel) (by simp [Value.category]) (Nat.le_of_ble_eq_true rfl) ?_ hl
  have hs := p0.span p1.1 p1.2
  have he := p0.en p1.1 p1.2
  refine J.aload_n 0 dX5_leftPoints_0 rfl rfl ?_
  refine I.getR dX5_leftPoints_1 jcls fX5_18 rfl (by decide) rfl rfl ?_
  refine J.iload_n 1 dX5_leftPoints_4 rfl rfl ?_
  refine I.bipush dX5_leftPoints_5 (by decide) ?_
  refine I.mul dX5_leftPoints_7 ?_
  refine J.aload_n 0 dX5_leftPoints_8 rfl rfl ?_
  refine I.getR dX5_leftPoints_9 jcls fX5_9 rfl (by decide) rfl rfl ?_
  refine J.aload_n 0 dX5_leftPoints_12 rfl rfl ?_
  refine I.getR dX5_leftPoints_13 jcls fX5_27 rfl (by decide) rfl rfl ?_
  refine J.iload_n 1 dX5_leftPoints_16 rfl rfl ?_
  refine I.callSN2i (d' := d - 1) (mi' := mX8_at) dX5_leftPoints_17 nX5_94 eX8_at (c_X8_at (d := d - 1) hl (by omega) rfl (by first | omega | assumption) (by first | omega | assumption)) (show d - 1 + 1 ≤ d from by omega) (Nat.le_of_ble_eq_true rfl) ?_
  refine I.sx (p0.sp (by omega) (by omega)) ?_
  refine I.callSN2i (d' := d - 1) (mi' := mX8_at) dX5_leftPoints_20 nX5_94 eX8_at (c_X8_at (d := d - 1) hl (by omega) rfl (by first | omega | assumption) (by first | omega | assumption)) (show d - 1 + 1 ≤ d from by omega) (Nat.le_of_ble_eq_true rfl) ?_
  refine I.sx (p0.lo (by omega) (by omega)) ?_
  refine I.add dX5_leftPoints_23 ?_
  refine I.callSN2i (d' := d - 1) (mi' := mX8_at) dX5_leftPoints_24 nX5_94 eX8_at (c_X8_at (d := d - 1) hl (by omega) rfl (by first | omega | assumption) (by first | omega | assumption)) (show d - 1 + 1 ≤ d from by omega) (Nat.le_of_ble_eq_true rfl) ?_
  refine I.sx (p0.ptl p1.1 p1.2 p2) ?_
  exact I.iretI dX5_leftPoints_27 rfl (by first | rfl | omega) rfl
set_option maxHeartbeats 1000000 in
theorem c_X5_rightPoints {Γ : jE} (hl : Γ.1.stackTraces = false) {s : Nat → Int → Int} {ε : jEps} {d : Nat} {c : Int} {f e : Int → Int} {r : Int} (hd : 1 ≤ d) (p0 : WK s f r e) (p1 : 0 ≤ c ∧ c < 3) (p2 : e c < e (3 + c)) : Con Γ (d, 0, 0) mX5_rightPoints [.ref 51, .int (iI c)] (jmem s ε) (RI (gPt (gCan f r e) (2 * c + 1)) (s) ε) X0 := by
  refine Con.ofJ (by decide +kernel) (by simp [Value.category]) (Nat.le_of_ble_eq_true rfl) ?_ hl
  have hs := p0.span p1.1 p1.2
  have he := p0.en p1.1 p1.2
  refine J.aload_n 0 dX5_rightPoints_0 rfl rfl ?_
  refine I.getR dX5_rightPoints_1 jcls fX5_18 rfl (by decide) rfl rfl ?_
  refine J.iload_n 1 dX5_rightPoints_4 rfl rfl ?_
  refine I.bipush dX5_rightPoints_5 (by decide) ?_
  refine I.mul dX5_rightPoints_7 ?_
  refine J.aload_n 0 dX5_rightPoints_8 rfl rfl ?_
  refine I.getR dX5_rightPoints_9 jcls fX5_15 rfl (by decide) rfl rfl ?_
  refine J.aload_n 0 dX5_rightPoints_12 rfl rfl ?_
  refine I.getR dX5_rightPoints_13 jcls fX5_27 rfl (by decide) rfl rfl ?_
  refine J.iload_n 1 dX5_rightPoints_16 rfl rfl ?_
  refine I.callSN2i (d' := d - 1) (mi' := mX8_at) dX5_rightPoints_17 nX5_94 eX8_at (c_X8_at (d := d - 1) hl (by omega) rfl (by first | omega | assumption) (by first | omega | assumption)) (show d - 1 + 1 ≤ d from by omega) (Nat.le_of_ble_eq_true rfl) ?_
  refine I.sx (p0.sp (by omega) (by omega)) ?_
  refine I.callSN2i (d' := d - 1) (mi' := mX8_at) dX5_rightPoints_20 nX5_94 eX8_at (c_X8_at (d := d - 1) hl (by omega) rfl (by first | omega | assumption) (by first | omega | assumption)) (show d - 1 + 1 ≤ d from by omega) (Nat.le_of_ble_eq_true rfl) ?_
  refine I.sx (p0.hi (by omega) (by omega)) ?_
  refine I.add dX5_rightPoints_23 ?_
  refine I.callSN2i (d' := d - 1) (mi' := mX8_at) dX5_rightPoints_24 nX5_94 eX8_at (c_X8_at (d := d - 1) hl (by omega) rfl (by first | omega | assumption) (by first | omega | assumption)) (show d - 1 + 1 ≤ d from by omega) (Nat.le_of_ble_eq_true rfl) ?_
  refine I.sx (p0.ptr p1.1 p1.2 p2) ?_
  exact I.iretI dX5_rightPoints_27 rfl (by first | rfl | omega) rfl
set_option maxHeartbeats 1000000 in
theorem c_X5_afterLeft {Γ : jE} (hl : Γ.1.stackTraces = false) {s : Nat → Int → Int} {ε : jEps} {d : Nat} {p : Int} {c : Int} {f e : Int → Int} {r : Int} (hd : 1 ≤ d) (p0 : WK s f r e) (p1 : 0 ≤ c ∧ c < 3) : Con Γ (d, 0, 0) mX5_afterLeft [.ref 51, .int (iI p), .int (iI c)] (jmem s ε) (RI (p - gWt f r c) (s) ε) X0 := by
  refine Con.ofJ (by decide +kernel) (by simp [Value.category]) (Nat.le_of_ble_eq_true rfl) ?_ hl
  refine J.iload_n 1 dX5_afterLeft_0 rfl rfl ?_
  refine J.aload_n 0 dX5_afterLeft_1 rfl rfl ?_
  refine I.getR dX5_afterLeft_2 jcls fX5_24 rfl (by decide) rfl rfl ?_
  refine J.iload_n 2 dX5_afterLeft_5 rfl rfl ?_
  refine I.callSN2i (d' := d - 1) (mi' := mX8_at) dX5_afterLeft_6 nX5_94 eX8_at (c_X8_at (d := d - 1) hl (by omega) rfl (by first | omega | assumption) (by first | omega | assumption)) (show d - 1 + 1 ≤ d from by omega) (Nat.le_of_ble_eq_true rfl) ?_
  refine I.sx (p0.wt (by omega) (by omega)) ?_
  refine I.sub dX5_afterLeft_9 ?_
  exact I.iretI dX5_afterLeft_10 rfl (by first | rfl | omega) rfl
set_option maxHeartbeats 1000000 in
theorem c_X5_afterRight {Γ : jE} (hl : Γ.1.stackTraces = false) {s : Nat → Int → Int} {ε : jEps} {d : Nat} {p : Int} {c : Int} {f e : Int → Int} {r : Int} (hd : 1 ≤ d) (p0 : WK s f r e) (p1 : 0 ≤ c ∧ c < 3) : Con Γ (d, 0, 0) mX5_afterRight [.ref 51, .int (iI p), .int (iI c)] (jmem s ε) (RI (p - gWt f r c * (e (3 + c) + 1)) (s) ε) X0 := by
  refine Con.ofJ (by decide +kernel) (by simp [Value.category]) (Nat.le_of_ble_eq_true rfl) ?_ hl
  have hs := p0.span p1.1 p1.2
  have he := p0.en p1.1 p1.2
  refine J.iload_n 1 dX5_afterRight_0 rfl rfl ?_
  refine J.aload_n 0 dX5_afterRight_1 rfl rfl ?_
  refine I.getR dX5_afterRight_2 jcls fX5_24 rfl (by decide) rfl rfl ?_
  refine J.iload_n 2 dX5_afterRight_5 rfl rfl ?_
  refine I.callSN2i (d' := d - 1) (mi' := mX8_at) dX5_afterRight_6 nX5_94 eX8_at (c_X8_at (d := d - 1) hl (by omega) rfl (by first | omega | assumption) (by first | omega | assumption)) (show d - 1 + 1 ≤ d from by omega) (Nat.le_of_ble_eq_true rfl) ?_
  refine I.sx (p0.wt (by omega) (by omega)) ?_
  refine J.aload_n 0 dX5_afterRight_9 rfl rfl ?_
  refine I.getR dX5_afterRight_10 jcls fX5_15 rfl (by decide) rfl rfl ?_
  refine J.aload_n 0 dX5_afterRight_13 rfl rfl ?_
  refine I.getR dX5_afterRight_14 jcls fX5_27 rfl (by decide) rfl rfl ?_
  refine J.iload_n 2 dX5_afterRight_17 rfl rfl ?_
  refine I.callSN2i (d' := d - 1) (mi' := mX8_at) dX5_afterRight_18 nX5_94 eX8_at (c_X8_at (d := d - 1) hl (by omega) rfl (by first | omega | assumption) (by first | omega | assumption)) (show d - 1 + 1 ≤ d from by omega) (Nat.le_of_ble_eq_true rfl) ?_
  refine I.sx (p0.sp (by omega) (by omega)) ?_
  refine I.callSN2i (d' := d - 1) (mi' := mX8_at) dX5_afterRight_21 nX5_94 eX8_at (c_X8_at (d := d - 1) hl (by omega) rfl (by first | omega | assumption) (by first | omega | assumption)) (show d - 1 + 1 ≤ d from by omega) (Nat.le_of_ble_eq_true rfl) ?_
  refine I.sx (p0.hi (by omega) (by omega)) ?_
  refine I.iconst dX5_afterRight_24 ?_
  refine I.add dX5_afterRight_25 ?_
  refine I.mul dX5_afterRight_26 ?_
  refine I.sub dX5_afterRight_27 ?_
  exact I.iretI dX5_afterRight_28 rfl (by first | rfl | omega) rfl
set_option maxHeartbeats 1000000 in
theorem c_X5_leftValue {Γ : jE} (hl : Γ.1.stackTraces = false) {s : Nat → Int → Int} {ε : jEps} {d : Nat} {p : Int} {c : Int} {f e : Int → Int} {r : Int} (hd : 2 ≤ d) (p0 : WK s f r e) (p1 : 0 ≤ c ∧ c < 3) (p2 : e c < e (3 + c)) (p3 : p = gPl f r e) : Con Γ (d, 0, 0) mX5_leftValue [.ref 51, .int (iI p), .int (iI c)] (jmem s ε) (RI (gPt (gCan f r e) (2 * c) - s 58 (gPl f r (eUp e c 1))) (s) ε) X0 := by
  refine Con.ofJ (by decide +kernel) (by simp [Value.category]) (Nat.le_of_ble_eq_true rfl) ?_ hl
  have u := p0.upl p1.1 p1.2 p2
  refine J.aload_n 0 dX5_leftValue_0 rfl rfl ?_
  refine J.iload_n 2 dX5_leftValue_1 rfl rfl ?_
  refine I.callV1i (d' := d - 1) (mi' := mX5_leftPoints) dX5_leftValue_2 lX5_148 eX5_leftPoints rfl rfl (c_X5_leftPoints (d := d - 1) hl (by omega) (by assumption) (by first | omega | assumption) (by first | omega | assumption)) (show d - 1 + 1 ≤ d from by omega) (Nat.le_of_ble_eq_true rfl) ?_
  refine J.aload_n 0 dX5_leftValue_5 rfl rfl ?_
  refine I.getR dX5_leftValue_6 jcls fX5_31 rfl (by decide) rfl rfl ?_
  refine J.aload_n 0 dX5_leftValue_9 rfl rfl ?_
  refine J.iload_n 1 dX5_leftValue_10 rfl rfl ?_
  refine J.iload_n 2 dX5_leftValue_11 rfl rfl ?_
  refine I.callV2i (d' := d - 1) (mi' := mX5_afterLeft) dX5_leftValue_12 lX5_151 eX5_afterLeft rfl rfl (c_X5_afterLeft (d := d - 1) hl (by omega) (by assumption) (by first | omega | assumption)) (show d - 1 + 1 ≤ d from by omega) (Nat.le_of_ble_eq_true rfl) ?_
  refine I.sx (show p - gWt f r c = gPl f r (eUp e c 1) by omega) ?_
  refine I.callSN2i (d' := d - 1) (mi' := mX8_at) dX5_leftValue_15 nX5_94 eX8_at (c_X8_at (d := d - 1) hl (by omega) rfl (by first | omega | assumption) (by first | omega | assumption)) (show d - 1 + 1 ≤ d from by omega) (Nat.le_of_ble_eq_true rfl) ?_
  refine I.sub dX5_leftValue_18 ?_
  exact I.iretI dX5_leftValue_19 rfl (by first | rfl | omega) rfl
set_option maxHeartbeats 1000000 in
theorem c_X5_rightValue {Γ : jE} (hl : Γ.1.stackTraces = false) {s : Nat → Int → Int} {ε : jEps} {d : Nat} {p : Int} {c : Int} {f e : Int → Int} {r : Int} (hd : 2 ≤ d) (p0 : WK s f r e) (p1 : 0 ≤ c ∧ c < 3) (p2 : e c < e (3 + c)) (p3 : p = gPl f r e) : Con Γ (d, 0, 0) mX5_rightValue [.ref 51, .int (iI p), .int (iI c)] (jmem s ε) (RI (gPt (gCan f r e) (2 * c + 1) - s 58 (gPl f r (eUp e (3 + c) (-1)))) (s) ε) X0 := by
  refine Con.ofJ (by decide +kernel) (by simp [Value.category]) (Nat.le_of_ble_eq_true rfl) ?_ hl
  have u := p0.upr p1.1 p1.2 p2
  refine J.aload_n 0 dX5_rightValue_0 rfl rfl ?_
  refine J.iload_n 2 dX5_rightValue_1 rfl rfl ?_
  refine I.callV1i (d' := d - 1) (mi' := mX5_rightPoints) dX5_rightValue_2 lX5_154 eX5_rightPoints rfl rfl (c_X5_rightPoints (d := d - 1) hl (by omega) (by assumption) (by first | omega | assumption) (by first | omega | assumption)) (show d - 1 + 1 ≤ d from by omega) (Nat.le_of_ble_eq_true rfl) ?_
  refine J.aload_n 0 dX5_rightValue_5 rfl rfl ?_
  refine I.getR dX5_rightValue_6 jcls fX5_31 rfl (by decide) rfl rfl ?_
  refine J.aload_n 0 dX5_rightValue_9 rfl rfl ?_
  refine J.iload_n 1 dX5_rightValue_10 rfl rfl ?_
  refine J.iload_n 2 dX5_rightValue_11 rfl rfl ?_
  refine I.callV2i (d' := d - 1) (mi' := mX5_afterRight) dX5_rightValue_12 lX5_157 eX5_afterRight rfl rfl (c_X5_afterRight (d := d - 1) hl (by omega) (by assumption) (by first | omega | assumption)) (show d - 1 + 1 ≤ d from by omega) (Nat.le_of_ble_eq_true rfl) ?_
  refine I.sx (show p - gWt f r c * (e (3 + c) + 1) = gPl f r (eUp e (3 + c) (-1)) by omega) ?_
  refine I.callSN2i (d' := d - 1) (mi' := mX8_at) dX5_rightValue_15 nX5_94 eX8_at (c_X8_at (d := d - 1) hl (by omega) rfl (by first | omega | assumption) (by first | omega | assumption)) (show d - 1 + 1 ≤ d from by omega) (Nat.le_of_ble_eq_true rfl) ?_
  refine I.sub dX5_rightValue_18 ?_
  exact I.iretI dX5_rightValue_19 rfl (by first | rfl | omega) rfl
set_option maxHeartbeats 1000000 in
theorem k_X5_optimalHere_4 {Γ : jE} (hl : Γ.1.stackTraces = false) {s : Nat → Int → Int} {ε : jEps} {d : Nat} {p : Int} {f e : Int → Int} {r : Int} (hd : 3 ≤ d) (p0 : WK s f r e) (p1 : p = gPl f r e) (p2 : TO s f r p) {mc ms : Nat} {P : Option Value → jM → Prop} {X : String → jM → Prop} : ∀ (k : Nat) {i a : Int} (q0 : ((k : Nat) : Int) = 3 - i) (q1 : 0 ≤ i) (q2 : 0 ≤ a ∧ a ≤ 24) (kx : J Γ (d, mc, ms) mX5_optimalHere 45 [some (.ref 51), some (.int (iI p)), some (.int (iI (gB gWf (gCan f r e) k i a))), none] [] (jmem s ε) P X), J Γ (d, mc, ms) mX5_optimalHere 4 [some (.ref 51), some (.int (iI p)), some (.int (iI (a))), some (.int (iI (i)))] [] (jmem s ε) P X := by
  intro k
  induction k with
  | zero =>
    intro i a q0 q1 q2 kx
    refine J.iload_n 3 dX5_optimalHere_4 rfl rfl ?_
    refine I.iconst dX5_optimalHere_5 ?_
    refine I.icmp_ge 45 dX5_optimalHere_6 (by decide) (by omega) (by omega) (fun h6 => ?_) (fun h6 => ?_)
    · skip
      exact J.fgt (by exact ⟨Or.inr rfl, Or.inr rfl, Or.inr rfl, Or.inl rfl, trivial⟩) kx
    · exact absurd h6 (by omega)
  | succ k ih =>
    intro i a q0 q1 q2 kx
    refine J.iload_n 3 dX5_optimalHere_4 rfl rfl ?_
    refine I.iconst dX5_optimalHere_5 ?_
    refine I.icmp_ge 45 dX5_optimalHere_6 (by decide) (by omega) (by omega) (fun h6 => ?_) (fun h6 => ?_)
    · exact absurd h6 (by omega)
    · skip
      refine J.aload_n 0 dX5_optimalHere_9 rfl rfl ?_
      refine J.iload_n 3 dX5_optimalHere_10 rfl rfl ?_
      refine I.callV1i (d' := d - 1) (mi' := mX5_isBurnable) dX5_optimalHere_11 lX5_145 eX5_isBurnable rfl rfl (c_X5_isBurnable (d := d - 1) hl (by omega) (by assumption) (by first | omega | assumption)) (show d - 1 + 1 ≤ d from by omega) (Nat.le_of_ble_eq_true rfl) ?_
      refine I.if_eqB 39 dX5_optimalHere_14 (by decide) (fun h14 => ?_) (fun h14 => ?_)
      · skip
        have ek : gB gWf (gCan f r e) (k + 1) i a = gB gWf (gCan f r e) k (i + 1) a := by unfold gB; rw [foldF_s, if_neg (fun x => h14 ((p0.burn q1 (by omega)).mp x))]
        refine I.iinc dX5_optimalHere_39 rfl rfl ?_
        refine J.goto 4 dX5_optimalHere_42 (by decide) ?_
        exact J.fgt (by exact ⟨Or.inr rfl, Or.inr rfl, Or.inr rfl, Or.inr rfl, trivial⟩) (ih (by first | omega | (dsimp only; omega)) (by first | omega | (dsimp only; omega)) (by first | omega | (dsimp only; omega)) (by rw [ek] at kx; exact kx))
      · skip
        have u1 := p0.upl q1 (by omega) h14
        have u2 := p0.upr q1 (by omega) h14
        have bb := p0.bn q1 (by omega) h14
        have g1 := gPt_rng p0.fl p0.fs bb.1.ok
        have g2 := gPt_rng p0.fl p0.fs bb.2.ok
        have x1 := gWf_rng (gRem_FL p0.fl p0.fs bb.1) (gRem_FS p0.fl p0.fs bb.1)
        have x2 := gWf_rng (gRem_FL p0.fl p0.fs bb.2) (gRem_FS p0.fl p0.fs bb.2)
        have em : ∀ x y : Int, max a (max x y) = max (max a x) y := fun x y => by omega
        have ek : gB gWf (gCan f r e) (k + 1) i a = gB gWf (gCan f r e) k (i + 1) (max (max a (gPt (gCan f r e) (2 * i) - gWf (gRem (gCan f r e) (2 * i)))) (gPt (gCan f r e) (2 * i + 1) - gWf (gRem (gCan f r e) (2 * i + 1)))) := by unfold gB; rw [foldF_s, if_pos ((p0.burn q1 (by omega)).mpr h14), em]
        refine J.iload_n 2 dX5_optimalHere_17 rfl rfl ?_
        refine J.aload_n 0 dX5_optimalHere_18 rfl rfl ?_
        refine J.iload_n 1 dX5_optimalHere_19 rfl rfl ?_
        refine J.iload_n 3 dX5_optimalHere_20 rfl rfl ?_
        refine I.callV2i (d' := d - 1) (mi' := mX5_leftValue) dX5_optimalHere_21 lX5_117 eX5_leftValue rfl rfl (c_X5_leftValue (d := d - 1) hl (by omega) (by assumption) (by first | omega | assumption) (by first | omega | assumption) (by first | omega | assumption)) (show d - 1 + 1 ≤ d from by omega) (Nat.le_of_ble_eq_true rfl) ?_
        refine I.sx (show _ = gPt (gCan f r e) (2 * i) - gWf (gRem (gCan f r e) (2 * i)) by rw [p2 _ u1.1 (by omega), (gRem_can q1 (by omega)).1]) ?_
        refine I.mmax dX5_optimalHere_24 lX5_135 (by omega) (by omega) (Nat.le_of_ble_eq_true rfl) ?_
        refine J.istore_n 2 dX5_optimalHere_27 rfl (by decide) rfl ?_
        refine J.iload_n 2 dX5_optimalHere_28 rfl rfl ?_
        refine J.aload_n 0 dX5_optimalHere_29 rfl rfl ?_
        refine J.iload_n 1 dX5_optimalHere_30 rfl rfl ?_
        refine J.iload_n 3 dX5_optimalHere_31 rfl rfl ?_
        refine I.callV2i (d' := d - 1) (mi' := mX5_rightValue) dX5_optimalHere_32 lX5_120 eX5_rightValue rfl rfl (c_X5_rightValue (d := d - 1) hl (by omega) (by assumption) (by first | omega | assumption) (by first | omega | assumption) (by first | omega | assumption)) (show d - 1 + 1 ≤ d from by omega) (Nat.le_of_ble_eq_true rfl) ?_
        refine I.sx (show _ = gPt (gCan f r e) (2 * i + 1) - gWf (gRem (gCan f r e) (2 * i + 1)) by rw [p2 _ u2.1 (by omega), (gRem_can q1 (by omega)).2]) ?_
        refine I.mmax dX5_optimalHere_35 lX5_135 (by omega) (by omega) (Nat.le_of_ble_eq_true rfl) ?_
        refine J.istore_n 2 dX5_optimalHere_38 rfl (by decide) rfl ?_
        refine I.iinc dX5_optimalHere_39 rfl rfl ?_
        refine J.goto 4 dX5_optimalHere_42 (by decide) ?_
        exact J.fgt (by exact ⟨Or.inr rfl, Or.inr rfl, Or.inr rfl, Or.inr rfl, trivial⟩) (ih (by first | omega | (dsimp only; omega)) (by first | omega | (dsimp only; omega)) (by first | omega | (dsimp only; omega)) (by rw [ek] at kx; exact kx))
set_option maxHeartbeats 1000000 in
theorem c_X5_optimalHere {Γ : jE} (hl : Γ.1.stackTraces = false) {s : Nat → Int → Int} {ε : jEps} {d : Nat} {p : Int} {f e : Int → Int} {r : Int} (hd : 3 ≤ d) (p0 : WK s f r e) (p1 : p = gPl f r e) (p2 : TO s f r p) : Con Γ (d, 0, 0) mX5_optimalHere [.ref 51, .int (iI p)] (jmem s ε) (RI (gWf (gCan f r e)) (s) ε) X0 := by
  refine Con.ofJ (by decide +kernel) (by simp [Value.category]) (Nat.le_of_ble_eq_true rfl) ?_ hl
  refine I.iconst dX5_optimalHere_0 ?_
  refine J.istore_n 2 dX5_optimalHere_1 rfl (by decide) rfl ?_
  refine I.iconst dX5_optimalHere_2 ?_
  refine J.istore_n 3 dX5_optimalHere_3 rfl (by decide) rfl ?_
  refine J.fgt (by exact ⟨Or.inr rfl, Or.inr rfl, Or.inr rfl, Or.inr rfl, trivial⟩) (k_X5_optimalHere_4 hl (by omega) p0 p1 p2 (3) (by first | omega | (dsimp only; omega)) (by first | omega | (dsimp only; omega)) (by first | omega | (dsimp only; omega)) ?_)
  refine J.iload_n 2 dX5_optimalHere_45 rfl rfl ?_
  exact I.iretI dX5_optimalHere_46 rfl (p0.opt) rfl
set_option maxHeartbeats 1000000 in
theorem k_X5_aheadHere_5 {Γ : jE} (hl : Γ.1.stackTraces = false) {s : Nat → Int → Int} {ε : jEps} {d : Nat} {p : Int} {v : Int} {f e : Int → Int} {r : Int} (hd : 2 ≤ d) (p0 : WK s f r e) (p1 : p = gPl f r e) (p2 : TB s f r p) (p3 : -600 ≤ v ∧ v ≤ 600) {mc ms : Nat} {P : Option Value → jM → Prop} {X : String → jM → Prop} : ∀ (k : Nat) {i a : Int} (q0 : ((k : Nat) : Int) = 3 - i) (q1 : 0 ≤ i) (q2 : -600 ≤ a ∧ a ≤ 600) (kx : J Γ (d, mc, ms) mX5_aheadHere 78 [some (.ref 51), some (.int (iI p)), some (.int (iI v)), some (.int (iI (foldF (gMC (gCan f r e)) k i a))), none] [] (jmem s ε) P X), J Γ (d, mc, ms) mX5_aheadHere 5 [some (.ref 51), some (.int (iI p)), some (.int (iI v)), some (.int (iI (a))), some (.int (iI (i)))] [] (jmem s ε) P X := by
  intro k
  induction k with
  | zero =>
    intro i a q0 q1 q2 kx
    refine J.iload dX5_aheadHere_5 rfl ?_
    refine I.iconst dX5_aheadHere_7 ?_
    refine I.icmp_ge 78 dX5_aheadHere_8 (by decide) (by omega) (by omega) (fun h8 => ?_) (fun h8 => ?_)
    · skip
      exact J.fgt (by exact ⟨Or.inr rfl, Or.inr rfl, Or.inr rfl, Or.inr rfl, Or.inl rfl, trivial⟩) kx
    · exact absurd h8 (by omega)
  | succ k ih =>
    intro i a q0 q1 q2 kx
    refine J.iload dX5_aheadHere_5 rfl ?_
    refine I.iconst dX5_aheadHere_7 ?_
    refine I.icmp_ge 78 dX5_aheadHere_8 (by decide) (by omega) (by omega) (fun h8 => ?_) (fun h8 => ?_)
    · exact absurd h8 (by omega)
    · skip
      refine J.aload_n 0 dX5_aheadHere_11 rfl rfl ?_
      refine J.iload dX5_aheadHere_12 rfl ?_
      refine I.callV1i (d' := d - 1) (mi' := mX5_isBurnable) dX5_aheadHere_14 lX5_145 eX5_isBurnable rfl rfl (c_X5_isBurnable (d := d - 1) hl (by omega) (by assumption) (by first | omega | assumption)) (show d - 1 + 1 ≤ d from by omega) (Nat.le_of_ble_eq_true rfl) ?_
      refine I.if_eqB 72 dX5_aheadHere_17 (by decide) (fun h17 => ?_) (fun h17 => ?_)
      · skip
        have ek : gMC (gCan f r e) i a = a := p0.mc_n q1 (by omega) h17
        refine I.iinc dX5_aheadHere_72 rfl rfl ?_
        refine J.goto 5 dX5_aheadHere_75 (by decide) ?_
        exact J.fgt (by exact ⟨Or.inr rfl, Or.inr rfl, Or.inr rfl, Or.inr rfl, Or.inr rfl, trivial⟩) (ih (by first | omega | (dsimp only; omega)) (by first | omega | (dsimp only; omega)) (by first | omega | (dsimp only; omega)) (by rw [foldF_s, ek] at kx; exact kx))
      · skip
        have u1 := p0.upl q1 (by omega) h17
        have u2 := p0.upr q1 (by omega) h17
        have bb := p0.bn q1 (by omega) h17
        have g1 := gPt_rng p0.fl p0.fs bb.1.ok
        have g2 := gPt_rng p0.fl p0.fs bb.2.ok
        have x1 := gBhf_rng (gRem_FL p0.fl p0.fs bb.1) (gRem_FS p0.fl p0.fs bb.1)
        have x2 := gBhf_rng (gRem_FL p0.fl p0.fs bb.2) (gRem_FS p0.fl p0.fs bb.2)
        have ek := p0.mc_y (a := a) q1 (by omega) h17
        refine J.iload_n 3 dX5_aheadHere_20 rfl rfl ?_
        refine J.aload_n 0 dX5_aheadHere_21 rfl rfl ?_
        refine J.iload dX5_aheadHere_22 rfl ?_
        refine I.callV1i (d' := d - 1) (mi' := mX5_leftPoints) dX5_aheadHere_24 lX5_148 eX5_leftPoints rfl rfl (c_X5_leftPoints (d := d - 1) hl (by omega) (by assumption) (by first | omega | assumption) (by first | omega | assumption)) (show d - 1 + 1 ≤ d from by omega) (Nat.le_of_ble_eq_true rfl) ?_
        refine J.aload_n 0 dX5_aheadHere_27 rfl rfl ?_
        refine I.getR dX5_aheadHere_28 jcls fX5_37 rfl (by decide) rfl rfl ?_
        refine J.aload_n 0 dX5_aheadHere_31 rfl rfl ?_
        refine J.iload_n 1 dX5_aheadHere_32 rfl rfl ?_
        refine J.iload dX5_aheadHere_33 rfl ?_
        refine I.callV2i (d' := d - 1) (mi' := mX5_afterLeft) dX5_aheadHere_35 lX5_151 eX5_afterLeft rfl rfl (c_X5_afterLeft (d := d - 1) hl (by omega) (by assumption) (by first | omega | assumption)) (show d - 1 + 1 ≤ d from by omega) (Nat.le_of_ble_eq_true rfl) ?_
        refine I.sx (show p - gWt f r i = gPl f r (eUp e i 1) by omega) ?_
        refine I.callSN2i (d' := d - 1) (mi' := mX8_at) dX5_aheadHere_38 nX5_94 eX8_at (c_X8_at (d := d - 1) hl (by omega) rfl (by first | omega | assumption) (by first | omega | assumption)) (show d - 1 + 1 ≤ d from by omega) (Nat.le_of_ble_eq_true rfl) ?_
        refine I.sx (show s 60 (gPl f r (eUp e i 1)) = gBhf (gRem (gCan f r e) (2 * i)) by rw [p2 _ u1.1 (by omega), (gRem_can q1 (by omega)).1]) ?_
        refine I.add dX5_aheadHere_41 ?_
        refine I.mmax dX5_aheadHere_42 lX5_135 (by omega) (by omega) (Nat.le_of_ble_eq_true rfl) ?_
        refine J.istore_n 3 dX5_aheadHere_45 rfl (by decide) rfl ?_
        refine J.iload_n 3 dX5_aheadHere_46 rfl rfl ?_
        refine J.aload_n 0 dX5_aheadHere_47 rfl rfl ?_
        refine J.iload dX5_aheadHere_48 rfl ?_
        refine I.callV1i (d' := d - 1) (mi' := mX5_rightPoints) dX5_aheadHere_50 lX5_154 eX5_rightPoints rfl rfl (c_X5_rightPoints (d := d - 1) hl (by omega) (by assumption) (by first | omega | assumption) (by first | omega | assumption)) (show d - 1 + 1 ≤ d from by omega) (Nat.le_of_ble_eq_true rfl) ?_
        refine J.aload_n 0 dX5_aheadHere_53 rfl rfl ?_
        refine I.getR dX5_aheadHere_54 jcls fX5_37 rfl (by decide) rfl rfl ?_
        refine J.aload_n 0 dX5_aheadHere_57 rfl rfl ?_
        refine J.iload_n 1 dX5_aheadHere_58 rfl rfl ?_
        refine J.iload dX5_aheadHere_59 rfl ?_
        refine I.callV2i (d' := d - 1) (mi' := mX5_afterRight) dX5_aheadHere_61 lX5_157 eX5_afterRight rfl rfl (c_X5_afterRight (d := d - 1) hl (by omega) (by assumption) (by first | omega | assumption)) (show d - 1 + 1 ≤ d from by omega) (Nat.le_of_ble_eq_true rfl) ?_
        refine I.sx (show p - gWt f r i * (e (3 + i) + 1) = gPl f r (eUp e (3 + i) (-1)) by omega) ?_
        refine I.callSN2i (d' := d - 1) (mi' := mX8_at) dX5_aheadHere_64 nX5_94 eX8_at (c_X8_at (d := d - 1) hl (by omega) rfl (by first | omega | assumption) (by first | omega | assumption)) (show d - 1 + 1 ≤ d from by omega) (Nat.le_of_ble_eq_true rfl) ?_
        refine I.sx (show s 60 (gPl f r (eUp e (3 + i) (-1))) = gBhf (gRem (gCan f r e) (2 * i + 1)) by rw [p2 _ u2.1 (by omega), (gRem_can q1 (by omega)).2]) ?_
        refine I.add dX5_aheadHere_67 ?_
        refine I.mmax dX5_aheadHere_68 lX5_135 (by omega) (by omega) (Nat.le_of_ble_eq_true rfl) ?_
        refine J.istore_n 3 dX5_aheadHere_71 rfl (by decide) rfl ?_
        refine I.iinc dX5_aheadHere_72 rfl rfl ?_
        refine J.goto 5 dX5_aheadHere_75 (by decide) ?_
        exact J.fgt (by exact ⟨Or.inr rfl, Or.inr rfl, Or.inr rfl, Or.inr rfl, Or.inr rfl, trivial⟩) (ih (by first | omega | (dsimp only; omega)) (by first | omega | (dsimp only; omega)) (by first | omega | (dsimp only; omega)) (by rw [foldF_s, ek] at kx; exact kx))
set_option maxHeartbeats 1000000 in
theorem c_X5_aheadHere {Γ : jE} (hl : Γ.1.stackTraces = false) {s : Nat → Int → Int} {ε : jEps} {d : Nat} {p : Int} {v : Int} {f e : Int → Int} {r : Int} (hd : 2 ≤ d) (p0 : WK s f r e) (p1 : p = gPl f r e) (p2 : TB s f r p) (p3 : -600 ≤ v ∧ v ≤ 600) : Con Γ (d, 0, 0) mX5_aheadHere [.ref 51, .int (iI p), .int (iI v)] (jmem s ε) (RI (gM gBhf (gCan f r e) (2 * f (18 + r)).toNat 0 v) (s) ε) X0 := by
  refine Con.ofJ (by decide +kernel) (by simp [Value.category]) (Nat.le_of_ble_eq_true rfl) ?_ hl
  refine J.iload_n 2 dX5_aheadHere_0 rfl rfl ?_
  refine J.istore_n 3 dX5_aheadHere_1 rfl (by decide) rfl ?_
  refine I.iconst dX5_aheadHere_2 ?_
  refine J.istore dX5_aheadHere_3 (by decide) rfl ?_
  refine J.fgt (by exact ⟨Or.inr rfl, Or.inr rfl, Or.inr rfl, Or.inr rfl, Or.inr rfl, trivial⟩) (k_X5_aheadHere_5 hl (by omega) p0 p1 p2 p3 (3) (by first | omega | (dsimp only; omega)) (by first | omega | (dsimp only; omega)) (by first | omega | (dsimp only; omega)) ?_)
  refine J.iload_n 3 dX5_aheadHere_78 rfl rfl ?_
  exact I.iretI dX5_aheadHere_79 rfl (p0.gm3) rfl
set_option maxHeartbeats 1000000 in
theorem k_X5_behindHere_7 {Γ : jE} (hl : Γ.1.stackTraces = false) {s : Nat → Int → Int} {ε : jEps} {d : Nat} {p : Int} {f e : Int → Int} {r : Int} (hd : 2 ≤ d) (p0 : WK s f r e) (p1 : p = gPl f r e) (p2 : TA s f r p) {mc ms : Nat} {P : Option Value → jM → Prop} {X : String → jM → Prop} : ∀ (k : Nat) {i b : Int} (q0 : ((k : Nat) : Int) = 3 - i) (q1 : 0 ≤ i) (q2 : b = -1 ∨ gBn (gCan f r e) b) (kx : J Γ (d, mc, ms) mX5_behindHere 87 [some (.ref 51), some (.int (iI p)), some (.int (iI (gMo (gCan f r e) (foldF (gGC (gCan f r e)) k i b)))), some (.int (iI (gAf f r e p (foldF (gGC (gCan f r e)) k i b)))), none] [] (jmem s ε) P X), J Γ (d, mc, ms) mX5_behindHere 7 [some (.ref 51), some (.int (iI p)), some (.int (iI (gMo (gCan f r e) b))), some (.int (iI (gAf f r e p b))), some (.int (iI (i)))] [] (jmem s ε) P X := by
  intro k
  induction k with
  | zero =>
    intro i b q0 q1 q2 kx
    have mo := gMo_rng p0.fl p0.fs q2
    refine J.iload dX5_behindHere_7 rfl ?_
    refine I.iconst dX5_behindHere_9 ?_
    refine I.icmp_ge 87 dX5_behindHere_10 (by decide) (by omega) (by omega) (fun h10 => ?_) (fun h10 => ?_)
    · skip
      exact J.fgt (by exact ⟨Or.inr rfl, Or.inr rfl, Or.inr rfl, Or.inr rfl, Or.inl rfl, trivial⟩) kx
    · exact absurd h10 (by omega)
  | succ k ih =>
    intro i b q0 q1 q2 kx
    have mo := gMo_rng p0.fl p0.fs q2
    refine J.iload dX5_behindHere_7 rfl ?_
    refine I.iconst dX5_behindHere_9 ?_
    refine I.icmp_ge 87 dX5_behindHere_10 (by decide) (by omega) (by omega) (fun h10 => ?_) (fun h10 => ?_)
    · exact absurd h10 (by omega)
    · skip
      refine J.aload_n 0 dX5_behindHere_13 rfl rfl ?_
      refine J.iload dX5_behindHere_14 rfl ?_
      refine I.callV1i (d' := d - 1) (mi' := mX5_isBurnable) dX5_behindHere_16 lX5_145 eX5_isBurnable rfl rfl (c_X5_isBurnable (d := d - 1) hl (by omega) (by assumption) (by first | omega | assumption)) (show d - 1 + 1 ≤ d from by omega) (Nat.le_of_ble_eq_true rfl) ?_
      refine I.if_eqB 47 dX5_behindHere_19 (by decide) (fun h19 => ?_) (fun h19 => ?_)
      · skip
        have eb1 : gGs (gCan f r e) (2 * i) b = b := gGs_n (p0.nb q1 (by omega) h19 _ (Or.inl rfl))
        refine J.aload_n 0 dX5_behindHere_47 rfl rfl ?_
        refine J.iload dX5_behindHere_48 rfl ?_
        refine I.callV1i (d' := d - 1) (mi' := mX5_isBurnable) dX5_behindHere_50 lX5_145 eX5_isBurnable rfl rfl (c_X5_isBurnable (d := d - 1) hl (by omega) (by assumption) (by first | omega | assumption)) (show d - 1 + 1 ≤ d from by omega) (Nat.le_of_ble_eq_true rfl) ?_
        refine I.if_eqB 81 dX5_behindHere_53 (by decide) (fun h53 => ?_) (fun h53 => ?_)
        · skip
          have eb : gGC (gCan f r e) i b = _ := (show _ = gGs (gCan f r e) (2 * i + 1) _ from congrArg _ eb1).trans (gGs_n (p0.nb q1 (by omega) h53 _ (Or.inr rfl)))
          refine I.iinc dX5_behindHere_81 rfl rfl ?_
          refine J.goto 7 dX5_behindHere_84 (by decide) ?_
          exact J.fgt (by exact ⟨Or.inr rfl, Or.inr rfl, Or.inr rfl, Or.inr rfl, Or.inr rfl, trivial⟩) (ih (by omega) (by omega) (by first | exact q2 | exact Or.inr bb.1 | exact Or.inr bb.2) (by rw [foldF_s, eb] at kx; exact kx))
        · skip
          have u1 := p0.upl q1 (by omega) h53
          have u2 := p0.upr q1 (by omega) h53
          have bb := p0.bn q1 (by omega) h53
          have g1 := gPt_rng p0.fl p0.fs bb.1.ok
          have g2 := gPt_rng p0.fl p0.fs bb.2.ok
          refine J.aload_n 0 dX5_behindHere_56 rfl rfl ?_
          refine J.iload dX5_behindHere_57 rfl ?_
          refine I.callV1i (d' := d - 1) (mi' := mX5_rightPoints) dX5_behindHere_59 lX5_154 eX5_rightPoints rfl rfl (c_X5_rightPoints (d := d - 1) hl (by omega) (by assumption) (by first | omega | assumption) (by first | omega | assumption)) (show d - 1 + 1 ≤ d from by omega) (Nat.le_of_ble_eq_true rfl) ?_
          refine J.iload_n 2 dX5_behindHere_62 rfl rfl ?_
          refine I.icmp_le 81 dX5_behindHere_63 (by decide) (by omega) (by omega) (fun h63 => ?_) (fun h63 => ?_)
          · skip
            have eb : gGC (gCan f r e) i b = _ := (show _ = gGs (gCan f r e) (2 * i + 1) _ from congrArg _ eb1).trans (gGs_k p0.fl p0.fs bb.2 (by first | exact q2 | exact Or.inr bb.1) h63)
            refine I.iinc dX5_behindHere_81 rfl rfl ?_
            refine J.goto 7 dX5_behindHere_84 (by decide) ?_
            exact J.fgt (by exact ⟨Or.inr rfl, Or.inr rfl, Or.inr rfl, Or.inr rfl, Or.inr rfl, trivial⟩) (ih (by omega) (by omega) (by first | exact q2 | exact Or.inr bb.1 | exact Or.inr bb.2) (by rw [foldF_s, eb] at kx; exact kx))
          · skip
            have eb : gGC (gCan f r e) i b = 2 * i + 1 := (show _ = gGs (gCan f r e) (2 * i + 1) _ from congrArg _ eb1).trans (gGs_y bb.2 h63)
            refine J.aload_n 0 dX5_behindHere_66 rfl rfl ?_
            refine J.iload dX5_behindHere_67 rfl ?_
            refine I.callV1i (d' := d - 1) (mi' := mX5_rightPoints) dX5_behindHere_69 lX5_154 eX5_rightPoints rfl rfl (c_X5_rightPoints (d := d - 1) hl (by omega) (by assumption) (by first | omega | assumption) (by first | omega | assumption)) (show d - 1 + 1 ≤ d from by omega) (Nat.le_of_ble_eq_true rfl) ?_
            refine I.sx (gMo_n (by omega)).symm ?_
            refine J.istore_n 2 dX5_behindHere_72 rfl (by decide) rfl ?_
            refine J.aload_n 0 dX5_behindHere_73 rfl rfl ?_
            refine J.iload_n 1 dX5_behindHere_74 rfl rfl ?_
            refine J.iload dX5_behindHere_75 rfl ?_
            refine I.callV2i (d' := d - 1) (mi' := mX5_afterRight) dX5_behindHere_77 lX5_157 eX5_afterRight rfl rfl (c_X5_afterRight (d := d - 1) hl (by omega) (by assumption) (by first | omega | assumption)) (show d - 1 + 1 ≤ d from by omega) (Nat.le_of_ble_eq_true rfl) ?_
            refine I.sx (show p - gWt f r i * (e (3 + i) + 1) = gAf f r e p (2 * i + 1) by rw [gAf_n (by omega), eZ_r]; omega) ?_
            refine J.istore_n 3 dX5_behindHere_80 rfl (by decide) rfl ?_
            refine I.iinc dX5_behindHere_81 rfl rfl ?_
            refine J.goto 7 dX5_behindHere_84 (by decide) ?_
            exact J.fgt (by exact ⟨Or.inr rfl, Or.inr rfl, Or.inr rfl, Or.inr rfl, Or.inr rfl, trivial⟩) (ih (by omega) (by omega) (by first | exact q2 | exact Or.inr bb.1 | exact Or.inr bb.2) (by rw [foldF_s, eb] at kx; exact kx))
      · skip
        have u1 := p0.upl q1 (by omega) h19
        have u2 := p0.upr q1 (by omega) h19
        have bb := p0.bn q1 (by omega) h19
        have g1 := gPt_rng p0.fl p0.fs bb.1.ok
        have g2 := gPt_rng p0.fl p0.fs bb.2.ok
        refine J.aload_n 0 dX5_behindHere_22 rfl rfl ?_
        refine J.iload dX5_behindHere_23 rfl ?_
        refine I.callV1i (d' := d - 1) (mi' := mX5_leftPoints) dX5_behindHere_25 lX5_148 eX5_leftPoints rfl rfl (c_X5_leftPoints (d := d - 1) hl (by omega) (by assumption) (by first | omega | assumption) (by first | omega | assumption)) (show d - 1 + 1 ≤ d from by omega) (Nat.le_of_ble_eq_true rfl) ?_
        refine J.iload_n 2 dX5_behindHere_28 rfl rfl ?_
        refine I.icmp_le 47 dX5_behindHere_29 (by decide) (by omega) (by omega) (fun h29 => ?_) (fun h29 => ?_)
        · skip
          have eb1 : gGs (gCan f r e) (2 * i) b = b := gGs_k p0.fl p0.fs bb.1 q2 h29
          refine J.aload_n 0 dX5_behindHere_47 rfl rfl ?_
          refine J.iload dX5_behindHere_48 rfl ?_
          refine I.callV1i (d' := d - 1) (mi' := mX5_isBurnable) dX5_behindHere_50 lX5_145 eX5_isBurnable rfl rfl (c_X5_isBurnable (d := d - 1) hl (by omega) (by assumption) (by first | omega | assumption)) (show d - 1 + 1 ≤ d from by omega) (Nat.le_of_ble_eq_true rfl) ?_
          refine I.if_eqB 81 dX5_behindHere_53 (by decide) (fun h53 => ?_) (fun h53 => ?_)
          · skip
            have eb : gGC (gCan f r e) i b = _ := (show _ = gGs (gCan f r e) (2 * i + 1) _ from congrArg _ eb1).trans (gGs_n (p0.nb q1 (by omega) h53 _ (Or.inr rfl)))
            refine I.iinc dX5_behindHere_81 rfl rfl ?_
            refine J.goto 7 dX5_behindHere_84 (by decide) ?_
            exact J.fgt (by exact ⟨Or.inr rfl, Or.inr rfl, Or.inr rfl, Or.inr rfl, Or.inr rfl, trivial⟩) (ih (by omega) (by omega) (by first | exact q2 | exact Or.inr bb.1 | exact Or.inr bb.2) (by rw [foldF_s, eb] at kx; exact kx))
          · skip
            have u1 := p0.upl q1 (by omega) h53
            have u2 := p0.upr q1 (by omega) h53
            have bb := p0.bn q1 (by omega) h53
            have g1 := gPt_rng p0.fl p0.fs bb.1.ok
            have g2 := gPt_rng p0.fl p0.fs bb.2.ok
            refine J.aload_n 0 dX5_behindHere_56 rfl rfl ?_
            refine J.iload dX5_behindHere_57 rfl ?_
            refine I.callV1i (d' := d - 1) (mi' := mX5_rightPoints) dX5_behindHere_59 lX5_154 eX5_rightPoints rfl rfl (c_X5_rightPoints (d := d - 1) hl (by omega) (by assumption) (by first | omega | assumption) (by first | omega | assumption)) (show d - 1 + 1 ≤ d from by omega) (Nat.le_of_ble_eq_true rfl) ?_
            refine J.iload_n 2 dX5_behindHere_62 rfl rfl ?_
            refine I.icmp_le 81 dX5_behindHere_63 (by decide) (by omega) (by omega) (fun h63 => ?_) (fun h63 => ?_)
            · skip
              have eb : gGC (gCan f r e) i b = _ := (show _ = gGs (gCan f r e) (2 * i + 1) _ from congrArg _ eb1).trans (gGs_k p0.fl p0.fs bb.2 (by first | exact q2 | exact Or.inr bb.1) h63)
              refine I.iinc dX5_behindHere_81 rfl rfl ?_
              refine J.goto 7 dX5_behindHere_84 (by decide) ?_
              exact J.fgt (by exact ⟨Or.inr rfl, Or.inr rfl, Or.inr rfl, Or.inr rfl, Or.inr rfl, trivial⟩) (ih (by omega) (by omega) (by first | exact q2 | exact Or.inr bb.1 | exact Or.inr bb.2) (by rw [foldF_s, eb] at kx; exact kx))
            · skip
              have eb : gGC (gCan f r e) i b = 2 * i + 1 := (show _ = gGs (gCan f r e) (2 * i + 1) _ from congrArg _ eb1).trans (gGs_y bb.2 h63)
              refine J.aload_n 0 dX5_behindHere_66 rfl rfl ?_
              refine J.iload dX5_behindHere_67 rfl ?_
              refine I.callV1i (d' := d - 1) (mi' := mX5_rightPoints) dX5_behindHere_69 lX5_154 eX5_rightPoints rfl rfl (c_X5_rightPoints (d := d - 1) hl (by omega) (by assumption) (by first | omega | assumption) (by first | omega | assumption)) (show d - 1 + 1 ≤ d from by omega) (Nat.le_of_ble_eq_true rfl) ?_
              refine I.sx (gMo_n (by omega)).symm ?_
              refine J.istore_n 2 dX5_behindHere_72 rfl (by decide) rfl ?_
              refine J.aload_n 0 dX5_behindHere_73 rfl rfl ?_
              refine J.iload_n 1 dX5_behindHere_74 rfl rfl ?_
              refine J.iload dX5_behindHere_75 rfl ?_
              refine I.callV2i (d' := d - 1) (mi' := mX5_afterRight) dX5_behindHere_77 lX5_157 eX5_afterRight rfl rfl (c_X5_afterRight (d := d - 1) hl (by omega) (by assumption) (by first | omega | assumption)) (show d - 1 + 1 ≤ d from by omega) (Nat.le_of_ble_eq_true rfl) ?_
              refine I.sx (show p - gWt f r i * (e (3 + i) + 1) = gAf f r e p (2 * i + 1) by rw [gAf_n (by omega), eZ_r]; omega) ?_
              refine J.istore_n 3 dX5_behindHere_80 rfl (by decide) rfl ?_
              refine I.iinc dX5_behindHere_81 rfl rfl ?_
              refine J.goto 7 dX5_behindHere_84 (by decide) ?_
              exact J.fgt (by exact ⟨Or.inr rfl, Or.inr rfl, Or.inr rfl, Or.inr rfl, Or.inr rfl, trivial⟩) (ih (by omega) (by omega) (by first | exact q2 | exact Or.inr bb.1 | exact Or.inr bb.2) (by rw [foldF_s, eb] at kx; exact kx))
        · skip
          have eb1 : gGs (gCan f r e) (2 * i) b = 2 * i := gGs_y bb.1 h29
          have mo2 := gMo_rng p0.fl p0.fs (Or.inr bb.1)
          refine J.aload_n 0 dX5_behindHere_32 rfl rfl ?_
          refine J.iload dX5_behindHere_33 rfl ?_
          refine I.callV1i (d' := d - 1) (mi' := mX5_leftPoints) dX5_behindHere_35 lX5_148 eX5_leftPoints rfl rfl (c_X5_leftPoints (d := d - 1) hl (by omega) (by assumption) (by first | omega | assumption) (by first | omega | assumption)) (show d - 1 + 1 ≤ d from by omega) (Nat.le_of_ble_eq_true rfl) ?_
          refine I.sx (gMo_n (by omega)).symm ?_
          refine J.istore_n 2 dX5_behindHere_38 rfl (by decide) rfl ?_
          refine J.aload_n 0 dX5_behindHere_39 rfl rfl ?_
          refine J.iload_n 1 dX5_behindHere_40 rfl rfl ?_
          refine J.iload dX5_behindHere_41 rfl ?_
          refine I.callV2i (d' := d - 1) (mi' := mX5_afterLeft) dX5_behindHere_43 lX5_151 eX5_afterLeft rfl rfl (c_X5_afterLeft (d := d - 1) hl (by omega) (by assumption) (by first | omega | assumption)) (show d - 1 + 1 ≤ d from by omega) (Nat.le_of_ble_eq_true rfl) ?_
          refine I.sx (show p - gWt f r i = gAf f r e p (2 * i) by rw [gAf_n (by omega), eZ_l]; omega) ?_
          refine J.istore_n 3 dX5_behindHere_46 rfl (by decide) rfl ?_
          refine J.aload_n 0 dX5_behindHere_47 rfl rfl ?_
          refine J.iload dX5_behindHere_48 rfl ?_
          refine I.callV1i (d' := d - 1) (mi' := mX5_isBurnable) dX5_behindHere_50 lX5_145 eX5_isBurnable rfl rfl (c_X5_isBurnable (d := d - 1) hl (by omega) (by assumption) (by first | omega | assumption)) (show d - 1 + 1 ≤ d from by omega) (Nat.le_of_ble_eq_true rfl) ?_
          refine I.if_eqB 81 dX5_behindHere_53 (by decide) (fun h53 => ?_) (fun h53 => ?_)
          · skip
            have eb : gGC (gCan f r e) i b = _ := (show _ = gGs (gCan f r e) (2 * i + 1) _ from congrArg _ eb1).trans (gGs_n (p0.nb q1 (by omega) h53 _ (Or.inr rfl)))
            refine I.iinc dX5_behindHere_81 rfl rfl ?_
            refine J.goto 7 dX5_behindHere_84 (by decide) ?_
            exact J.fgt (by exact ⟨Or.inr rfl, Or.inr rfl, Or.inr rfl, Or.inr rfl, Or.inr rfl, trivial⟩) (ih (by omega) (by omega) (by first | exact q2 | exact Or.inr bb.1 | exact Or.inr bb.2) (by rw [foldF_s, eb] at kx; exact kx))
          · skip
            have u1 := p0.upl q1 (by omega) h53
            have u2 := p0.upr q1 (by omega) h53
            have bb := p0.bn q1 (by omega) h53
            have g1 := gPt_rng p0.fl p0.fs bb.1.ok
            have g2 := gPt_rng p0.fl p0.fs bb.2.ok
            refine J.aload_n 0 dX5_behindHere_56 rfl rfl ?_
            refine J.iload dX5_behindHere_57 rfl ?_
            refine I.callV1i (d' := d - 1) (mi' := mX5_rightPoints) dX5_behindHere_59 lX5_154 eX5_rightPoints rfl rfl (c_X5_rightPoints (d := d - 1) hl (by omega) (by assumption) (by first | omega | assumption) (by first | omega | assumption)) (show d - 1 + 1 ≤ d from by omega) (Nat.le_of_ble_eq_true rfl) ?_
            refine J.iload_n 2 dX5_behindHere_62 rfl rfl ?_
            refine I.icmp_le 81 dX5_behindHere_63 (by decide) (by omega) (by omega) (fun h63 => ?_) (fun h63 => ?_)
            · skip
              have eb : gGC (gCan f r e) i b = _ := (show _ = gGs (gCan f r e) (2 * i + 1) _ from congrArg _ eb1).trans (gGs_k p0.fl p0.fs bb.2 (by first | exact q2 | exact Or.inr bb.1) h63)
              refine I.iinc dX5_behindHere_81 rfl rfl ?_
              refine J.goto 7 dX5_behindHere_84 (by decide) ?_
              exact J.fgt (by exact ⟨Or.inr rfl, Or.inr rfl, Or.inr rfl, Or.inr rfl, Or.inr rfl, trivial⟩) (ih (by omega) (by omega) (by first | exact q2 | exact Or.inr bb.1 | exact Or.inr bb.2) (by rw [foldF_s, eb] at kx; exact kx))
            · skip
              have eb : gGC (gCan f r e) i b = 2 * i + 1 := (show _ = gGs (gCan f r e) (2 * i + 1) _ from congrArg _ eb1).trans (gGs_y bb.2 h63)
              refine J.aload_n 0 dX5_behindHere_66 rfl rfl ?_
              refine J.iload dX5_behindHere_67 rfl ?_
              refine I.callV1i (d' := d - 1) (mi' := mX5_rightPoints) dX5_behindHere_69 lX5_154 eX5_rightPoints rfl rfl (c_X5_rightPoints (d := d - 1) hl (by omega) (by assumption) (by first | omega | assumption) (by first | omega | assumption)) (show d - 1 + 1 ≤ d from by omega) (Nat.le_of_ble_eq_true rfl) ?_
              refine I.sx (gMo_n (by omega)).symm ?_
              refine J.istore_n 2 dX5_behindHere_72 rfl (by decide) rfl ?_
              refine J.aload_n 0 dX5_behindHere_73 rfl rfl ?_
              refine J.iload_n 1 dX5_behindHere_74 rfl rfl ?_
              refine J.iload dX5_behindHere_75 rfl ?_
              refine I.callV2i (d' := d - 1) (mi' := mX5_afterRight) dX5_behindHere_77 lX5_157 eX5_afterRight rfl rfl (c_X5_afterRight (d := d - 1) hl (by omega) (by assumption) (by first | omega | assumption)) (show d - 1 + 1 ≤ d from by omega) (Nat.le_of_ble_eq_true rfl) ?_
              refine I.sx (show p - gWt f r i * (e (3 + i) + 1) = gAf f r e p (2 * i + 1) by rw [gAf_n (by omega), eZ_r]; omega) ?_
              refine J.istore_n 3 dX5_behindHere_80 rfl (by decide) rfl ?_
              refine I.iinc dX5_behindHere_81 rfl rfl ?_
              refine J.goto 7 dX5_behindHere_84 (by decide) ?_
              exact J.fgt (by exact ⟨Or.inr rfl, Or.inr rfl, Or.inr rfl, Or.inr rfl, Or.inr rfl, trivial⟩) (ih (by omega) (by omega) (by first | exact q2 | exact Or.inr bb.1 | exact Or.inr bb.2) (by rw [foldF_s, eb] at kx; exact kx))
set_option maxHeartbeats 1000000 in
theorem c_X5_behindHere {Γ : jE} (hl : Γ.1.stackTraces = false) {s : Nat → Int → Int} {ε : jEps} {d : Nat} {p : Int} {f e : Int → Int} {r : Int} (hd : 2 ≤ d) (p0 : WK s f r e) (p1 : p = gPl f r e) (p2 : TA s f r p) : Con Γ (d, 0, 0) mX5_behindHere [.ref 51, .int (iI p)] (jmem s ε) (RI (gBhf (gCan f r e)) (s) ε) X0 := by
  refine Con.ofJ (by decide +kernel) (by simp [Value.category]) (Nat.le_of_ble_eq_true rfl) ?_ hl
  refine I.iconst dX5_behindHere_0 ?_
  refine I.sx (show (-1 : Int) = gMo (gCan f r e) (-1) from gMo_0.symm) ?_
  refine J.istore_n 2 dX5_behindHere_1 rfl (by decide) rfl ?_
  refine J.iload_n 1 dX5_behindHere_2 rfl rfl ?_
  refine I.sx (show p = gAf f r e p (-1) from gAf_0.symm) ?_
  refine J.istore_n 3 dX5_behindHere_3 rfl (by decide) rfl ?_
  refine I.iconst dX5_behindHere_4 ?_
  refine J.istore dX5_behindHere_5 (by decide) rfl ?_
  refine J.fgt (by exact ⟨Or.inr rfl, Or.inr rfl, Or.inr rfl, Or.inr rfl, Or.inr rfl, trivial⟩) (k_X5_behindHere_7 hl (by omega) p0 p1 p2 (3) (by omega) (by omega) (Or.inl rfl) ?_)
  have hC := p0.C
  rw [p0.gr]
  have gs := gGr_short (g := (gCan f r e)) (by omega)
  have mr := gMo_rng p0.fl p0.fs (gs.imp (fun x => x.1) (fun x => x.1))
  refine J.iload_n 2 dX5_behindHere_87 rfl rfl ?_
  refine I.iconst dX5_behindHere_88 ?_
  refine I.icmp_ne 96 dX5_behindHere_89 (by decide) (by omega) (by omega) (fun h89 => ?_) (fun h89 => ?_)
  · skip
    have bz : gBn (gCan f r e) (gGr (gCan f r e)) ∧ ¬ gShort (gCan f r e) := by rcases gs with x | x; have := x.1; omega; exact x
    have rm := p0.rem bz.1
    have z0 := bz.1.1.1
    refine J.aload_n 0 dX5_behindHere_96 rfl rfl ?_
    skip
    refine I.getR dX5_behindHere_97 jcls fX5_34 rfl (by decide) rfl rfl ?_
    refine J.iload_n 3 dX5_behindHere_100 rfl rfl ?_
    refine I.callSN2i (d' := d - 1) (mi' := mX8_at) dX5_behindHere_101 nX5_94 eX8_at (c_X8_at (d := d - 1) hl (by omega) rfl (by first | omega | assumption) (by rw [gAf_n (by omega)]; omega)) (show d - 1 + 1 ≤ d from by omega) (Nat.le_of_ble_eq_true rfl) ?_
    refine J.iload_n 2 dX5_behindHere_104 rfl rfl ?_
    refine I.sub dX5_behindHere_105 ?_
    exact I.iretI dX5_behindHere_106 rfl (by rw [gAf_n (by omega), gMo_n (by omega), p2 _ rm.2.1 (by omega), ← rm.1, gBhf_n p0.fl p0.fs bz.2]) rfl
  · skip
    have sh : gShort (gCan f r e) := by rcases gs with x | x; exact x.2; have := x.1.1.1; omega
    refine I.iconst dX5_behindHere_92 ?_
    refine J.goto 106 dX5_behindHere_93 (by decide) ?_
    exact I.iretI dX5_behindHere_106 rfl (gBhf_o sh).symm rfl
