set_option maxHeartbeats 1000000 in
theorem k_X5_solveOptimal_19 {Γ : jE} (hl : Γ.1.stackTraces = false) {s : Nat → Int → Int} {ε : jEps} {d : Nat} {f : Int → Int} (hd : 4 ≤ d) (p0 : RM s 21 f) (p1 : SO s f) {mc ms : Nat} {P : Option Value → jM → Prop} {X : String → jM → Prop} : ∀ (k : Nat) {y z : Nat → Int → Int} {i : Int} (q0 : ((k : Nat) : Int) = gPn f (f 1) - i) (q1 : 0 ≤ i) (qo : SO y f) (qr : y 51 10 = f 1) (q2 : ∀ q j, q ≠ 57 → q ≠ 58 → z q j = y q j) (q3 : TO z f (f 1) i) (q4 : i < gPn f (f 1) → ∃ e, WK z f (f 1) e ∧ gPl f (f 1) e = i) (kx : ∀ s', ((∀ q j, q ≠ 57 → q ≠ 58 → s' q j = y q j) ∧ TO s' f (f 1) (gPn f (f 1))) → J Γ (d, mc, ms) mX5_solveOptimal 50 [some (.ref 51), some (.ref 21), none] [] (jmem s' ε) P X), J Γ (d, mc, ms) mX5_solveOptimal 19 [some (.ref 51), some (.ref 21), some (.int (iI (i)))] [] (jmem z ε) P X := by
  have hp := gPn_rng p0.l p0.v.cur
  intro k
  induction k with
  | zero =>
    intro y z i q0 q1 qo qr q2 q3 q4 kx
    refine J.iload_n 2 dX5_solveOptimal_19 rfl rfl ?_
    refine J.aload_n 0 dX5_solveOptimal_20 rfl rfl ?_
    refine I.gI 9 rfl dX5_solveOptimal_21 jcls fX5_55 rfl (by decide) rfl ?_
    refine I.sx (show _ = gPn f (f 1) by rw [q2 _ _ (by decide) (by decide)]; exact (qo.at p0.l p0.v qr).1.2.2.2) ?_
    refine I.icmp_ge 50 dX5_solveOptimal_24 (by decide) (by omega) (by omega) (fun h24 => ?_) (fun h24 => ?_)
    · skip
      exact J.fgt (by exact ⟨Or.inr rfl, Or.inr rfl, Or.inl rfl, trivial⟩) (kx _ ⟨q2, by rw [show i = gPn f (f 1) by omega] at q3; exact q3⟩)
    · exact absurd h24 (by omega)
  | succ k ih =>
    intro y z i q0 q1 qo qr q2 q3 q4 kx
    refine J.iload_n 2 dX5_solveOptimal_19 rfl rfl ?_
    refine J.aload_n 0 dX5_solveOptimal_20 rfl rfl ?_
    refine I.gI 9 rfl dX5_solveOptimal_21 jcls fX5_55 rfl (by decide) rfl ?_
    refine I.sx (show _ = gPn f (f 1) by rw [q2 _ _ (by decide) (by decide)]; exact (qo.at p0.l p0.v qr).1.2.2.2) ?_
    refine I.icmp_ge 50 dX5_solveOptimal_24 (by decide) (by omega) (by omega) (fun h24 => ?_) (fun h24 => ?_)
    · exact absurd h24 (by omega)
    · skip
      obtain ⟨e, wk, pe⟩ := q4 (by omega)
      refine J.aload_n 0 dX5_solveOptimal_27 rfl rfl ?_
      refine I.getR dX5_solveOptimal_28 jcls fX5_31 rfl (by decide) rfl rfl ?_
      refine J.iload_n 2 dX5_solveOptimal_31 rfl rfl ?_
      refine J.aload_n 0 dX5_solveOptimal_32 rfl rfl ?_
      refine J.iload_n 2 dX5_solveOptimal_33 rfl rfl ?_
      refine I.callV1i (d' := d - 1) (mi' := mX5_optimalHere) dX5_solveOptimal_34 lX5_58 eX5_optimalHere rfl rfl (c_X5_optimalHere (d := d - 1) hl (by omega) wk pe.symm q3) (show d - 1 + 1 ≤ d from by omega) (Nat.le_of_ble_eq_true rfl) ?_
      refine I.callSN3v (d' := d - 1) (mi' := mX8_put) dX5_solveOptimal_37 nX5_62 eX8_put (c_X8_put (d := d - 1) hl (by omega) rfl (by first | omega | assumption) (by first | omega | assumption)) (show d - 1 + 1 ≤ d from by omega) (Nat.le_of_ble_eq_true rfl) ?_
      refine J.aload_n 0 dX5_solveOptimal_40 rfl rfl ?_
      refine I.callV0w (d' := d - 1) (mi' := mX5_stepWalk) dX5_solveOptimal_41 lX5_66 eX5_stepWalk rfl rfl (c_X5_stepWalk (d := d - 1) hl (by omega) (wk.keep fun q j h => up_ne (by omega))) (show d - 1 + 1 ≤ d from by omega) (Nat.le_of_ble_eq_true rfl) ?_
      rintro s41 h41
      refine I.iinc dX5_solveOptimal_44 rfl rfl ?_
      refine J.goto 19 dX5_solveOptimal_47 (by decide) ?_
      exact J.fgt (by exact ⟨Or.inr rfl, Or.inr rfl, Or.inr rfl, trivial⟩) (ih (by omega) (by omega) qo qr (fun q j a b => by rw [h41.1 q j a, up_ne (by omega)]; exact q2 q j a b) (q3.step wk pe fun j => h41.1 _ _ (by decide)) (fun h => by obtain ⟨e', x, y'⟩ := h41.2 (by omega); exact ⟨e', x, by omega⟩) kx)
set_option maxHeartbeats 1000000 in
theorem c_X5_solveOptimal {Γ : jE} (hl : Γ.1.stackTraces = false) {s : Nat → Int → Int} {ε : jEps} {d : Nat} {f : Int → Int} (hd : 4 ≤ d) (p0 : RM s 21 f) (p1 : SO s f) : Con Γ (d, 0, 0) mX5_solveOptimal [.ref 51, .ref 21] (jmem s ε) (RW (fun s' => (SO s' f ∧ s' 51 10 = f 1 ∧ s' 51 11 = 1) ∧ ∀ q j, (q < 51 ∨ 60 < q) → s' q j = s q j) ε) X0 := by
  refine Con.ofJ (by decide +kernel) (by simp [Value.category]) (Nat.le_of_ble_eq_true rfl) ?_ hl
  have hp := gPn_rng p0.l p0.v.cur
  refine J.aload_n 0 dX5_solveOptimal_0 rfl rfl ?_
  refine J.aload_n 1 dX5_solveOptimal_1 rfl rfl ?_
  refine I.callV1w (d' := d - 1) (mi' := mX5_shape) dX5_solveOptimal_2 lX5_44 eX5_shape rfl rfl (c_X5_shape (d := d - 1) hl (by omega) (by assumption) (by assumption)) (show d - 1 + 1 ≤ d from by omega) (Nat.le_of_ble_eq_true rfl) ?_
  rintro s2 ⟨⟨o2, r2⟩, w2⟩
  refine J.aload_n 0 dX5_solveOptimal_5 rfl rfl ?_
  refine I.gI 11 rfl dX5_solveOptimal_6 jcls fX5_48 rfl (by decide) rfl ?_
  refine I.if_eq 13 dX5_solveOptimal_9 (by decide) (by have := o2.2.1; omega) (fun h9 => ?_) (fun h9 => ?_)
  · skip
    refine J.aload_n 0 dX5_solveOptimal_13 rfl rfl ?_
    refine I.callV0w (d' := d - 1) (mi' := mX5_startWalk) dX5_solveOptimal_14 lX5_52 eX5_startWalk rfl rfl (c_X5_startWalk (d := d - 1) hl (by omega) ) (show d - 1 + 1 ≤ d from by omega) (Nat.le_of_ble_eq_true rfl) ?_
    rintro s14 ⟨u14, v14⟩
    have at2 := o2.at p0.l p0.v r2
    have wz := WK.zero p0.l p0.v.cur (s := s14) (fun lo hi a b c => by rw [u14 _ _ (by decide), u14 _ _ (by decide)]; exact o2.1 lo hi a b c) (at2.1.keep fun q j h => u14 q j (by omega)) v14
    refine I.iconst dX5_solveOptimal_17 ?_
    refine J.istore_n 2 dX5_solveOptimal_18 rfl (by decide) rfl ?_
    refine J.fgt (by exact ⟨Or.inr rfl, Or.inr rfl, Or.inr rfl, trivial⟩) (k_X5_solveOptimal_19 hl (by omega) p0 p1 ((gPn f (f 1)).toNat) (by omega) (by omega) o2 r2 (fun q j a b => by rw [u14 q j a]) (fun e ev x => by have := gPl_rng p0.l p0.v.cur ev; omega) (fun _ => ⟨_, wz.1, wz.2⟩) ?_)
    rintro s19 h19
    refine J.aload_n 0 dX5_solveOptimal_50 rfl rfl ?_
    refine I.iconst dX5_solveOptimal_51 ?_
    refine I.pZ 11 rfl dX5_solveOptimal_52 jcls fX5_48 rfl (by decide) rfl (by first | exact Or.inl rfl | exact Or.inr rfl | exact bI_01 _ | omega) ?_
    exact I.vretQ dX5_solveOptimal_55 rfl ⟨o2.opt p0.l p0.v r2 h19.1 h19.2, fun q j h => by rw [up_ne (by omega), h19.1 q j (by omega) (by omega)]; exact w2 q j (by omega)⟩
  · skip
    exact I.vretQ dX5_solveOptimal_12 rfl ⟨⟨o2, r2, by have := o2.2.1; omega⟩, fun q j h => w2 q j (by omega)⟩
set_option maxHeartbeats 1000000 in
theorem k_X5_solveGreedy_19 {Γ : jE} (hl : Γ.1.stackTraces = false) {s : Nat → Int → Int} {ε : jEps} {d : Nat} {f : Int → Int} (hd : 3 ≤ d) (p0 : RM s 21 f) (p1 : SO s f) {mc ms : Nat} {P : Option Value → jM → Prop} {X : String → jM → Prop} : ∀ (k : Nat) {y z : Nat → Int → Int} {i : Int} (q0 : ((k : Nat) : Int) = gPn f (f 1) - i) (q1 : 0 ≤ i) (qo : SO y f) (qr : y 51 10 = f 1) (q2 : ∀ q j, q ≠ 57 → q ≠ 59 → q ≠ 60 → z q j = y q j) (q3 : TA z f (f 1) i ∧ TB z f (f 1) i) (q4 : i < gPn f (f 1) → ∃ e, WK z f (f 1) e ∧ gPl f (f 1) e = i) (kx : ∀ s', ((∀ q j, q ≠ 57 → q ≠ 59 → q ≠ 60 → s' q j = y q j) ∧ TA s' f (f 1) (gPn f (f 1)) ∧ TB s' f (f 1) (gPn f (f 1))) → J Γ (d, mc, ms) mX5_solveGreedy 66 [some (.ref 51), some (.ref 21), none, none] [] (jmem s' ε) P X), J Γ (d, mc, ms) mX5_solveGreedy 19 [some (.ref 51), some (.ref 21), some (.int (iI (i))), none] [] (jmem z ε) P X := by
  have hp := gPn_rng p0.l p0.v.cur
  intro k
  induction k with
  | zero =>
    intro y z i q0 q1 qo qr q2 q3 q4 kx
    refine J.iload_n 2 dX5_solveGreedy_19 rfl rfl ?_
    refine J.aload_n 0 dX5_solveGreedy_20 rfl rfl ?_
    refine I.gI 9 rfl dX5_solveGreedy_21 jcls fX5_55 rfl (by decide) rfl ?_
    refine I.sx (show _ = gPn f (f 1) by rw [q2 _ _ (by decide) (by decide) (by decide)]; exact (qo.at p0.l p0.v qr).1.2.2.2) ?_
    refine I.icmp_ge 66 dX5_solveGreedy_24 (by decide) (by omega) (by omega) (fun h24 => ?_) (fun h24 => ?_)
    · skip
      exact J.fgt (by exact ⟨Or.inr rfl, Or.inr rfl, Or.inl rfl, Or.inl rfl, trivial⟩) (kx _ ⟨q2, by rw [show i = gPn f (f 1) by omega] at q3; exact q3⟩)
    · exact absurd h24 (by omega)
  | succ k ih =>
    intro y z i q0 q1 qo qr q2 q3 q4 kx
    refine J.iload_n 2 dX5_solveGreedy_19 rfl rfl ?_
    refine J.aload_n 0 dX5_solveGreedy_20 rfl rfl ?_
    refine I.gI 9 rfl dX5_solveGreedy_21 jcls fX5_55 rfl (by decide) rfl ?_
    refine I.sx (show _ = gPn f (f 1) by rw [q2 _ _ (by decide) (by decide) (by decide)]; exact (qo.at p0.l p0.v qr).1.2.2.2) ?_
    refine I.icmp_ge 66 dX5_solveGreedy_24 (by decide) (by omega) (by omega) (fun h24 => ?_) (fun h24 => ?_)
    · exact absurd h24 (by omega)
    · skip
      obtain ⟨e, wk, pe⟩ := q4 (by omega)
      have br := gBhf_rng wk.fl wk.fs
      refine J.aload_n 0 dX5_solveGreedy_27 rfl rfl ?_
      refine J.iload_n 2 dX5_solveGreedy_28 rfl rfl ?_
      refine I.callV1i (d' := d - 1) (mi' := mX5_behindHere) dX5_solveGreedy_29 lX5_72 eX5_behindHere rfl rfl (c_X5_behindHere (d := d - 1) hl (by omega) wk pe.symm q3.1) (show d - 1 + 1 ≤ d from by omega) (Nat.le_of_ble_eq_true rfl) ?_
      refine J.istore_n 3 dX5_solveGreedy_32 rfl (by decide) rfl ?_
      refine J.aload_n 0 dX5_solveGreedy_33 rfl rfl ?_
      refine I.getR dX5_solveGreedy_34 jcls fX5_37 rfl (by decide) rfl rfl ?_
      refine J.iload_n 2 dX5_solveGreedy_37 rfl rfl ?_
      refine J.iload_n 3 dX5_solveGreedy_38 rfl rfl ?_
      refine I.callSN3v (d' := d - 1) (mi' := mX8_put) dX5_solveGreedy_39 nX5_62 eX8_put (c_X8_put (d := d - 1) hl (by omega) rfl (by first | omega | assumption) (by first | omega | assumption)) (show d - 1 + 1 ≤ d from by omega) (Nat.le_of_ble_eq_true rfl) ?_
      refine J.aload_n 0 dX5_solveGreedy_42 rfl rfl ?_
      refine I.getR dX5_solveGreedy_43 jcls fX5_34 rfl (by decide) rfl rfl ?_
      refine J.iload_n 2 dX5_solveGreedy_46 rfl rfl ?_
      refine J.aload_n 0 dX5_solveGreedy_47 rfl rfl ?_
      refine J.iload_n 2 dX5_solveGreedy_48 rfl rfl ?_
      refine J.iload_n 3 dX5_solveGreedy_49 rfl rfl ?_
      refine I.callV2i (d' := d - 1) (mi' := mX5_aheadHere) dX5_solveGreedy_50 lX5_75 eX5_aheadHere rfl rfl (c_X5_aheadHere (d := d - 1) hl (by omega) (wk.keep fun q j h => up_ne (by omega)) pe.symm q3.2.lt (by omega)) (show d - 1 + 1 ≤ d from by omega) (Nat.le_of_ble_eq_true rfl) ?_
      refine I.sx wk.ag0 ?_
      refine I.callSN3v (d' := d - 1) (mi' := mX8_put) dX5_solveGreedy_53 nX5_62 eX8_put (c_X8_put (d := d - 1) hl (by omega) rfl (by first | omega | assumption) (by first | omega | assumption)) (show d - 1 + 1 ≤ d from by omega) (Nat.le_of_ble_eq_true rfl) ?_
      refine J.aload_n 0 dX5_solveGreedy_56 rfl rfl ?_
      refine I.callV0w (d' := d - 1) (mi' := mX5_stepWalk) dX5_solveGreedy_57 lX5_66 eX5_stepWalk rfl rfl (c_X5_stepWalk (d := d - 1) hl (by omega) (wk.keep fun q j h => by rw [up_ne (by omega), up_ne (by omega)])) (show d - 1 + 1 ≤ d from by omega) (Nat.le_of_ble_eq_true rfl) ?_
      rintro s57 h57
      refine I.iinc dX5_solveGreedy_60 rfl rfl ?_
      refine J.goto 19 dX5_solveGreedy_63 (by decide) ?_
      exact J.fgt (by exact ⟨Or.inr rfl, Or.inr rfl, Or.inr rfl, Or.inl rfl, trivial⟩) (ih (by omega) (by omega) qo qr (fun q j a b c => by rw [h57.1 q j a, up_ne (by omega), up_ne (by omega)]; exact q2 q j a b c) ⟨q3.1.step wk pe fun j => by rw [h57.1 _ _ (by decide)]; by_cases h : j = i; rw [up_eqq ⟨rfl, h⟩, up_eqq ⟨rfl, h⟩]; rw [up_ne (Or.inr h), up_ne (Or.inr h), up_ne (Or.inr h)], q3.2.step wk pe fun j => by rw [h57.1 _ _ (by decide), up_ne (Or.inl (by decide))]⟩ (fun h => by obtain ⟨e', x, y'⟩ := h57.2 (by omega); exact ⟨e', x, by omega⟩) kx)
set_option maxHeartbeats 1000000 in
theorem c_X5_solveGreedy {Γ : jE} (hl : Γ.1.stackTraces = false) {s : Nat → Int → Int} {ε : jEps} {d : Nat} {f : Int → Int} (hd : 3 ≤ d) (p0 : RM s 21 f) (p1 : SO s f) : Con Γ (d, 0, 0) mX5_solveGreedy [.ref 51, .ref 21] (jmem s ε) (RW (fun s' => (SO s' f ∧ s' 51 10 = f 1 ∧ s' 51 12 = 1) ∧ ∀ q j, (q < 51 ∨ 60 < q) → s' q j = s q j) ε) X0 := by
  refine Con.ofJ (by decide +kernel) (by simp [Value.category]) (Nat.le_of_ble_eq_true rfl) ?_ hl
  have hp := gPn_rng p0.l p0.v.cur
  refine J.aload_n 0 dX5_solveGreedy_0 rfl rfl ?_
  refine J.aload_n 1 dX5_solveGreedy_1 rfl rfl ?_
  refine I.callV1w (d' := d - 1) (mi' := mX5_shape) dX5_solveGreedy_2 lX5_44 eX5_shape rfl rfl (c_X5_shape (d := d - 1) hl (by omega) (by assumption) (by assumption)) (show d - 1 + 1 ≤ d from by omega) (Nat.le_of_ble_eq_true rfl) ?_
  rintro s2 ⟨⟨o2, r2⟩, w2⟩
  refine J.aload_n 0 dX5_solveGreedy_5 rfl rfl ?_
  refine I.gI 12 rfl dX5_solveGreedy_6 jcls fX5_69 rfl (by decide) rfl ?_
  refine I.if_eq 13 dX5_solveGreedy_9 (by decide) (by have := o2.2.2.1; omega) (fun h9 => ?_) (fun h9 => ?_)
  · skip
    refine J.aload_n 0 dX5_solveGreedy_13 rfl rfl ?_
    refine I.callV0w (d' := d - 1) (mi' := mX5_startWalk) dX5_solveGreedy_14 lX5_52 eX5_startWalk rfl rfl (c_X5_startWalk (d := d - 1) hl (by omega) ) (show d - 1 + 1 ≤ d from by omega) (Nat.le_of_ble_eq_true rfl) ?_
    rintro s14 ⟨u14, v14⟩
    have at2 := o2.at p0.l p0.v r2
    have wz := WK.zero p0.l p0.v.cur (s := s14) (fun lo hi a b c => by rw [u14 _ _ (by decide), u14 _ _ (by decide)]; exact o2.1 lo hi a b c) (at2.1.keep fun q j h => u14 q j (by omega)) v14
    refine I.iconst dX5_solveGreedy_17 ?_
    refine J.istore_n 2 dX5_solveGreedy_18 rfl (by decide) rfl ?_
    refine J.fgt (by exact ⟨Or.inr rfl, Or.inr rfl, Or.inr rfl, Or.inl rfl, trivial⟩) (k_X5_solveGreedy_19 hl (by omega) p0 p1 ((gPn f (f 1)).toNat) (by omega) (by omega) o2 r2 (fun q j a b c => by rw [u14 q j a]) ⟨fun e ev x => by have := gPl_rng p0.l p0.v.cur ev; omega, fun e ev x => by have := gPl_rng p0.l p0.v.cur ev; omega⟩ (fun _ => ⟨_, wz.1, wz.2⟩) ?_)
    rintro s19 h19
    refine J.aload_n 0 dX5_solveGreedy_66 rfl rfl ?_
    refine I.iconst dX5_solveGreedy_67 ?_
    refine I.pZ 12 rfl dX5_solveGreedy_68 jcls fX5_69 rfl (by decide) rfl (by first | exact Or.inl rfl | exact Or.inr rfl | exact bI_01 _ | omega) ?_
    exact I.vretQ dX5_solveGreedy_71 rfl ⟨o2.gre p0.l p0.v r2 h19.1 h19.2.1 h19.2.2, fun q j h => by rw [up_ne (by omega), h19.1 q j (by omega) (by omega) (by omega)]; exact w2 q j (by omega)⟩
  · skip
    exact I.vretQ dX5_solveGreedy_12 rfl ⟨⟨o2, r2, by have := o2.2.2.1; omega⟩, fun q j h => w2 q j (by omega)⟩
set_option maxHeartbeats 1000000 in
theorem c_X5_optimalOf {Γ : jE} (hl : Γ.1.stackTraces = false) {s : Nat → Int → Int} {ε : jEps} {d : Nat} {f : Int → Int} (hd : 2 ≤ d) (p0 : RM s 21 f) (p1 : SO s f) (p2 : s 51 10 = f 1) (p3 : s 51 11 = 1) : Con Γ (d, 0, 0) mX5_optimalOf [.ref 51, .ref 21] (jmem s ε) (RQ (fun w s' => gNow f = w ∧ ∀ q j, q ≠ 57 → s' q j = s q j) ε) X0 := by
  refine Con.ofJ (by decide +kernel) (by simp [Value.category]) (Nat.le_of_ble_eq_true rfl) ?_ hl
  have hw := RM.w p0
  have at1 := p1.at p0.l p0.v p2
  have ev := eOf_EV p0.l p0.v
  have pr := gPl_rng p0.l p0.v.cur ev
  have pn := gPn_rng p0.l p0.v.cur
  have to := at1.2.1 p3
  have tv := to.val p0.l p0.v
  have wr := gWf_rng p0.l p0.v
  refine J.aload_n 1 dX5_optimalOf_0 rfl rfl ?_
  refine I.getR dX5_optimalOf_1 jcls fX5_79 rfl (by decide) rfl rfl ?_
  refine I.gI 4 rfl dX5_optimalOf_4 jcls fX5_85 rfl (by decide) rfl ?_
  refine I.sx (RM.over p0) ?_
  refine I.if_eqB 14 dX5_optimalOf_7 (by decide) (fun h7 => ?_) (fun h7 => ?_)
  · skip
    refine J.aload_n 0 dX5_optimalOf_14 rfl rfl ?_
    refine I.getR dX5_optimalOf_15 jcls fX5_31 rfl (by decide) rfl rfl ?_
    refine J.aload_n 0 dX5_optimalOf_18 rfl rfl ?_
    refine J.aload_n 1 dX5_optimalOf_19 rfl rfl ?_
    refine I.callV1q (d' := d - 1) (mi' := mX5_placeAt) dX5_optimalOf_20 lX5_90 eX5_placeAt rfl rfl (c_X5_placeAt (d := d - 1) hl (by omega) jm21 (by assumption) p1.1 at1.1) (show d - 1 + 1 ≤ d from by omega) (Nat.le_of_ble_eq_true rfl) ?_
    rintro _ s20 ⟨rfl, k20, w20⟩
    refine I.callSN2i (d' := d - 1) (mi' := mX8_at) dX5_optimalOf_23 nX5_94 eX8_at (c_X8_at (d := d - 1) hl (by omega) rfl (by first | omega | assumption) (by first | omega | assumption)) (show d - 1 + 1 ≤ d from by omega) (Nat.le_of_ble_eq_true rfl) ?_
    refine I.sx ((w20 _ _ (by decide)).trans tv) ?_
    exact I.iretQ dX5_optimalOf_26 rfl ⟨gNow_n h7, w20⟩
  · skip
    refine I.iconst dX5_optimalOf_10 ?_
    refine J.goto 26 dX5_optimalOf_11 (by decide) ?_
    exact I.iretQ dX5_optimalOf_26 rfl ⟨gNow_o h7, fun _ _ _ => rfl⟩
set_option maxHeartbeats 1000000 in
theorem c_X5_valueOf {Γ : jE} (hl : Γ.1.stackTraces = false) {s : Nat → Int → Int} {ε : jEps} {d : Nat} {m : Nat} {z : Int} {f : Int → Int} (hd : 3 ≤ d) (hm : jIsM m) (p0 : RM s m f) (p1 : SO s f) (p2 : s 51 10 = f 1) (p3 : s 51 11 = 1) (p4 : gLegal f z) (p5 : ¬ gOver f) : Con Γ (d, 0, 0) mX5_valueOf [.ref 51, .ref m, .int (iI z)] (jmem s ε) (RQ (fun w s' => gVal f z = w ∧ ∀ q j, q ≠ 57 → s' q j = s q j) ε) X0 := by
  refine Con.ofJ (by decide +kernel) (by simp [Value.category]) (Nat.le_of_ble_eq_true rfl) ?_ hl
  have hw := RM.w p0
  have at1 := p1.at p0.l p0.v p2
  have ev := eOf_EV p0.l p0.v
  have pr := gPl_rng p0.l p0.v.cur ev
  have pn := gPn_rng p0.l p0.v.cur
  have to := at1.2.1 p3
  have tv := to.val p0.l p0.v
  have wr := gWf_rng p0.l p0.v
  have z6 := gLegal_rng hw.2.2.1 p4.ok
  have hm2 : m = 3 ∨ m = 21 ∨ m = 36 := hm
  refine J.aload_n 0 dX5_valueOf_0 rfl rfl ?_
  refine J.aload_n 1 dX5_valueOf_1 rfl rfl ?_
  refine I.callV1q (d' := d - 1) (mi' := mX5_placeAt) dX5_valueOf_2 lX5_90 eX5_placeAt rfl rfl (c_X5_placeAt (d := d - 1) hl (by omega) hm (by assumption) p1.1 at1.1) (show d - 1 + 1 ≤ d from by omega) (Nat.le_of_ble_eq_true rfl) ?_
  rintro _ s2 ⟨rfl, k2, w2⟩
  refine J.istore_n 3 dX5_valueOf_5 rfl (by decide) rfl ?_
  refine J.iload_n 2 dX5_valueOf_6 rfl rfl ?_
  refine I.bipush dX5_valueOf_7 (by decide) ?_
  refine I.icmp_ne 36 dX5_valueOf_9 (by decide) (by omega) (by omega) (fun h9 => ?_) (fun h9 => ?_)
  · skip
    have b := p4.bn h9
    have b0 := b.1.1
    have to2 : TO s2 f (f 1) (gPn f (f 1)) := to.keep fun j => w2 _ _ (by decide)
    refine J.iload_n 2 dX5_valueOf_36 rfl rfl ?_
    refine I.callSN1i (d' := d - 1) (mi' := mX8_chainOfCode) dX5_valueOf_37 nX5_110 eX8_chainOfCode (c_X8_chainOfCode (d := d - 1) hl (by omega) (by first | omega | assumption)) (show d - 1 + 1 ≤ d from by omega) (Nat.le_of_ble_eq_true rfl) ?_
    refine I.sx (if_neg h9) ?_
    refine J.istore dX5_valueOf_40 (by decide) rfl ?_
    refine J.iload_n 2 dX5_valueOf_42 rfl rfl ?_
    refine I.callSN1i (d' := d - 1) (mi' := mX8_isLeftCode) dX5_valueOf_43 nX5_113 eX8_isLeftCode (c_X8_isLeftCode (d := d - 1) hl (by omega) (by first | omega | assumption)) (show d - 1 + 1 ≤ d from by omega) (Nat.le_of_ble_eq_true rfl) ?_
    refine I.if_eqB 59 dX5_valueOf_46 (by decide) (fun h46 => ?_) (fun h46 => ?_)
    · skip
      have vr := val_right to2 p0.l p0.v b h46
      refine J.aload_n 0 dX5_valueOf_59 rfl rfl ?_
      refine J.iload_n 3 dX5_valueOf_60 rfl rfl ?_
      refine J.iload dX5_valueOf_61 rfl ?_
      refine I.callV2i (d' := d - 1) (mi' := mX5_rightValue) dX5_valueOf_63 lX5_120 eX5_rightValue rfl rfl (c_X5_rightValue (d := d - 1) hl (by omega) k2 (by omega) vr.1 rfl) (show d - 1 + 1 ≤ d from by omega) (Nat.le_of_ble_eq_true rfl) ?_
      exact I.iretQ dX5_valueOf_66 rfl ⟨(gVal_b h9).trans vr.2.symm, w2⟩
    · skip
      have vl := val_left to2 p0.l p0.v b h46
      refine J.aload_n 0 dX5_valueOf_49 rfl rfl ?_
      refine J.iload_n 3 dX5_valueOf_50 rfl rfl ?_
      refine J.iload dX5_valueOf_51 rfl ?_
      refine I.callV2i (d' := d - 1) (mi' := mX5_leftValue) dX5_valueOf_53 lX5_117 eX5_leftValue rfl rfl (c_X5_leftValue (d := d - 1) hl (by omega) k2 (by omega) vl.1 rfl) (show d - 1 + 1 ≤ d from by omega) (Nat.le_of_ble_eq_true rfl) ?_
      refine J.goto 66 dX5_valueOf_56 (by decide) ?_
      exact I.iretQ dX5_valueOf_66 rfl ⟨(gVal_b h9).trans vl.2.symm, w2⟩
  · skip
    have e6 : z = 6 := by omega
    subst e6
    refine J.aload_n 1 dX5_valueOf_12 rfl rfl ?_
    refine I.getR dX5_valueOf_13 jcls fX5_79 (shM hm) (by decide) rfl (taM1 hm) ?_
    refine I.gI 3 rfl dX5_valueOf_16 jcls fX5_107 (shS hm) (by decide) rfl ?_
    refine I.sx ((w2 _ _ (by omega)).trans (RM.passesInARow p0)) ?_
    refine I.if_le 26 dX5_valueOf_19 (by decide) (by omega) (fun h19 => ?_) (fun h19 => ?_)
    · skip
      refine J.aload_n 0 dX5_valueOf_26 rfl rfl ?_
      refine I.getR dX5_valueOf_27 jcls fX5_31 rfl (by decide) rfl rfl ?_
      refine J.iload_n 3 dX5_valueOf_30 rfl rfl ?_
      refine I.callSN2i (d' := d - 1) (mi' := mX8_at) dX5_valueOf_31 nX5_94 eX8_at (c_X8_at (d := d - 1) hl (by omega) rfl (by first | omega | assumption) (by first | omega | assumption)) (show d - 1 + 1 ≤ d from by omega) (Nat.le_of_ble_eq_true rfl) ?_
      refine I.sx ((w2 _ _ (by decide)).trans tv) ?_
      refine I.neg dX5_valueOf_34 ?_
      exact I.iretQ dX5_valueOf_35 rfl ⟨gVal_p0 (by omega), w2⟩
    · skip
      have f4 : f 4 = 1 := by have : ¬ f 4 = 2 := fun g => p5 (Or.inl g); omega
      refine I.iconst dX5_valueOf_22 ?_
      refine J.goto 35 dX5_valueOf_23 (by decide) ?_
      exact I.iretQ dX5_valueOf_35 rfl ⟨gVal_p1 f4, w2⟩
set_option maxHeartbeats 1000000 in
theorem c_X5_optimalOfChain {Γ : jE} (hl : Γ.1.stackTraces = false) {s : Nat → Int → Int} {ε : jEps} {d : Nat} {c : Int} {f : Int → Int} (hd : 1 ≤ d) (p0 : RM s 21 f) (p1 : SO s f) (p2 : s 51 10 = f 1) (p3 : s 51 11 = 1) (p4 : 0 ≤ c ∧ c < f (18 + f 1)) : Con Γ (d, 0, 0) mX5_optimalOfChain [.ref 51, .ref 21, .int (iI c)] (jmem s ε) (RQ (fun w s' => gWf (gOnly f c (f (18 + f 1))) = w ∧ ∀ q j, q ≠ 57 → s' q j = s q j) ε) X0 := by
  refine Con.ofJ (by decide +kernel) (by simp [Value.category]) (Nat.le_of_ble_eq_true rfl) ?_ hl
  have hw := RM.w p0
  have at1 := p1.at p0.l p0.v p2
  have ev := eOf_EV p0.l p0.v
  have pr := gPl_rng p0.l p0.v.cur ev
  have pn := gPn_rng p0.l p0.v.cur
  have to := at1.2.1 p3
  have tv := to.val p0.l p0.v
  have wr := gWf_rng p0.l p0.v
  have e := RM.e p0 c p4.1 p4.2
  have e1 := eOne_EV p0.l p0.v p4.1 p4.2
  have pl := eOne_pl p0.l p0.v p4.1 p4.2
  have p1r := gPl_rng p0.l p0.v.cur e1
  refine J.aload_n 0 dX5_optimalOfChain_0 rfl rfl ?_
  refine J.aload_n 1 dX5_optimalOfChain_1 rfl rfl ?_
  refine I.getR dX5_optimalOfChain_2 jcls fX5_79 rfl (by decide) rfl rfl ?_
  refine I.getR dX5_optimalOfChain_5 jcls fX5_98 rfl (by decide) rfl rfl ?_
  refine J.iload_n 2 dX5_optimalOfChain_8 rfl rfl ?_
  refine I.callSN2i (d' := d - 1) (mi' := mX8_at) dX5_optimalOfChain_9 nX5_94 eX8_at (c_X8_at (d := d - 1) hl (by omega) rfl (by first | omega | assumption) (by first | omega | assumption)) (show d - 1 + 1 ≤ d from by omega) (Nat.le_of_ble_eq_true rfl) ?_
  refine I.sx (RM.first p0 _ (by omega) (by omega)) ?_
  refine J.aload_n 1 dX5_optimalOfChain_12 rfl rfl ?_
  refine I.getR dX5_optimalOfChain_13 jcls fX5_79 rfl (by decide) rfl rfl ?_
  refine I.getR dX5_optimalOfChain_16 jcls fX5_101 rfl (by decide) rfl rfl ?_
  refine J.iload_n 2 dX5_optimalOfChain_19 rfl rfl ?_
  refine I.callSN2i (d' := d - 1) (mi' := mX8_at) dX5_optimalOfChain_20 nX5_94 eX8_at (c_X8_at (d := d - 1) hl (by omega) rfl (by first | omega | assumption) (by first | omega | assumption)) (show d - 1 + 1 ≤ d from by omega) (Nat.le_of_ble_eq_true rfl) ?_
  refine I.sx (RM.last p0 _ (by omega) (by omega)) ?_
  refine I.callV2i (d' := d - 1) (mi' := mX5_spanOf) dX5_optimalOfChain_23 lX5_104 eX5_spanOf rfl rfl (c_X5_spanOf (d := d - 1) hl (by omega) (by first | omega | assumption)) (show d - 1 + 1 ≤ d from by omega) (Nat.le_of_ble_eq_true rfl) ?_
  refine J.istore_n 3 dX5_optimalOfChain_26 rfl (by decide) rfl ?_
  refine J.aload_n 0 dX5_optimalOfChain_27 rfl rfl ?_
  refine I.getR dX5_optimalOfChain_28 jcls fX5_31 rfl (by decide) rfl rfl ?_
  refine J.iload_n 3 dX5_optimalOfChain_31 rfl rfl ?_
  refine J.aload_n 0 dX5_optimalOfChain_32 rfl rfl ?_
  refine I.getR dX5_optimalOfChain_33 jcls fX5_24 rfl (by decide) rfl rfl ?_
  refine J.iload_n 2 dX5_optimalOfChain_36 rfl rfl ?_
  refine I.callSN2i (d' := d - 1) (mi' := mX8_at) dX5_optimalOfChain_37 nX5_94 eX8_at (c_X8_at (d := d - 1) hl (by omega) rfl (by first | omega | assumption) (by first | omega | assumption)) (show d - 1 + 1 ≤ d from by omega) (Nat.le_of_ble_eq_true rfl) ?_
  refine I.sx (at1.1.2.2.1 c (by omega) (by omega)) ?_
  refine I.mul dX5_optimalOfChain_40 ?_
  refine I.callSN2i (d' := d - 1) (mi' := mX8_at) dX5_optimalOfChain_41 nX5_94 eX8_at (c_X8_at (d := d - 1) hl (by omega) rfl (by first | omega | assumption) (by rw [← pl]; omega)) (show d - 1 + 1 ≤ d from by omega) (Nat.le_of_ble_eq_true rfl) ?_
  exact I.iretQ dX5_optimalOfChain_44 rfl ⟨by rw [← pl, to _ e1 p1r.2, eOne_val p0.l p0.v p4.1 p4.2], fun _ _ _ => rfl⟩
set_option maxHeartbeats 1000000 in
theorem c_X5_againstGreedy {Γ : jE} (hl : Γ.1.stackTraces = false) {s : Nat → Int → Int} {ε : jEps} {d : Nat} {f : Int → Int} (hd : 3 ≤ d) (p0 : RM s 21 f) (p1 : SO s f) (p2 : s 51 10 = f 1) (p3 : s 51 12 = 1) (p4 : ¬ gOver f) : Con Γ (d, 0, 0) mX5_againstGreedy [.ref 51, .ref 21] (jmem s ε) (RQ (fun w s' => gDag f = w ∧ ∀ q j, q ≠ 57 → s' q j = s q j) ε) X0 := by
  refine Con.ofJ (by decide +kernel) (by simp [Value.category]) (Nat.le_of_ble_eq_true rfl) ?_ hl
  have hw := RM.w p0
  have at1 := p1.at p0.l p0.v p2
  have ev := eOf_EV p0.l p0.v
  have pr := gPl_rng p0.l p0.v.cur ev
  have pn := gPn_rng p0.l p0.v.cur
  have tg := at1.2.2 p3
  have hs : ¬ gShort f := fun g => p4 (Or.inr g)
  have cs := can_short p0.l p0.v hs
  have br := gBhf_rng p0.l p0.v
  refine J.aload_n 0 dX5_againstGreedy_0 rfl rfl ?_
  refine J.aload_n 1 dX5_againstGreedy_1 rfl rfl ?_
  refine I.callV1q (d' := d - 1) (mi' := mX5_placeAt) dX5_againstGreedy_2 lX5_90 eX5_placeAt rfl rfl (c_X5_placeAt (d := d - 1) hl (by omega) jm21 (by assumption) p1.1 at1.1) (show d - 1 + 1 ≤ d from by omega) (Nat.le_of_ble_eq_true rfl) ?_
  rintro _ s2 ⟨rfl, k2, w2⟩
  refine J.istore_n 2 dX5_againstGreedy_5 rfl (by decide) rfl ?_
  refine J.aload_n 0 dX5_againstGreedy_6 rfl rfl ?_
  refine J.iload_n 2 dX5_againstGreedy_7 rfl rfl ?_
  refine J.aload_n 1 dX5_againstGreedy_8 rfl rfl ?_
  refine I.getR dX5_againstGreedy_9 jcls fX5_79 rfl (by decide) rfl rfl ?_
  refine I.gI 3 rfl dX5_againstGreedy_12 jcls fX5_107 rfl (by decide) rfl ?_
  refine I.sx ((w2 _ _ (by omega)).trans (RM.passesInARow p0)) ?_
  refine I.if_le 22 dX5_againstGreedy_15 (by decide) (by omega) (fun h15 => ?_) (fun h15 => ?_)
  · skip
    refine J.aload_n 0 dX5_againstGreedy_22 rfl rfl ?_
    refine I.getR dX5_againstGreedy_23 jcls fX5_37 rfl (by decide) rfl rfl ?_
    refine J.iload_n 2 dX5_againstGreedy_26 rfl rfl ?_
    refine I.callSN2i (d' := d - 1) (mi' := mX8_at) dX5_againstGreedy_27 nX5_94 eX8_at (c_X8_at (d := d - 1) hl (by omega) rfl (by first | omega | assumption) (by first | omega | assumption)) (show d - 1 + 1 ≤ d from by omega) (Nat.le_of_ble_eq_true rfl) ?_
    refine I.sx ((w2 _ _ (by decide)).trans (tg.2.val p0.l p0.v)) ?_
    refine I.callV2i (d' := d - 1) (mi' := mX5_aheadHere) dX5_againstGreedy_30 lX5_75 eX5_aheadHere rfl rfl (c_X5_aheadHere (d := d - 1) hl (by omega) k2 rfl ((tg.2.keep fun j => w2 _ _ (by decide)).mono (by omega)) (by omega)) (show d - 1 + 1 ≤ d from by omega) (Nat.le_of_ble_eq_true rfl) ?_
    exact I.iretQ dX5_againstGreedy_33 rfl ⟨by rw [gDag_n0 p4 (by omega), ← gAg_eqv p0.l p0.v (eOf_eqv p0.l p0.v)]; have := k2.ag 0 cs; rw [if_neg (by decide), gBhf_eqv p0.l p0.v (eOf_eqv p0.l p0.v)] at this; exact this.symm, w2⟩
  · skip
    have f4 : f 4 = 1 := by have : ¬ f 4 = 2 := fun g => p4 (Or.inl g); omega
    refine I.iconst dX5_againstGreedy_18 ?_
    refine J.goto 30 dX5_againstGreedy_19 (by decide) ?_
    refine I.callV2i (d' := d - 1) (mi' := mX5_aheadHere) dX5_againstGreedy_30 lX5_75 eX5_aheadHere rfl rfl (c_X5_aheadHere (d := d - 1) hl (by omega) k2 rfl ((tg.2.keep fun j => w2 _ _ (by decide)).mono (by omega)) (by omega)) (show d - 1 + 1 ≤ d from by omega) (Nat.le_of_ble_eq_true rfl) ?_
    exact I.iretQ dX5_againstGreedy_33 rfl ⟨by rw [gDag_n1 p4 f4, ← gAg_eqv p0.l p0.v (eOf_eqv p0.l p0.v)]; exact (k2.ag 1 cs).symm, w2⟩
set_option maxHeartbeats 1000000 in
theorem c_X5_behindGreedy {Γ : jE} (hl : Γ.1.stackTraces = false) {s : Nat → Int → Int} {ε : jEps} {d : Nat} {f : Int → Int} (hd : 2 ≤ d) (p0 : RM s 21 f) (p1 : SO s f) (p2 : s 51 10 = f 1) (p3 : s 51 12 = 1) (p4 : ¬ gOver f) : Con Γ (d, 0, 0) mX5_behindGreedy [.ref 51, .ref 21] (jmem s ε) (RQ (fun w s' => gBhf f = w ∧ ∀ q j, q ≠ 57 → s' q j = s q j) ε) X0 := by
  refine Con.ofJ (by decide +kernel) (by simp [Value.category]) (Nat.le_of_ble_eq_true rfl) ?_ hl
  have hw := RM.w p0
  have at1 := p1.at p0.l p0.v p2
  have ev := eOf_EV p0.l p0.v
  have pr := gPl_rng p0.l p0.v.cur ev
  have pn := gPn_rng p0.l p0.v.cur
  have tg := at1.2.2 p3
  have hs : ¬ gShort f := fun g => p4 (Or.inr g)
  have cs := can_short p0.l p0.v hs
  have br := gBhf_rng p0.l p0.v
  refine J.aload_n 0 dX5_behindGreedy_0 rfl rfl ?_
  refine I.getR dX5_behindGreedy_1 jcls fX5_37 rfl (by decide) rfl rfl ?_
  refine J.aload_n 0 dX5_behindGreedy_4 rfl rfl ?_
  refine J.aload_n 1 dX5_behindGreedy_5 rfl rfl ?_
  refine I.callV1q (d' := d - 1) (mi' := mX5_placeAt) dX5_behindGreedy_6 lX5_90 eX5_placeAt rfl rfl (c_X5_placeAt (d := d - 1) hl (by omega) jm21 (by assumption) p1.1 at1.1) (show d - 1 + 1 ≤ d from by omega) (Nat.le_of_ble_eq_true rfl) ?_
  rintro _ s6 ⟨rfl, k6, w6⟩
  refine I.callSN2i (d' := d - 1) (mi' := mX8_at) dX5_behindGreedy_9 nX5_94 eX8_at (c_X8_at (d := d - 1) hl (by omega) rfl (by first | omega | assumption) (by first | omega | assumption)) (show d - 1 + 1 ≤ d from by omega) (Nat.le_of_ble_eq_true rfl) ?_
  refine I.sx ((w6 _ _ (by decide)).trans (tg.2.val p0.l p0.v)) ?_
  exact I.iretQ dX5_behindGreedy_12 rfl ⟨rfl, w6⟩
