set_option maxHeartbeats 1000000 in
theorem c_X5_spanOf {Γ : jE} (hl : Γ.1.stackTraces = false) {s : Nat → Int → Int} {ε : jEps} {d : Nat} {l : Int} {h : Int} (hd : 0 ≤ d) (p0 : 0 ≤ l ∧ l ≤ h ∧ h ≤ 7) : Con Γ (d, 0, 0) mX5_spanOf [.ref 51, .int (iI l), .int (iI h)] (jmem s ε) (RI (gSp l h) (s) ε) X0 := by
  refine Con.ofJ (by decide +kernel) (by simp [Value.category]) (Nat.le_of_ble_eq_true rfl) ?_ hl
  have t := triM (h := h) (by omega) (by omega)
  refine J.iload_n 2 dX5_spanOf_0 rfl rfl ?_
  refine J.iload_n 2 dX5_spanOf_1 rfl rfl ?_
  refine I.iconst dX5_spanOf_2 ?_
  refine I.add dX5_spanOf_3 ?_
  refine I.mul dX5_spanOf_4 ?_
  refine I.iconst dX5_spanOf_5 ?_
  refine I.div dX5_spanOf_6 (by omega) (by omega) ?_
  refine J.iload_n 2 dX5_spanOf_7 rfl rfl ?_
  refine I.add dX5_spanOf_8 ?_
  refine J.iload_n 1 dX5_spanOf_9 rfl rfl ?_
  refine I.sub dX5_spanOf_10 ?_
  exact I.iretI dX5_spanOf_11 rfl rfl rfl
set_option maxHeartbeats 1000000 in
theorem k_X5_placeAt_4 {Γ : jE} (hl : Γ.1.stackTraces = false) {s : Nat → Int → Int} {ε : jEps} {d : Nat} {m : Nat} {f : Int → Int} (hd : 1 ≤ d) (hm : jIsM m) (p0 : RM s m f) (p1 : ST s) (p2 : SH s f (f 1)) {mc ms : Nat} {P : Option Value → jM → Prop} {X : String → jM → Prop} : ∀ (k : Nat) {z : Nat → Int → Int} {i a : Int} (q0 : ((k : Nat) : Int) = 3 - i) (q1 : 0 ≤ i) (q2 : ∀ q j, q ≠ 57 → z q j = s q j) (q3 : ∀ c, 0 ≤ c → c < i → z 57 c = gSp (eOf f c) (eOf f (3 + c))) (kx : ∀ s', ((∀ q j, q ≠ 57 → s' q j = s q j) ∧ ∀ c, 0 ≤ c → c < 3 → s' 57 c = gSp (eOf f c) (eOf f (3 + c))) → J Γ (d, mc, ms) mX5_placeAt 67 [some (.ref 51), some (.ref m), some (.int (iI (foldF (fun i a => a + gSp (eOf f i) (eOf f (3 + i)) * gWt f (f 1) i) k i a))), none, none] [] (jmem s' ε) P X), J Γ (d, mc, ms) mX5_placeAt 4 [some (.ref 51), some (.ref m), some (.int (iI (a))), some (.int (iI (i))), none] [] (jmem z ε) P X := by
  have hw := RM.w p0
  have hm2 : m = 3 ∨ m = 21 ∨ m = 36 := hm
  have ev := eOf_EV p0.l p0.v
  intro k
  induction k with
  | zero =>
    intro z i a q0 q1 q2 q3 kx
    refine J.iload_n 3 dX5_placeAt_4 rfl rfl ?_
    refine I.iconst dX5_placeAt_5 ?_
    refine I.icmp_ge 67 dX5_placeAt_6 (by decide) (by omega) (by omega) (fun h6 => ?_) (fun h6 => ?_)
    · skip
      exact J.fgt (by exact ⟨Or.inr rfl, Or.inr rfl, Or.inr rfl, Or.inl rfl, Or.inl rfl, trivial⟩) (kx _ ⟨q2, fun c a b => q3 c a (by omega)⟩)
    · exact absurd h6 (by omega)
  | succ k ih =>
    intro z i a q0 q1 q2 q3 kx
    refine J.iload_n 3 dX5_placeAt_4 rfl rfl ?_
    refine I.iconst dX5_placeAt_5 ?_
    refine I.icmp_ge 67 dX5_placeAt_6 (by decide) (by omega) (by omega) (fun h6 => ?_) (fun h6 => ?_)
    · exact absurd h6 (by omega)
    · skip
      have en := ev i q1 (by omega)
      have ln := gLn_rng p0.l p0.v.cur (c := i) q1
      refine J.aload_n 0 dX5_placeAt_9 rfl rfl ?_
      refine J.aload_n 1 dX5_placeAt_10 rfl rfl ?_
      refine I.getR dX5_placeAt_11 jcls fX5_79 (shM hm) (by decide) rfl (taM1 hm) ?_
      refine I.getR dX5_placeAt_14 jcls fX5_98 (shS hm) (by decide) rfl (taS6 hm) ?_
      refine J.iload_n 3 dX5_placeAt_17 rfl rfl ?_
      refine I.callSN2i (d' := d - 1) (mi' := mX8_at) dX5_placeAt_18 nX5_94 eX8_at (c_X8_at (d := d - 1) hl (by omega) (shS6 hm) (by first | omega | assumption) (by first | omega | assumption)) (show d - 1 + 1 ≤ d from by omega) (Nat.le_of_ble_eq_true rfl) ?_
      refine I.sx (show _ = eOf f i by rw [q2 _ _ (by omega)]; exact (p0.t.lo i q1 (by omega)).trans (eOf_lo (by omega)).symm) ?_
      refine J.aload_n 1 dX5_placeAt_21 rfl rfl ?_
      refine I.getR dX5_placeAt_22 jcls fX5_79 (shM hm) (by decide) rfl (taM1 hm) ?_
      refine I.getR dX5_placeAt_25 jcls fX5_101 (shS hm) (by decide) rfl (taS7 hm) ?_
      refine J.iload_n 3 dX5_placeAt_28 rfl rfl ?_
      refine I.callSN2i (d' := d - 1) (mi' := mX8_at) dX5_placeAt_29 nX5_94 eX8_at (c_X8_at (d := d - 1) hl (by omega) (shS7 hm) (by first | omega | assumption) (by first | omega | assumption)) (show d - 1 + 1 ≤ d from by omega) (Nat.le_of_ble_eq_true rfl) ?_
      refine I.sx (show _ = eOf f (3 + i) by rw [q2 _ _ (by omega)]; exact (p0.t.hi i q1 (by omega)).trans (eOf_hi q1).symm) ?_
      refine I.callV2i (d' := d - 1) (mi' := mX5_spanOf) dX5_placeAt_32 lX5_104 eX5_spanOf rfl rfl (c_X5_spanOf (d := d - 1) hl (by omega) (by first | omega | assumption)) (show d - 1 + 1 ≤ d from by omega) (Nat.le_of_ble_eq_true rfl) ?_
      refine J.istore dX5_placeAt_35 (by decide) rfl ?_
      refine J.aload_n 0 dX5_placeAt_37 rfl rfl ?_
      refine I.getR dX5_placeAt_38 jcls fX5_27 rfl (by decide) rfl rfl ?_
      refine J.iload_n 3 dX5_placeAt_41 rfl rfl ?_
      refine J.iload dX5_placeAt_42 rfl ?_
      refine I.callSN3v (d' := d - 1) (mi' := mX8_put) dX5_placeAt_44 nX5_62 eX8_put (c_X8_put (d := d - 1) hl (by omega) rfl (by first | omega | assumption) (by first | omega | assumption)) (show d - 1 + 1 ≤ d from by omega) (Nat.le_of_ble_eq_true rfl) ?_
      refine J.iload_n 2 dX5_placeAt_47 rfl rfl ?_
      refine J.iload dX5_placeAt_48 rfl ?_
      refine J.aload_n 0 dX5_placeAt_50 rfl rfl ?_
      refine I.getR dX5_placeAt_51 jcls fX5_24 rfl (by decide) rfl rfl ?_
      refine J.iload_n 3 dX5_placeAt_54 rfl rfl ?_
      refine I.callSN2i (d' := d - 1) (mi' := mX8_at) dX5_placeAt_55 nX5_94 eX8_at (c_X8_at (d := d - 1) hl (by omega) rfl (by first | omega | assumption) (by first | omega | assumption)) (show d - 1 + 1 ≤ d from by omega) (Nat.le_of_ble_eq_true rfl) ?_
      refine I.sx (show _ = gWt f (f 1) i by rw [up_ne (Or.inl (by decide)), q2 _ _ (by decide)]; exact p2.2.2.1 i q1 (by omega)) ?_
      refine I.mul dX5_placeAt_58 ?_
      refine I.add dX5_placeAt_59 ?_
      refine J.istore_n 2 dX5_placeAt_60 rfl (by decide) rfl ?_
      refine I.iinc dX5_placeAt_61 rfl rfl ?_
      refine J.goto 4 dX5_placeAt_64 (by decide) ?_
      exact J.fgt (by exact ⟨Or.inr rfl, Or.inr rfl, Or.inr rfl, Or.inr rfl, Or.inl rfl, trivial⟩) (ih (by omega) (by omega) (fun q j h => by rw [up_ne (Or.inl h)]; exact q2 q j h) (fun c a b => by by_cases e : c = i; rw [e]; exact up_eq _ _ _ _; rw [up_ne (Or.inr e)]; exact q3 c a (by omega)) kx)
set_option maxHeartbeats 1000000 in
theorem c_X5_placeAt {Γ : jE} (hl : Γ.1.stackTraces = false) {s : Nat → Int → Int} {ε : jEps} {d : Nat} {m : Nat} {f : Int → Int} (hd : 1 ≤ d) (hm : jIsM m) (p0 : RM s m f) (p1 : ST s) (p2 : SH s f (f 1)) : Con Γ (d, 0, 0) mX5_placeAt [.ref 51, .ref m] (jmem s ε) (RQ (fun w s' => gPl f (f 1) (eOf f) = w ∧ WK s' f (f 1) (eOf f) ∧ ∀ q j, q ≠ 57 → s' q j = s q j) ε) X0 := by
  refine Con.ofJ (by decide +kernel) (by simp [Value.category]) (Nat.le_of_ble_eq_true rfl) ?_ hl
  have hw := RM.w p0
  have hm2 : m = 3 ∨ m = 21 ∨ m = 36 := hm
  have ev := eOf_EV p0.l p0.v
  refine I.iconst dX5_placeAt_0 ?_
  refine J.istore_n 2 dX5_placeAt_1 rfl (by decide) rfl ?_
  refine I.iconst dX5_placeAt_2 ?_
  refine J.istore_n 3 dX5_placeAt_3 rfl (by decide) rfl ?_
  refine J.fgt (by exact ⟨Or.inr rfl, Or.inr rfl, Or.inr rfl, Or.inr rfl, Or.inl rfl, trivial⟩) (k_X5_placeAt_4 hl (by omega) hm p0 p1 p2 (3) (by omega) (by omega) (fun _ _ _ => rfl) (fun c a b => by omega) ?_)
  rintro s4 ⟨u4, v4⟩
  refine J.iload_n 2 dX5_placeAt_67 rfl rfl ?_
  exact I.iretQ dX5_placeAt_68 rfl ⟨by simp only [foldF]; unfold gPl; simp, ⟨⟨p0.l, p0.v.cur⟩, fun lo hi a b c => by rw [u4 _ _ (by decide), u4 _ _ (by decide)]; exact p1 lo hi a b c, ⟨fun c t a b c2 d => by rw [u4 _ _ (by decide)]; exact p2.1 c t a b c2 d, fun c a b => by rw [u4 _ _ (by decide)]; exact p2.2.1 c a b, fun c a b => by rw [u4 _ _ (by decide)]; exact p2.2.2.1 c a b, by rw [u4 _ _ (by decide)]; exact p2.2.2.2⟩, ev, v4⟩, u4⟩
set_option maxHeartbeats 1000000 in
theorem k_X5_startWalk_2 {Γ : jE} (hl : Γ.1.stackTraces = false) {s : Nat → Int → Int} {ε : jEps} {d : Nat} (hd : 1 ≤ d) {mc ms : Nat} {P : Option Value → jM → Prop} {X : String → jM → Prop} : ∀ (k : Nat) {z : Nat → Int → Int} {i : Int} (q0 : ((k : Nat) : Int) = 3 - i) (q1 : 0 ≤ i) (q2 : ∀ q j, q ≠ 57 → z q j = s q j) (q3 : ∀ c, 0 ≤ c → c < i → z 57 c = 0) (kx : ∀ s', ((∀ q j, q ≠ 57 → s' q j = s q j) ∧ ∀ c, 0 ≤ c → c < 3 → s' 57 c = 0) → J Γ (d, mc, ms) mX5_startWalk 22 [some (.ref 51), none] [] (jmem s' ε) P X), J Γ (d, mc, ms) mX5_startWalk 2 [some (.ref 51), some (.int (iI (i)))] [] (jmem z ε) P X := by
  intro k
  induction k with
  | zero =>
    intro z i q0 q1 q2 q3 kx
    refine J.iload_n 1 dX5_startWalk_2 rfl rfl ?_
    refine I.iconst dX5_startWalk_3 ?_
    refine I.icmp_ge 22 dX5_startWalk_4 (by decide) (by omega) (by omega) (fun h4 => ?_) (fun h4 => ?_)
    · skip
      exact J.fgt (by exact ⟨Or.inr rfl, Or.inl rfl, trivial⟩) (kx _ ⟨q2, fun c a b => q3 c a (by omega)⟩)
    · exact absurd h4 (by omega)
  | succ k ih =>
    intro z i q0 q1 q2 q3 kx
    refine J.iload_n 1 dX5_startWalk_2 rfl rfl ?_
    refine I.iconst dX5_startWalk_3 ?_
    refine I.icmp_ge 22 dX5_startWalk_4 (by decide) (by omega) (by omega) (fun h4 => ?_) (fun h4 => ?_)
    · exact absurd h4 (by omega)
    · skip
      refine J.aload_n 0 dX5_startWalk_7 rfl rfl ?_
      refine I.getR dX5_startWalk_8 jcls fX5_27 rfl (by decide) rfl rfl ?_
      refine J.iload_n 1 dX5_startWalk_11 rfl rfl ?_
      refine I.iconst dX5_startWalk_12 ?_
      refine I.callSN3v (d' := d - 1) (mi' := mX8_put) dX5_startWalk_13 nX5_62 eX8_put (c_X8_put (d := d - 1) hl (by omega) rfl (by first | omega | assumption) (by first | omega | assumption)) (show d - 1 + 1 ≤ d from by omega) (Nat.le_of_ble_eq_true rfl) ?_
      refine I.iinc dX5_startWalk_16 rfl rfl ?_
      refine J.goto 2 dX5_startWalk_19 (by decide) ?_
      exact J.fgt (by exact ⟨Or.inr rfl, Or.inr rfl, trivial⟩) (ih (by omega) (by omega) (fun q j h => by rw [up_ne (Or.inl h)]; exact q2 q j h) (fun c a b => by by_cases e : c = i; rw [e]; exact up_eq _ _ _ _; rw [up_ne (Or.inr e)]; exact q3 c a (by omega)) kx)
set_option maxHeartbeats 1000000 in
theorem c_X5_startWalk {Γ : jE} (hl : Γ.1.stackTraces = false) {s : Nat → Int → Int} {ε : jEps} {d : Nat} (hd : 1 ≤ d) : Con Γ (d, 0, 0) mX5_startWalk [.ref 51] (jmem s ε) (RW (fun s' => (∀ q j, q ≠ 57 → s' q j = s q j) ∧ ∀ c, 0 ≤ c → c < 3 → s' 57 c = 0) ε) X0 := by
  refine Con.ofJ (by decide +kernel) (by simp [Value.category]) (Nat.le_of_ble_eq_true rfl) ?_ hl
  refine I.iconst dX5_startWalk_0 ?_
  refine J.istore_n 1 dX5_startWalk_1 rfl (by decide) rfl ?_
  refine J.fgt (by exact ⟨Or.inr rfl, Or.inr rfl, trivial⟩) (k_X5_startWalk_2 hl (by omega)  (3) (by omega) (by omega) (fun _ _ _ => rfl) (fun c a b => by omega) ?_)
  rintro s2 ⟨u2, v2⟩
  exact I.vretQ dX5_startWalk_22 rfl ⟨u2, v2⟩
set_option maxHeartbeats 1000000 in
theorem c_X5_stepWalk {Γ : jE} (hl : Γ.1.stackTraces = false) {s : Nat → Int → Int} {ε : jEps} {d : Nat} {f e : Int → Int} {r : Int} (hd : 1 ≤ d) (p0 : WK s f r e) : Con Γ (d, 0, 0) mX5_stepWalk [.ref 51] (jmem s ε) (RW (fun s' => WQ s f r e s') ε) X0 := by
  refine Con.ofJ (by decide +kernel) (by simp [Value.category]) (Nat.le_of_ble_eq_true rfl) ?_ hl
  have k2 := p0.sp (c := 2) (by omega) (by omega)
  have k1 : up s 57 2 0 57 1 = _ := (up_ne (Or.inr (by omega))).trans (p0.sp (c := 1) (by omega) (by omega))
  have k0 : up (up s 57 2 0) 57 1 0 57 0 = _ := (up_ne (Or.inr (by omega))).trans ((up_ne (Or.inr (by omega))).trans (p0.sp (c := 0) (by omega) (by omega)))
  have c2 := p0.2.2.1.2.1 2 (by omega) (by omega)
  have c1 : up s 57 2 0 55 1 = _ := (up_ne (Or.inl (by decide))).trans (p0.2.2.1.2.1 1 (by omega) (by omega))
  have c0 : up (up s 57 2 0) 57 1 0 55 0 = _ := (up_ne (Or.inl (by decide))).trans ((up_ne (Or.inl (by decide))).trans (p0.2.2.1.2.1 0 (by omega) (by omega)))
  simp only [show (3 : Int) + 0 = 3 from rfl, show (3 : Int) + 1 = 4 from rfl, show (3 : Int) + 2 = 5 from rfl] at k0 k1 k2
  have dg := p0.ev.sp p0.l p0.rr
  have n0 := gN_rng p0.l p0.rr (c := 0) (by omega)
  have n1 := gN_rng p0.l p0.rr (c := 1) (by omega)
  have n2 := gN_rng p0.l p0.rr (c := 2) (by omega)
  refine I.iconst dX5_stepWalk_0 ?_
  refine J.istore_n 1 dX5_stepWalk_1 rfl (by decide) rfl ?_
  refine J.iload_n 1 dX5_stepWalk_2 rfl rfl ?_
  refine I.if_lt 54 dX5_stepWalk_3 (by decide) (by omega) (fun h3 => ?_) (fun h3 => ?_)
  · exact absurd h3 (by omega)
  · skip
    refine J.aload_n 0 dX5_stepWalk_6 rfl rfl ?_
    refine I.getR dX5_stepWalk_7 jcls fX5_27 rfl (by decide) rfl rfl ?_
    refine J.iload_n 1 dX5_stepWalk_10 rfl rfl ?_
    refine I.callSN2i (d' := d - 1) (mi' := mX8_at) dX5_stepWalk_11 nX5_94 eX8_at (c_X8_at (d := d - 1) hl (by omega) rfl (by first | omega | assumption) (by first | omega | assumption)) (show d - 1 + 1 ≤ d from by omega) (Nat.le_of_ble_eq_true rfl) ?_
    refine I.sx (by first | exact k2 | exact k1 | exact k0) ?_
    refine I.iconst dX5_stepWalk_14 ?_
    refine I.add dX5_stepWalk_15 ?_
    refine J.istore_n 2 dX5_stepWalk_16 rfl (by decide) rfl ?_
    refine J.iload_n 2 dX5_stepWalk_17 rfl rfl ?_
    refine J.aload_n 0 dX5_stepWalk_18 rfl rfl ?_
    refine I.getR dX5_stepWalk_19 jcls fX5_21 rfl (by decide) rfl rfl ?_
    refine J.iload_n 1 dX5_stepWalk_22 rfl rfl ?_
    refine I.callSN2i (d' := d - 1) (mi' := mX8_at) dX5_stepWalk_23 nX5_94 eX8_at (c_X8_at (d := d - 1) hl (by omega) rfl (by first | omega | assumption) (by first | omega | assumption)) (show d - 1 + 1 ≤ d from by omega) (Nat.le_of_ble_eq_true rfl) ?_
    refine I.sx (by first | exact c2 | exact c1 | exact c0) ?_
    refine I.icmp_ge 39 dX5_stepWalk_26 (by decide) (by omega) (by omega) (fun h26 => ?_) (fun h26 => ?_)
    · skip
      refine J.aload_n 0 dX5_stepWalk_39 rfl rfl ?_
      refine I.getR dX5_stepWalk_40 jcls fX5_27 rfl (by decide) rfl rfl ?_
      refine J.iload_n 1 dX5_stepWalk_43 rfl rfl ?_
      refine I.iconst dX5_stepWalk_44 ?_
      refine I.callSN3v (d' := d - 1) (mi' := mX8_put) dX5_stepWalk_45 nX5_62 eX8_put (c_X8_put (d := d - 1) hl (by omega) rfl (by first | omega | assumption) (by first | omega | assumption)) (show d - 1 + 1 ≤ d from by omega) (Nat.le_of_ble_eq_true rfl) ?_
      refine I.iinc dX5_stepWalk_48 rfl rfl ?_
      refine J.goto 2 dX5_stepWalk_51 (by decide) ?_
      refine J.iload_n 1 dX5_stepWalk_2 rfl rfl ?_
      refine I.if_lt 54 dX5_stepWalk_3 (by decide) (by omega) (fun h3 => ?_) (fun h3 => ?_)
      · exact absurd h3 (by omega)
      · skip
        refine J.aload_n 0 dX5_stepWalk_6 rfl rfl ?_
        refine I.getR dX5_stepWalk_7 jcls fX5_27 rfl (by decide) rfl rfl ?_
        refine J.iload_n 1 dX5_stepWalk_10 rfl rfl ?_
        refine I.callSN2i (d' := d - 1) (mi' := mX8_at) dX5_stepWalk_11 nX5_94 eX8_at (c_X8_at (d := d - 1) hl (by omega) rfl (by first | omega | assumption) (by first | omega | assumption)) (show d - 1 + 1 ≤ d from by omega) (Nat.le_of_ble_eq_true rfl) ?_
        refine I.sx (by first | exact k2 | exact k1 | exact k0) ?_
        refine I.iconst dX5_stepWalk_14 ?_
        refine I.add dX5_stepWalk_15 ?_
        refine J.istore_n 2 dX5_stepWalk_16 rfl (by decide) rfl ?_
        refine J.iload_n 2 dX5_stepWalk_17 rfl rfl ?_
        refine J.aload_n 0 dX5_stepWalk_18 rfl rfl ?_
        refine I.getR dX5_stepWalk_19 jcls fX5_21 rfl (by decide) rfl rfl ?_
        refine J.iload_n 1 dX5_stepWalk_22 rfl rfl ?_
        refine I.callSN2i (d' := d - 1) (mi' := mX8_at) dX5_stepWalk_23 nX5_94 eX8_at (c_X8_at (d := d - 1) hl (by omega) rfl (by first | omega | assumption) (by first | omega | assumption)) (show d - 1 + 1 ≤ d from by omega) (Nat.le_of_ble_eq_true rfl) ?_
        refine I.sx (by first | exact c2 | exact c1 | exact c0) ?_
        refine I.icmp_ge 39 dX5_stepWalk_26 (by decide) (by omega) (by omega) (fun h26 => ?_) (fun h26 => ?_)
        · skip
          refine J.aload_n 0 dX5_stepWalk_39 rfl rfl ?_
          refine I.getR dX5_stepWalk_40 jcls fX5_27 rfl (by decide) rfl rfl ?_
          refine J.iload_n 1 dX5_stepWalk_43 rfl rfl ?_
          refine I.iconst dX5_stepWalk_44 ?_
          refine I.callSN3v (d' := d - 1) (mi' := mX8_put) dX5_stepWalk_45 nX5_62 eX8_put (c_X8_put (d := d - 1) hl (by omega) rfl (by first | omega | assumption) (by first | omega | assumption)) (show d - 1 + 1 ≤ d from by omega) (Nat.le_of_ble_eq_true rfl) ?_
          refine I.iinc dX5_stepWalk_48 rfl rfl ?_
          refine J.goto 2 dX5_stepWalk_51 (by decide) ?_
          refine J.iload_n 1 dX5_stepWalk_2 rfl rfl ?_
          refine I.if_lt 54 dX5_stepWalk_3 (by decide) (by omega) (fun h3 => ?_) (fun h3 => ?_)
          · exact absurd h3 (by omega)
          · skip
            refine J.aload_n 0 dX5_stepWalk_6 rfl rfl ?_
            refine I.getR dX5_stepWalk_7 jcls fX5_27 rfl (by decide) rfl rfl ?_
            refine J.iload_n 1 dX5_stepWalk_10 rfl rfl ?_
            refine I.callSN2i (d' := d - 1) (mi' := mX8_at) dX5_stepWalk_11 nX5_94 eX8_at (c_X8_at (d := d - 1) hl (by omega) rfl (by first | omega | assumption) (by first | omega | assumption)) (show d - 1 + 1 ≤ d from by omega) (Nat.le_of_ble_eq_true rfl) ?_
            refine I.sx (by first | exact k2 | exact k1 | exact k0) ?_
            refine I.iconst dX5_stepWalk_14 ?_
            refine I.add dX5_stepWalk_15 ?_
            refine J.istore_n 2 dX5_stepWalk_16 rfl (by decide) rfl ?_
            refine J.iload_n 2 dX5_stepWalk_17 rfl rfl ?_
            refine J.aload_n 0 dX5_stepWalk_18 rfl rfl ?_
            refine I.getR dX5_stepWalk_19 jcls fX5_21 rfl (by decide) rfl rfl ?_
            refine J.iload_n 1 dX5_stepWalk_22 rfl rfl ?_
            refine I.callSN2i (d' := d - 1) (mi' := mX8_at) dX5_stepWalk_23 nX5_94 eX8_at (c_X8_at (d := d - 1) hl (by omega) rfl (by first | omega | assumption) (by first | omega | assumption)) (show d - 1 + 1 ≤ d from by omega) (Nat.le_of_ble_eq_true rfl) ?_
            refine I.sx (by first | exact c2 | exact c1 | exact c0) ?_
            refine I.icmp_ge 39 dX5_stepWalk_26 (by decide) (by omega) (by omega) (fun h26 => ?_) (fun h26 => ?_)
            · skip
              refine J.aload_n 0 dX5_stepWalk_39 rfl rfl ?_
              refine I.getR dX5_stepWalk_40 jcls fX5_27 rfl (by decide) rfl rfl ?_
              refine J.iload_n 1 dX5_stepWalk_43 rfl rfl ?_
              refine I.iconst dX5_stepWalk_44 ?_
              refine I.callSN3v (d' := d - 1) (mi' := mX8_put) dX5_stepWalk_45 nX5_62 eX8_put (c_X8_put (d := d - 1) hl (by omega) rfl (by first | omega | assumption) (by first | omega | assumption)) (show d - 1 + 1 ≤ d from by omega) (Nat.le_of_ble_eq_true rfl) ?_
              refine I.iinc dX5_stepWalk_48 rfl rfl ?_
              refine J.goto 2 dX5_stepWalk_51 (by decide) ?_
              refine J.iload_n 1 dX5_stepWalk_2 rfl rfl ?_
              refine I.if_lt 54 dX5_stepWalk_3 (by decide) (by omega) (fun h3 => ?_) (fun h3 => ?_)
              · skip
                exact I.vretQ dX5_stepWalk_54 rfl (by first | exact p0.step2 (by omega) | exact p0.step1 (by omega) (by omega) | exact p0.step0 (by omega) (by omega) (by omega) | exact p0.stepE (by omega) (by omega) (by omega))
              · exact absurd h3 (by omega)
            · skip
              refine J.aload_n 0 dX5_stepWalk_29 rfl rfl ?_
              refine I.getR dX5_stepWalk_30 jcls fX5_27 rfl (by decide) rfl rfl ?_
              refine J.iload_n 1 dX5_stepWalk_33 rfl rfl ?_
              refine J.iload_n 2 dX5_stepWalk_34 rfl rfl ?_
              refine I.callSN3v (d' := d - 1) (mi' := mX8_put) dX5_stepWalk_35 nX5_62 eX8_put (c_X8_put (d := d - 1) hl (by omega) rfl (by first | omega | assumption) (by first | omega | assumption)) (show d - 1 + 1 ≤ d from by omega) (Nat.le_of_ble_eq_true rfl) ?_
              exact I.vretQ dX5_stepWalk_38 rfl (by first | exact p0.step2 (by omega) | exact p0.step1 (by omega) (by omega) | exact p0.step0 (by omega) (by omega) (by omega) | exact p0.stepE (by omega) (by omega) (by omega))
        · skip
          refine J.aload_n 0 dX5_stepWalk_29 rfl rfl ?_
          refine I.getR dX5_stepWalk_30 jcls fX5_27 rfl (by decide) rfl rfl ?_
          refine J.iload_n 1 dX5_stepWalk_33 rfl rfl ?_
          refine J.iload_n 2 dX5_stepWalk_34 rfl rfl ?_
          refine I.callSN3v (d' := d - 1) (mi' := mX8_put) dX5_stepWalk_35 nX5_62 eX8_put (c_X8_put (d := d - 1) hl (by omega) rfl (by first | omega | assumption) (by first | omega | assumption)) (show d - 1 + 1 ≤ d from by omega) (Nat.le_of_ble_eq_true rfl) ?_
          exact I.vretQ dX5_stepWalk_38 rfl (by first | exact p0.step2 (by omega) | exact p0.step1 (by omega) (by omega) | exact p0.step0 (by omega) (by omega) (by omega) | exact p0.stepE (by omega) (by omega) (by omega))
    · skip
      refine J.aload_n 0 dX5_stepWalk_29 rfl rfl ?_
      refine I.getR dX5_stepWalk_30 jcls fX5_27 rfl (by decide) rfl rfl ?_
      refine J.iload_n 1 dX5_stepWalk_33 rfl rfl ?_
      refine J.iload_n 2 dX5_stepWalk_34 rfl rfl ?_
      refine I.callSN3v (d' := d - 1) (mi' := mX8_put) dX5_stepWalk_35 nX5_62 eX8_put (c_X8_put (d := d - 1) hl (by omega) rfl (by first | omega | assumption) (by first | omega | assumption)) (show d - 1 + 1 ≤ d from by omega) (Nat.le_of_ble_eq_true rfl) ?_
      exact I.vretQ dX5_stepWalk_38 rfl (by first | exact p0.step2 (by omega) | exact p0.step1 (by omega) (by omega) | exact p0.step0 (by omega) (by omega) (by omega) | exact p0.stepE (by omega) (by omega) (by omega))
set_option maxHeartbeats 1000000 in
theorem k_X5_shape_92 {Γ : jE} (hl : Γ.1.stackTraces = false) {s : Nat → Int → Int} {ε : jEps} {d : Nat} {f : Int → Int} (hd : 2 ≤ d) (p0 : RM s 21 f) (p1 : SO s f) {mc ms : Nat} {P : Option Value → jM → Prop} {X : String → jM → Prop} : ∀ (k : Nat) {z : Nat → Int → Int} {i t : Int} (q0 : ((k : Nat) : Int) = gLn f (f 1) i - t) (q1 : 0 ≤ t) (qi : 0 ≤ i ∧ i < 3) (q2 : ∀ q j, q < 51 → z q j = s q j) (kx : ∀ s', ((∀ q j, (q ≠ 54 ∨ j < i * 8 + t ∨ i * 8 + 8 ≤ j) → s' q j = z q j) ∧ ∀ x, t ≤ x → x < gLn f (f 1) i → i < f (18 + f 1) → s' 54 (i * 8 + x) = gSc (f (40 + 8 * (3 * f 1 + i) + x))) → J Γ (d, mc, ms) mX5_shape 144 [some (.ref 51), some (.ref 21), some (.int (iI (f 1))), some (.int (iI (i))), none, none, none] [] (jmem s' ε) P X), J Γ (d, mc, ms) mX5_shape 92 [some (.ref 51), some (.ref 21), some (.int (iI (f 1))), some (.int (iI (i))), some (.int (iI (gLn f (f 1) i))), some (.int (iI (t))), none] [] (jmem z ε) P X := by
  have hw := RM.w p0
  have sr : -1 ≤ s 51 10 ∧ s 51 10 < 4 := by rcases p1.2.2.2 with h | h; omega; have := h.1; omega
  intro k
  induction k with
  | zero =>
    intro z i t q0 q1 qi q2 kx
    have ln := gLn_rng p0.l hw.1 (c := i) qi.1
    refine J.iload dX5_shape_92 rfl ?_
    refine J.iload dX5_shape_94 rfl ?_
    refine I.icmp_ge 144 dX5_shape_96 (by decide) (by omega) (by omega) (fun h96 => ?_) (fun h96 => ?_)
    · skip
      exact J.fgt (by exact ⟨Or.inr rfl, Or.inr rfl, Or.inr rfl, Or.inr rfl, Or.inl rfl, Or.inl rfl, Or.inl rfl, trivial⟩) (kx _ ⟨fun _ _ _ => rfl, fun x a b => by omega⟩)
    · exact absurd h96 (by omega)
  | succ k ih =>
    intro z i t q0 q1 qi q2 kx
    have ln := gLn_rng p0.l hw.1 (c := i) qi.1
    refine J.iload dX5_shape_92 rfl ?_
    refine J.iload dX5_shape_94 rfl ?_
    refine I.icmp_ge 144 dX5_shape_96 (by decide) (by omega) (by omega) (fun h96 => ?_) (fun h96 => ?_)
    · exact absurd h96 (by omega)
    · skip
      refine J.aload_n 1 dX5_shape_99 rfl rfl ?_
      refine I.getR dX5_shape_100 jcls fX5_126 rfl (by decide) rfl rfl ?_
      refine J.iload_n 2 dX5_shape_103 rfl rfl ?_
      refine J.iload_n 3 dX5_shape_104 rfl rfl ?_
      refine J.iload dX5_shape_105 rfl ?_
      refine I.callV3i (d' := d - 1) (mi' := mX1_slotOf) dX5_shape_107 lX5_140 eX1_slotOf rfl rfl (c_X1_slotOf (d := d - 1) hl (by omega) jy22) (show d - 1 + 1 ≤ d from by omega) (Nat.le_of_ble_eq_true rfl) ?_
      refine J.istore dX5_shape_110 (by decide) rfl ?_
      refine J.aload_n 0 dX5_shape_112 rfl rfl ?_
      refine I.getR dX5_shape_113 jcls fX5_18 rfl (by decide) rfl rfl ?_
      refine J.iload_n 3 dX5_shape_116 rfl rfl ?_
      refine I.bipush dX5_shape_117 (by decide) ?_
      refine I.mul dX5_shape_119 ?_
      refine J.iload dX5_shape_120 rfl ?_
      refine I.add dX5_shape_122 ?_
      refine J.aload_n 1 dX5_shape_123 rfl rfl ?_
      refine I.getR dX5_shape_124 jcls fX5_126 rfl (by decide) rfl rfl ?_
      refine I.getR dX5_shape_127 jcls fX5_144 rfl (by decide) rfl rfl ?_
      refine J.iload dX5_shape_130 rfl ?_
      refine I.callSN2i (d' := d - 1) (mi' := mX8_at) dX5_shape_132 nX5_94 eX8_at (c_X8_at (d := d - 1) hl (by omega) rfl (by first | omega | assumption) (by first | omega | assumption)) (show d - 1 + 1 ≤ d from by omega) (Nat.le_of_ble_eq_true rfl) ?_
      refine I.callSN3v (d' := d - 1) (mi' := mX8_put) dX5_shape_135 nX5_62 eX8_put (c_X8_put (d := d - 1) hl (by omega) rfl (by first | omega | assumption) (by first | omega | assumption)) (show d - 1 + 1 ≤ d from by omega) (Nat.le_of_ble_eq_true rfl) ?_
      refine I.iinc dX5_shape_138 rfl rfl ?_
      refine J.goto 92 dX5_shape_141 (by decide) ?_
      exact J.fgt (by exact ⟨Or.inr rfl, Or.inr rfl, Or.inr rfl, Or.inr rfl, Or.inr rfl, Or.inr rfl, Or.inl rfl, trivial⟩) (ih (by omega) (by omega) (by omega) (fun q j h => by rw [up_ne (by omega)]; exact q2 q j h) (fun s' hs => kx s' ⟨fun q j h => (hs.1 q j (by omega)).trans (up_ne (by omega)), fun x a b c => by by_cases e : x = t; rw [hs.1 54 _ (by omega), e, up_eq, q2 _ _ (by decide)]; exact RM.points p0 (f 1) i t hw.1.1 hw.1.2 qi.1 c q1 (by unfold gLn at b; rw [if_pos c] at b; omega); exact hs.2 x (by omega) b c⟩))
set_option maxHeartbeats 1000000 in
theorem k_X5_shape_24 {Γ : jE} (hl : Γ.1.stackTraces = false) {s : Nat → Int → Int} {ε : jEps} {d : Nat} {f : Int → Int} (hd : 2 ≤ d) (p0 : RM s 21 f) (p1 : SO s f) {mc ms : Nat} {P : Option Value → jM → Prop} {X : String → jM → Prop} : ∀ (k : Nat) {z : Nat → Int → Int} {i : Int} (q0 : ((k : Nat) : Int) = i + 1) (q1 : i ≤ 2) (q2 : ShP s z f (f 1) i) (kx : ∀ s', (ShP s s' f (f 1) (-1)) → J Γ (d, mc, ms) mX5_shape 150 [some (.ref 51), some (.ref 21), some (.int (iI (f 1))), none, none, none, none] [] (jmem s' ε) P X), J Γ (d, mc, ms) mX5_shape 24 [some (.ref 51), some (.ref 21), some (.int (iI (f 1))), some (.int (iI (i))), none, none, none] [] (jmem z ε) P X := by
  have hw := RM.w p0
  have sr : -1 ≤ s 51 10 ∧ s 51 10 < 4 := by rcases p1.2.2.2 with h | h; omega; have := h.1; omega
  intro k
  induction k with
  | zero =>
    intro z i q0 q1 q2 kx
    refine J.iload_n 3 dX5_shape_24 rfl rfl ?_
    refine I.if_lt 150 dX5_shape_25 (by decide) (by omega) (fun h25 => ?_) (fun h25 => ?_)
    · skip
      exact J.fgt (by exact ⟨Or.inr rfl, Or.inr rfl, Or.inr rfl, Or.inl rfl, Or.inl rfl, Or.inl rfl, Or.inl rfl, trivial⟩) (kx _ (by rw [show i = -1 by omega] at q2; exact q2))
    · exact absurd h25 (by omega)
  | succ k ih =>
    intro z i q0 q1 q2 kx
    refine J.iload_n 3 dX5_shape_24 rfl rfl ?_
    refine I.if_lt 150 dX5_shape_25 (by decide) (by omega) (fun h25 => ?_) (fun h25 => ?_)
    · exact absurd h25 (by omega)
    · skip
      have ln := gLn_rng p0.l hw.1 (c := i) (by omega)
      have tm := triM (h := gLn f (f 1) i) (by omega) (by omega)
      have tn : gLn f (f 1) i * (gLn f (f 1) i + 1) / 2 = gN f (f 1) i := rfl
      have wt := q2.2.2.2.2
      rw [if_neg (show ¬ i = -1 by omega)] at wt
      refine I.iconst dX5_shape_28 ?_
      refine J.aload_n 1 dX5_shape_29 rfl rfl ?_
      refine I.getR dX5_shape_30 jcls fX5_126 rfl (by decide) rfl rfl ?_
      refine J.iload_n 2 dX5_shape_33 rfl rfl ?_
      refine J.iload_n 3 dX5_shape_34 rfl rfl ?_
      refine I.callV2i (d' := d - 1) (mi' := mX1_lengthOf) dX5_shape_35 lX5_130 eX1_lengthOf rfl rfl (c_X1_lengthOf (d := d - 1) hl (by omega) jy22 (p0.y.congr fun q j a b => q2.1 q j (by omega)) p0.l (by first | omega | assumption) (by first | omega | assumption)) (show d - 1 + 1 ≤ d from by omega) (Nat.le_of_ble_eq_true rfl) ?_
      refine I.mmax dX5_shape_38 lX5_135 (by omega) (by split <;> first | (have := p0.l.len (f 1) i hw.1.1 hw.1.2 (by omega) (by assumption); omega) | omega) (Nat.le_of_ble_eq_true rfl) ?_
      refine I.sx (gLn_max p0.l hw.1 (by omega)) ?_
      refine J.istore dX5_shape_41 (by decide) rfl ?_
      refine J.aload_n 0 dX5_shape_43 rfl rfl ?_
      refine I.getR dX5_shape_44 jcls fX5_21 rfl (by decide) rfl rfl ?_
      refine J.iload_n 3 dX5_shape_47 rfl rfl ?_
      refine J.iload dX5_shape_48 rfl ?_
      refine J.iload dX5_shape_50 rfl ?_
      refine I.iconst dX5_shape_52 ?_
      refine I.add dX5_shape_53 ?_
      refine I.mul dX5_shape_54 ?_
      refine I.iconst dX5_shape_55 ?_
      refine I.div dX5_shape_56 (by omega) (by omega) ?_
      refine I.sx tn ?_
      refine I.callSN3v (d' := d - 1) (mi' := mX8_put) dX5_shape_57 nX5_62 eX8_put (c_X8_put (d := d - 1) hl (by omega) rfl (by first | omega | assumption) (by first | omega | assumption)) (show d - 1 + 1 ≤ d from by omega) (Nat.le_of_ble_eq_true rfl) ?_
      refine J.aload_n 0 dX5_shape_60 rfl rfl ?_
      refine I.getR dX5_shape_61 jcls fX5_24 rfl (by decide) rfl rfl ?_
      refine J.iload_n 3 dX5_shape_64 rfl rfl ?_
      refine J.aload_n 0 dX5_shape_65 rfl rfl ?_
      refine I.gI 9 rfl dX5_shape_66 jcls fX5_55 rfl (by decide) rfl ?_
      refine I.sx (show _ = gWt f (f 1) i from (up_ne (Or.inl (by decide))).trans wt) ?_
      refine I.callSN3v (d' := d - 1) (mi' := mX8_put) dX5_shape_69 nX5_62 eX8_put (c_X8_put (d := d - 1) hl (by omega) rfl (by first | omega | assumption) (by first | omega | assumption)) (show d - 1 + 1 ≤ d from by omega) (Nat.le_of_ble_eq_true rfl) ?_
      refine J.aload_n 0 dX5_shape_72 rfl rfl ?_
      refine J.dupR dX5_shape_73 ?_
      refine I.gI 9 rfl dX5_shape_74 jcls fX5_55 rfl (by decide) rfl ?_
      refine I.sx (show _ = gWt f (f 1) i from (up_ne (Or.inl (by decide))).trans ((up_ne (Or.inl (by decide))).trans wt)) ?_
      refine J.aload_n 0 dX5_shape_77 rfl rfl ?_
      refine I.getR dX5_shape_78 jcls fX5_21 rfl (by decide) rfl rfl ?_
      refine J.iload_n 3 dX5_shape_81 rfl rfl ?_
      refine I.callSN2i (d' := d - 1) (mi' := mX8_at) dX5_shape_82 nX5_94 eX8_at (c_X8_at (d := d - 1) hl (by omega) rfl (by first | omega | assumption) (by first | omega | assumption)) (show d - 1 + 1 ≤ d from by omega) (Nat.le_of_ble_eq_true rfl) ?_
      refine I.sx (show _ = gN f (f 1) i from (up_ne (Or.inl (by decide))).trans (up_eq _ _ _ _)) ?_
      refine I.mul dX5_shape_85 ?_
      refine I.pI 9 rfl dX5_shape_86 jcls fX5_55 rfl (by decide) rfl ?_
      refine I.iconst dX5_shape_89 ?_
      refine J.istore dX5_shape_90 (by decide) rfl ?_
      refine J.fgt (by exact ⟨Or.inr rfl, Or.inr rfl, Or.inr rfl, Or.inr rfl, Or.inr rfl, Or.inr rfl, Or.inl rfl, trivial⟩) (k_X5_shape_92 hl (by omega) p0 p1 ((gLn f (f 1) i).toNat) (by omega) (by omega) (by omega) (fun q j h => by rw [up_ne (by omega), up_ne (by omega), up_ne (by omega)]; exact q2.1 q j (by omega)) ?_)
      rintro s92 ⟨u92, v92⟩
      refine I.iinc dX5_shape_144 rfl rfl ?_
      refine J.goto 24 dX5_shape_147 (by decide) ?_
      exact J.fgt (by exact ⟨Or.inr rfl, Or.inr rfl, Or.inr rfl, Or.inr rfl, Or.inl rfl, Or.inl rfl, Or.inl rfl, trivial⟩) (ih (by omega) (by omega) (q2.step p0.l hw.1 (by omega) (by omega) u92 v92) kx)
set_option maxHeartbeats 1000000 in
theorem c_X5_shape {Γ : jE} (hl : Γ.1.stackTraces = false) {s : Nat → Int → Int} {ε : jEps} {d : Nat} {f : Int → Int} (hd : 2 ≤ d) (p0 : RM s 21 f) (p1 : SO s f) : Con Γ (d, 0, 0) mX5_shape [.ref 51, .ref 21] (jmem s ε) (RW (fun s' => (SO s' f ∧ s' 51 10 = f 1) ∧ ∀ q j, (q < 51 ∨ 57 ≤ q) → s' q j = s q j) ε) X0 := by
  refine Con.ofJ (by decide +kernel) (by simp [Value.category]) (Nat.le_of_ble_eq_true rfl) ?_ hl
  have hw := RM.w p0
  have sr : -1 ≤ s 51 10 ∧ s 51 10 < 4 := by rcases p1.2.2.2 with h | h; omega; have := h.1; omega
  refine J.aload_n 1 dX5_shape_0 rfl rfl ?_
  refine I.getR dX5_shape_1 jcls fX5_79 rfl (by decide) rfl rfl ?_
  refine I.gI 0 rfl dX5_shape_4 jcls fX5_123 rfl (by decide) rfl ?_
  refine I.sx (RM.round p0) ?_
  refine J.istore_n 2 dX5_shape_7 rfl (by decide) rfl ?_
  refine J.aload_n 0 dX5_shape_8 rfl rfl ?_
  refine I.gI 10 rfl dX5_shape_9 jcls fX5_40 rfl (by decide) rfl ?_
  refine J.iload_n 2 dX5_shape_12 rfl rfl ?_
  refine I.icmp_ne 17 dX5_shape_13 (by decide) (by omega) (by omega) (fun h13 => ?_) (fun h13 => ?_)
  · skip
    refine J.aload_n 0 dX5_shape_17 rfl rfl ?_
    refine I.iconst dX5_shape_18 ?_
    refine I.pI 9 rfl dX5_shape_19 jcls fX5_55 rfl (by decide) rfl ?_
    refine I.iconst dX5_shape_22 ?_
    refine J.istore_n 3 dX5_shape_23 rfl (by decide) rfl ?_
    refine J.fgt (by exact ⟨Or.inr rfl, Or.inr rfl, Or.inr rfl, Or.inr rfl, Or.inl rfl, Or.inl rfl, Or.inl rfl, trivial⟩) (k_X5_shape_24 hl (by omega) p0 p1 (3) (by omega) (by omega) ⟨fun q j h => up_ne (by omega), fun c t a b => by omega, fun c a b => by omega, fun c a b => by omega, by rw [up_eq]; rfl⟩ ?_)
    rintro s24 h24
    refine J.aload_n 0 dX5_shape_150 rfl rfl ?_
    refine J.iload_n 2 dX5_shape_151 rfl rfl ?_
    refine I.pI 10 rfl dX5_shape_152 jcls fX5_40 rfl (by decide) rfl ?_
    refine J.aload_n 0 dX5_shape_155 rfl rfl ?_
    refine I.iconst dX5_shape_156 ?_
    refine I.pZ 11 rfl dX5_shape_157 jcls fX5_48 rfl (by decide) rfl (by first | exact Or.inl rfl | exact Or.inr rfl | exact bI_01 _ | omega) ?_
    refine J.aload_n 0 dX5_shape_160 rfl rfl ?_
    refine I.iconst dX5_shape_161 ?_
    refine I.pZ 12 rfl dX5_shape_162 jcls fX5_69 rfl (by decide) rfl (by first | exact Or.inl rfl | exact Or.inr rfl | exact bI_01 _ | omega) ?_
    exact I.vretQ dX5_shape_165 rfl ⟨⟨h24.done p1.1 hw.1, by rw [up_ne (by omega), up_ne (by omega), up_eq]⟩, fun q j h => by rw [up_ne (by omega), up_ne (by omega), up_ne (by omega)]; exact h24.1 q j (by omega)⟩
  · skip
    exact I.vretQ dX5_shape_16 rfl ⟨⟨p1, by omega⟩, fun _ _ _ => rfl⟩
