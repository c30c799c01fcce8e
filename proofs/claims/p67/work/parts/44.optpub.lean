set_option maxHeartbeats 1000000 in
theorem k_X8_firstBest_19 {Γ : jE} (hl : Γ.1.stackTraces = false) {s : Nat → Int → Int} {ε : jEps} {d : Nat} {m : Nat} {f : Int → Int} (hd : 4 ≤ d) (hm : jIsM m) (p0 : RM s m f) (p1 : SO s f) (p2 : s 51 10 = f 1) (p3 : s 51 11 = 1) (p4 : ¬ gOver f) {mc ms : Nat} {P : Option Value → jM → Prop} {X : String → jM → Prop} : ∀ (k : Nat) {z : Nat → Int → Int} {i b : Int} (q0 : ((k : Nat) : Int) = gMoves f - i) (q1 : 1 ≤ i) (q2 : SR z m f) (q3 : ∀ q j, q ≠ 57 → z q j = s q j) (q4 : 0 ≤ b ∧ b < gMoves f) (kx : ∀ s', (∀ q j, q ≠ 57 → s' q j = s q j) → J Γ (d, mc, ms) mX8_firstBest 62 [some (.ref 0), some (.ref m), some (.int (iI (foldF (gFoS f) k i b))), none, none, none] [] (jmem s' ε) P X), J Γ (d, mc, ms) mX8_firstBest 19 [some (.ref 0), some (.ref m), some (.int (iI (b))), some (.int (iI (gVal f (gMvAt f b)))), some (.int (iI (i))), none] [] (jmem z ε) P X := by
  have sr : SR s m f := ⟨p0, p1, p2, p3⟩
  have hw := RM.w p0
  have m7 := gMoves_rng hw.2.2.1
  have mp := gMoves_pos hw.2.2.1 p4
  have lg0 := gMvAt_legal (f := f) hw.2.2.1 (i := 0) (by omega)
  intro k
  induction k with
  | zero =>
    intro z i b q0 q1 q2 q3 q4 kx
    refine J.iload dX8_firstBest_19 rfl ?_
    refine J.aload_n 1 dX8_firstBest_21 rfl rfl ?_
    refine I.callV0i (d' := d - 1) (mi' := mX2_movesNow) dX8_firstBest_22 lX8_205 eX2_movesNow (shM hm) rfl (c_X2_movesNow (d := d - 1) hl (by omega) hm q2.1) (show d - 1 + 1 ≤ d from by omega) (Nat.le_of_ble_eq_true rfl) ?_
    refine I.icmp_ge 62 dX8_firstBest_25 (by decide) (by omega) (by omega) (fun h25 => ?_) (fun h25 => ?_)
    · skip
      exact J.fgt (by exact ⟨Or.inr rfl, Or.inr rfl, Or.inr rfl, Or.inl rfl, Or.inl rfl, Or.inl rfl, trivial⟩) (kx _ q3)
    · exact absurd h25 (by omega)
  | succ k ih =>
    intro z i b q0 q1 q2 q3 q4 kx
    refine J.iload dX8_firstBest_19 rfl ?_
    refine J.aload_n 1 dX8_firstBest_21 rfl rfl ?_
    refine I.callV0i (d' := d - 1) (mi' := mX2_movesNow) dX8_firstBest_22 lX8_205 eX2_movesNow (shM hm) rfl (c_X2_movesNow (d := d - 1) hl (by omega) hm q2.1) (show d - 1 + 1 ≤ d from by omega) (Nat.le_of_ble_eq_true rfl) ?_
    refine I.icmp_ge 62 dX8_firstBest_25 (by decide) (by omega) (by omega) (fun h25 => ?_) (fun h25 => ?_)
    · exact absurd h25 (by omega)
    · skip
      have lgi := gMvAt_legal (f := f) hw.2.2.1 (i := i) (by omega)
      have lgb := gMvAt_legal (f := f) hw.2.2.1 (i := b) (by omega)
      have ri := gVal_rng p0.l p0.v lgi
      have rb := gVal_rng p0.l p0.v lgb
      refine J.aload_n 0 dX8_firstBest_28 rfl rfl ?_
      refine I.getR dX8_firstBest_29 jcls fX8_40 rfl (by decide) rfl rfl ?_
      refine J.aload_n 1 dX8_firstBest_32 rfl rfl ?_
      refine J.aload_n 1 dX8_firstBest_33 rfl rfl ?_
      refine J.iload dX8_firstBest_34 rfl ?_
      refine I.callV1i (d' := d - 1) (mi' := mX2_codeOfMove) dX8_firstBest_36 lX8_236 eX2_codeOfMove (shM hm) rfl (c_X2_codeOfMove (d := d - 1) hl (by omega) hm q2.1 (by first | omega | assumption)) (show d - 1 + 1 ≤ d from by omega) (Nat.le_of_ble_eq_true rfl) ?_
      refine I.sx (gCode_in ⟨by omega, by omega⟩) ?_
      refine I.callV2q (d' := d - 1) (mi' := mX5_valueOf) dX8_firstBest_39 lX8_255 eX5_valueOf rfl rfl (c_X5_valueOf (d := d - 1) hl (by omega) hm q2.1 q2.2.1 q2.2.2.1 q2.2.2.2 lgi p4) (show d - 1 + 1 ≤ d from by omega) (Nat.le_of_ble_eq_true rfl) ?_
      rintro _ s39 ⟨rfl, w39⟩
      refine J.istore dX8_firstBest_42 (by decide) rfl ?_
      refine J.iload dX8_firstBest_44 rfl ?_
      refine J.iload_n 3 dX8_firstBest_46 rfl rfl ?_
      refine I.icmp_le 56 dX8_firstBest_47 (by decide) (by omega) (by omega) (fun h47 => ?_) (fun h47 => ?_)
      · skip
        have e : gFoS f i b = b := if_neg (by omega)
        refine I.iinc dX8_firstBest_56 rfl rfl ?_
        refine J.goto 19 dX8_firstBest_59 (by decide) ?_
        exact J.fgt (by exact ⟨Or.inr rfl, Or.inr rfl, Or.inr rfl, Or.inr rfl, Or.inr rfl, Or.inl rfl, trivial⟩) (ih (by omega) (by omega) (q2.w hm w39) (fun q j h => (w39 q j h).trans (q3 q j h)) (by omega) (fun s' hs => by have := kx s' hs; rw [foldF_s, e] at this; exact this))
      · skip
        have e : gFoS f i b = i := if_pos (by omega)
        refine J.iload dX8_firstBest_50 rfl ?_
        refine J.istore_n 3 dX8_firstBest_52 rfl (by decide) rfl ?_
        refine J.iload dX8_firstBest_53 rfl ?_
        refine J.istore_n 2 dX8_firstBest_55 rfl (by decide) rfl ?_
        refine I.iinc dX8_firstBest_56 rfl rfl ?_
        refine J.goto 19 dX8_firstBest_59 (by decide) ?_
        exact J.fgt (by exact ⟨Or.inr rfl, Or.inr rfl, Or.inr rfl, Or.inr rfl, Or.inr rfl, Or.inl rfl, trivial⟩) (ih (by omega) (by omega) (q2.w hm w39) (fun q j h => (w39 q j h).trans (q3 q j h)) (by omega) (fun s' hs => by have := kx s' hs; rw [foldF_s, e] at this; exact this))
set_option maxHeartbeats 1000000 in
theorem c_X8_firstBest {Γ : jE} (hl : Γ.1.stackTraces = false) {s : Nat → Int → Int} {ε : jEps} {d : Nat} {m : Nat} {f : Int → Int} (hd : 4 ≤ d) (hm : jIsM m) (p0 : RM s m f) (p1 : SO s f) (p2 : s 51 10 = f 1) (p3 : s 51 11 = 1) (p4 : ¬ gOver f) : Con Γ (d, 0, 0) mX8_firstBest [.ref 0, .ref m] (jmem s ε) (RQ (fun w s' => gFo f = w ∧ ∀ q j, q ≠ 57 → s' q j = s q j) ε) X0 := by
  refine Con.ofJ (by decide +kernel) (by simp [Value.category]) (Nat.le_of_ble_eq_true rfl) ?_ hl
  have sr : SR s m f := ⟨p0, p1, p2, p3⟩
  have hw := RM.w p0
  have m7 := gMoves_rng hw.2.2.1
  have mp := gMoves_pos hw.2.2.1 p4
  have lg0 := gMvAt_legal (f := f) hw.2.2.1 (i := 0) (by omega)
  refine I.iconst dX8_firstBest_0 ?_
  refine J.istore_n 2 dX8_firstBest_1 rfl (by decide) rfl ?_
  refine J.aload_n 0 dX8_firstBest_2 rfl rfl ?_
  refine I.getR dX8_firstBest_3 jcls fX8_40 rfl (by decide) rfl rfl ?_
  refine J.aload_n 1 dX8_firstBest_6 rfl rfl ?_
  refine J.aload_n 1 dX8_firstBest_7 rfl rfl ?_
  refine I.iconst dX8_firstBest_8 ?_
  refine I.callV1i (d' := d - 1) (mi' := mX2_codeOfMove) dX8_firstBest_9 lX8_236 eX2_codeOfMove (shM hm) rfl (c_X2_codeOfMove (d := d - 1) hl (by omega) hm (by assumption) (by first | omega | assumption)) (show d - 1 + 1 ≤ d from by omega) (Nat.le_of_ble_eq_true rfl) ?_
  refine I.sx (gCode_in ⟨by omega, by omega⟩) ?_
  refine I.callV2q (d' := d - 1) (mi' := mX5_valueOf) dX8_firstBest_12 lX8_255 eX5_valueOf rfl rfl (c_X5_valueOf (d := d - 1) hl (by omega) hm (by assumption) (by assumption) (by first | omega | assumption) (by first | omega | assumption) lg0 p4) (show d - 1 + 1 ≤ d from by omega) (Nat.le_of_ble_eq_true rfl) ?_
  rintro _ s12 ⟨rfl, w12⟩
  refine J.istore_n 3 dX8_firstBest_15 rfl (by decide) rfl ?_
  refine I.iconst dX8_firstBest_16 ?_
  refine J.istore dX8_firstBest_17 (by decide) rfl ?_
  refine J.fgt (by exact ⟨Or.inr rfl, Or.inr rfl, Or.inr rfl, Or.inr rfl, Or.inr rfl, Or.inl rfl, trivial⟩) (k_X8_firstBest_19 hl (by omega) hm p0 p1 p2 p3 p4 ((gMoves f - 1).toNat) (by omega) (by omega) (sr.w hm w12) w12 (by omega) ?_)
  rintro s19 w19
  refine J.iload_n 2 dX8_firstBest_62 rfl rfl ?_
  exact I.iretQ dX8_firstBest_63 rfl ⟨rfl, w19⟩
set_option maxHeartbeats 1000000 in
theorem k_X8_countBest_27 {Γ : jE} (hl : Γ.1.stackTraces = false) {s : Nat → Int → Int} {ε : jEps} {d : Nat} {f : Int → Int} (hd : 5 ≤ d) (p0 : RM s 21 f) (p1 : SO s f) {mc ms : Nat} {P : Option Value → jM → Prop} {X : String → jM → Prop} : ∀ (k : Nat) {z : Nat → Int → Int} {i a : Int} (q0 : ((k : Nat) : Int) = gMoves f - i) (q1 : 0 ≤ i) (q2 : SR z 21 f) (q3 : ∀ q j, (q < 51 ∨ 60 < q) → z q j = s q j) (kx : ∀ s', (SR s' 21 f ∧ ∀ q j, (q < 51 ∨ 60 < q) → s' q j = s q j) → J Γ (d, mc, ms) mX8_countBest 70 [some (.ref 0), none, some (.int (iI (foldF (gManyS f) k i a))), none] [] (jmem s' ε) P X), J Γ (d, mc, ms) mX8_countBest 27 [some (.ref 0), some (.int (iI (gNow f))), some (.int (iI (a))), some (.int (iI (i)))] [] (jmem z ε) P X := by
  have hw := RM.w p0
  have m7 := gMoves_rng hw.2.2.1
  intro k
  induction k with
  | zero =>
    intro z i a q0 q1 q2 q3 kx
    refine J.iload_n 3 dX8_countBest_27 rfl rfl ?_
    refine J.aload_n 0 dX8_countBest_28 rfl rfl ?_
    refine I.getR dX8_countBest_29 jcls fX8_30 rfl (by decide) rfl rfl ?_
    refine I.callV0i (d' := d - 1) (mi' := mX2_movesNow) dX8_countBest_32 lX8_205 eX2_movesNow rfl rfl (c_X2_movesNow (d := d - 1) hl (by omega) jm21 q2.1) (show d - 1 + 1 ≤ d from by omega) (Nat.le_of_ble_eq_true rfl) ?_
    refine I.icmp_ge 70 dX8_countBest_35 (by decide) (by omega) (by omega) (fun h35 => ?_) (fun h35 => ?_)
    · skip
      exact J.fgt (by exact ⟨Or.inr rfl, Or.inl rfl, Or.inr rfl, Or.inl rfl, trivial⟩) (kx _ ⟨q2, q3⟩)
    · exact absurd h35 (by omega)
  | succ k ih =>
    intro z i a q0 q1 q2 q3 kx
    refine J.iload_n 3 dX8_countBest_27 rfl rfl ?_
    refine J.aload_n 0 dX8_countBest_28 rfl rfl ?_
    refine I.getR dX8_countBest_29 jcls fX8_30 rfl (by decide) rfl rfl ?_
    refine I.callV0i (d' := d - 1) (mi' := mX2_movesNow) dX8_countBest_32 lX8_205 eX2_movesNow rfl rfl (c_X2_movesNow (d := d - 1) hl (by omega) jm21 q2.1) (show d - 1 + 1 ≤ d from by omega) (Nat.le_of_ble_eq_true rfl) ?_
    refine I.icmp_ge 70 dX8_countBest_35 (by decide) (by omega) (by omega) (fun h35 => ?_) (fun h35 => ?_)
    · exact absurd h35 (by omega)
    · skip
      have lgi := gMvAt_legal (f := f) hw.2.2.1 (i := i) (by omega)
      have ri := gVal_rng p0.l p0.v lgi
      have rn := gNow_rng p0.l p0.v
      have ho : ¬ gOver f := fun h => by have := gMoves_over h; omega
      refine J.aload_n 0 dX8_countBest_38 rfl rfl ?_
      refine I.getR dX8_countBest_39 jcls fX8_40 rfl (by decide) rfl rfl ?_
      refine J.aload_n 0 dX8_countBest_42 rfl rfl ?_
      refine I.getR dX8_countBest_43 jcls fX8_30 rfl (by decide) rfl rfl ?_
      refine J.aload_n 0 dX8_countBest_46 rfl rfl ?_
      refine I.getR dX8_countBest_47 jcls fX8_30 rfl (by decide) rfl rfl ?_
      refine J.iload_n 3 dX8_countBest_50 rfl rfl ?_
      refine I.callV1i (d' := d - 1) (mi' := mX2_codeOfMove) dX8_countBest_51 lX8_236 eX2_codeOfMove rfl rfl (c_X2_codeOfMove (d := d - 1) hl (by omega) jm21 q2.1 (by first | omega | assumption)) (show d - 1 + 1 ≤ d from by omega) (Nat.le_of_ble_eq_true rfl) ?_
      refine I.sx (gCode_in ⟨by omega, by omega⟩) ?_
      refine I.callV2q (d' := d - 1) (mi' := mX5_valueOf) dX8_countBest_54 lX8_255 eX5_valueOf rfl rfl (c_X5_valueOf (d := d - 1) hl (by omega) jm21 q2.1 q2.2.1 q2.2.2.1 q2.2.2.2 lgi ho) (show d - 1 + 1 ≤ d from by omega) (Nat.le_of_ble_eq_true rfl) ?_
      rintro _ s54 ⟨rfl, w54⟩
      refine J.iload_n 1 dX8_countBest_57 rfl rfl ?_
      refine I.icmp_ne 64 dX8_countBest_58 (by decide) (by omega) (by omega) (fun h58 => ?_) (fun h58 => ?_)
      · skip
        have e : gManyS f i a = a := if_neg h58
        refine I.iinc dX8_countBest_64 rfl rfl ?_
        refine J.goto 27 dX8_countBest_67 (by decide) ?_
        exact J.fgt (by exact ⟨Or.inr rfl, Or.inr rfl, Or.inr rfl, Or.inr rfl, trivial⟩) (ih (by omega) (by omega) (q2.w jm21 w54) (fun q j h => (w54 q j (by omega)).trans (q3 q j h)) (fun s' hs => by have := kx s' hs; rw [foldF_s, e] at this; exact this))
      · skip
        have e : gManyS f i a = a + 1 := if_pos h58
        refine I.iinc dX8_countBest_61 rfl rfl ?_
        refine I.iinc dX8_countBest_64 rfl rfl ?_
        refine J.goto 27 dX8_countBest_67 (by decide) ?_
        exact J.fgt (by exact ⟨Or.inr rfl, Or.inr rfl, Or.inr rfl, Or.inr rfl, trivial⟩) (ih (by omega) (by omega) (q2.w jm21 w54) (fun q j h => (w54 q j (by omega)).trans (q3 q j h)) (fun s' hs => by have := kx s' hs; rw [foldF_s, e] at this; exact this))
set_option maxHeartbeats 1000000 in
theorem c_X8_countBest {Γ : jE} (hl : Γ.1.stackTraces = false) {s : Nat → Int → Int} {ε : jEps} {d : Nat} {f : Int → Int} (hd : 5 ≤ d) (p0 : RM s 21 f) (p1 : SO s f) : Con Γ (d, 0, 0) mX8_countBest [.ref 0] (jmem s ε) (RQ (fun w s' => gMany f = w ∧ (SO s' f ∧ s' 51 10 = f 1 ∧ s' 51 11 = 1) ∧ ∀ q j, (q < 51 ∨ 60 < q) → s' q j = s q j) ε) X0 := by
  refine Con.ofJ (by decide +kernel) (by simp [Value.category]) (Nat.le_of_ble_eq_true rfl) ?_ hl
  have hw := RM.w p0
  have m7 := gMoves_rng hw.2.2.1
  refine J.aload_n 0 dX8_countBest_0 rfl rfl ?_
  refine I.getR dX8_countBest_1 jcls fX8_40 rfl (by decide) rfl rfl ?_
  refine J.aload_n 0 dX8_countBest_4 rfl rfl ?_
  refine I.getR dX8_countBest_5 jcls fX8_30 rfl (by decide) rfl rfl ?_
  refine I.callV1w (d' := d - 1) (mi' := mX5_solveOptimal) dX8_countBest_8 lX8_248 eX5_solveOptimal rfl rfl (c_X5_solveOptimal (d := d - 1) hl (by omega) (by assumption) (by assumption)) (show d - 1 + 1 ≤ d from by omega) (Nat.le_of_ble_eq_true rfl) ?_
  rintro s8 ⟨o8, w8⟩
  have r8 : SR s8 21 f := ⟨p0.congr fun q j a b => w8 q j (by omega), o8.1, o8.2.1, o8.2.2⟩
  refine J.aload_n 0 dX8_countBest_11 rfl rfl ?_
  refine I.getR dX8_countBest_12 jcls fX8_40 rfl (by decide) rfl rfl ?_
  refine J.aload_n 0 dX8_countBest_15 rfl rfl ?_
  refine I.getR dX8_countBest_16 jcls fX8_30 rfl (by decide) rfl rfl ?_
  refine I.callV1q (d' := d - 1) (mi' := mX5_optimalOf) dX8_countBest_19 lX8_251 eX5_optimalOf rfl rfl (c_X5_optimalOf (d := d - 1) hl (by omega) r8.1 r8.2.1 r8.2.2.1 r8.2.2.2) (show d - 1 + 1 ≤ d from by omega) (Nat.le_of_ble_eq_true rfl) ?_
  rintro _ s19 ⟨rfl, w19⟩
  refine J.istore_n 1 dX8_countBest_22 rfl (by decide) rfl ?_
  have r19 := r8.w jm21 w19
  refine I.iconst dX8_countBest_23 ?_
  refine J.istore_n 2 dX8_countBest_24 rfl (by decide) rfl ?_
  refine I.iconst dX8_countBest_25 ?_
  refine J.istore_n 3 dX8_countBest_26 rfl (by decide) rfl ?_
  refine J.fgt (by exact ⟨Or.inr rfl, Or.inr rfl, Or.inr rfl, Or.inr rfl, trivial⟩) (k_X8_countBest_27 hl (by omega) p0 p1 ((gMoves f).toNat) (by omega) (by omega) r19 (fun q j h => (w19 q j (by omega)).trans (w8 q j h)) ?_)
  rintro s27 ⟨r27, w27⟩
  refine J.iload_n 2 dX8_countBest_70 rfl rfl ?_
  exact I.iretQ dX8_countBest_71 rfl ⟨rfl, r27.2, w27⟩
set_option maxHeartbeats 1000000 in
theorem k_X8_playBest_2 {Γ : jE} (hl : Γ.1.stackTraces = false) {s : Nat → Int → Int} {ε : jEps} {d : Nat} {m : Nat} {n : Int} {f : Int → Int} (hd : 5 ≤ d) (hm : jIsM m) (p0 : RM s m f) (p1 : SO s f) (p2 : s 51 10 = f 1) (p3 : s 51 11 = 1) (p4 : 0 ≤ n ∧ n < 2147483648) {mc ms : Nat} {P : Option Value → jM → Prop} {X : String → jM → Prop} : ∀ (k : Nat) {z : Nat → Int → Int} {g : Int → Int} {i : Int} (q0 : ((k : Nat) : Int) = n - i) (q1 : 0 ≤ i) (q2 : RM z m g) (q3 : (SO z f ∧ z 51 10 = f 1 ∧ z 51 11 = 1) ∧ gLay f g ∧ g 1 = f 1) (q4 : ∀ q j, (q ≠ 57 ∧ (q < m + 7 ∨ m + 15 ≤ q)) → z q j = s q j) (kx : ∀ s', (RM s' m (gRun k g) ∧ (SO s' f ∧ s' 51 10 = f 1 ∧ s' 51 11 = 1) ∧ ∀ q j, (q ≠ 57 ∧ (q < m + 7 ∨ m + 15 ≤ q)) → s' q j = s q j) → J Γ (d, mc, ms) mX8_playBest 36 [some (.ref 0), some (.ref m), none, some (.int (iI (i + gCnt k g)))] [] (jmem s' ε) P X), J Γ (d, mc, ms) mX8_playBest 2 [some (.ref 0), some (.ref m), some (.int (iI n)), some (.int (iI (i)))] [] (jmem z ε) P X := by
  have sr : SR s m f := ⟨p0, p1, p2, p3⟩
  have hw := RM.w p0
  have m7 := gMoves_rng hw.2.2.1
  have hm2 : m = 3 ∨ m = 21 ∨ m = 36 := hm
  intro k
  induction k with
  | zero =>
    intro z g i q0 q1 q2 q3 q4 kx
    refine J.iload_n 3 dX8_playBest_2 rfl rfl ?_
    refine J.iload_n 2 dX8_playBest_3 rfl rfl ?_
    refine I.icmp_ge 36 dX8_playBest_4 (by decide) (by omega) (by omega) (fun h4 => ?_) (fun h4 => ?_)
    · skip
      rw [show i + gCnt 0 g = i + 0 from rfl, Int.add_zero] at kx
      exact J.fgt (by exact ⟨Or.inr rfl, Or.inr rfl, Or.inl rfl, Or.inr rfl, trivial⟩) (kx _ ⟨q2, q3.1, q4⟩)
    · exact absurd h4 (by omega)
  | succ k ih =>
    intro z g i q0 q1 q2 q3 q4 kx
    refine J.iload_n 3 dX8_playBest_2 rfl rfl ?_
    refine J.iload_n 2 dX8_playBest_3 rfl rfl ?_
    refine I.icmp_ge 36 dX8_playBest_4 (by decide) (by omega) (by omega) (fun h4 => ?_) (fun h4 => ?_)
    · exact absurd h4 (by omega)
    · skip
      refine J.aload_n 1 dX8_playBest_7 rfl rfl ?_
      refine I.getR dX8_playBest_8 jcls fX8_129 (shM hm) (by decide) rfl (taM1 hm) ?_
      refine I.gI 4 rfl dX8_playBest_11 jcls fX8_135 (shS hm) (by decide) rfl ?_
      refine I.sx (RM.over q2) ?_
      refine I.if_neB 36 dX8_playBest_14 (by decide) (fun h14 => ?_) (fun h14 => ?_)
      · skip
        have kx : ∀ s', (RM s' m g ∧ (SO s' f ∧ s' 51 10 = f 1 ∧ s' 51 11 = 1) ∧ ∀ q j, (q ≠ 57 ∧ (q < m + 7 ∨ m + 15 ≤ q)) → s' q j = s q j) → J Γ (d, mc, ms) mX8_playBest 36 [some (.ref 0), some (.ref m), none, some (.int (iI i))] [] (jmem s' ε) P X := fun s' hs => by have := kx s' (by rw [gRun_o h14]; exact hs); rw [gCnt_o h14, Int.add_zero] at this; exact this
        exact J.fgt (by exact ⟨Or.inr rfl, Or.inr rfl, Or.inl rfl, Or.inr rfl, trivial⟩) (kx _ ⟨q2, q3.1, q4⟩)
      · skip
        have gw := q2.w
        have fr := gFo_rng gw.2.2.1 h14
        have g7 := gMoves_rng gw.2.2.1
        have lg := gFo_legal q2.l q2.v h14
        have ly := gPlay_lay q2.l q2.v lg
        have sg : SR z m g := ⟨q2, q3.1.1.lay q3.2.1 p0.l, q3.1.2.1.trans q3.2.2.symm, q3.1.2.2⟩
        refine J.aload_n 1 dX8_playBest_17 rfl rfl ?_
        refine J.aload_n 1 dX8_playBest_18 rfl rfl ?_
        refine J.aload_n 0 dX8_playBest_19 rfl rfl ?_
        refine J.aload_n 1 dX8_playBest_20 rfl rfl ?_
        refine I.callV1q (d' := d - 1) (mi' := mX8_firstBest) dX8_playBest_21 lX8_264 eX8_firstBest rfl rfl (c_X8_firstBest (d := d - 1) hl (by omega) hm sg.1 sg.2.1 sg.2.2.1 sg.2.2.2 h14) (show d - 1 + 1 ≤ d from by omega) (Nat.le_of_ble_eq_true rfl) ?_
        rintro _ s21 ⟨rfl, w21⟩
        have sg2 := sg.w hm w21
        refine I.callV1i (d' := d - 1) (mi' := mX2_codeOfMove) dX8_playBest_24 lX8_236 eX2_codeOfMove (shM hm) rfl (c_X2_codeOfMove (d := d - 1) hl (by omega) hm sg2.1 (by omega)) (show d - 1 + 1 ≤ d from by omega) (Nat.le_of_ble_eq_true rfl) ?_
        refine I.sx (gCode_in fr) ?_
        refine I.callV1w (d' := d - 1) (mi' := mX2_play) dX8_playBest_27 lX8_281 eX2_play (shM hm) rfl (c_X2_play (d := d - 1) hl (by omega) hm sg2.1 lg h14) (show d - 1 + 1 ≤ d from by omega) (Nat.le_of_ble_eq_true rfl) ?_
        rintro s27 ⟨r27, w27⟩
        refine I.iinc dX8_playBest_30 rfl rfl ?_
        refine J.goto 2 dX8_playBest_33 (by decide) ?_
        exact J.fgt (by exact ⟨Or.inr rfl, Or.inr rfl, Or.inr rfl, Or.inr rfl, trivial⟩) (ih (by omega) (by omega) r27 ⟨⟨q3.1.1.keep fun q j a => (w27 q j (by omega)).trans (w21 q j (by omega)), (w27 _ _ (by omega)).trans ((w21 _ _ (by decide)).trans q3.1.2.1), (w27 _ _ (by omega)).trans ((w21 _ _ (by decide)).trans q3.1.2.2)⟩, q3.2.1.trans ly, (gPlay_1 q2.l q2.v lg).trans q3.2.2⟩ (fun q j h => (w27 q j h.2).trans ((w21 q j h.1).trans (q4 q j h))) (fun s' hs => by have := kx s' (by rw [gRun_n h14]; exact hs); have e : i + (gCnt k (gPlay g (gMvAt g (gFo g))) + 1) = i + 1 + gCnt k (gPlay g (gMvAt g (gFo g))) := (by omega); rw [gCnt_n h14, e] at this; exact this))
set_option maxHeartbeats 1000000 in
theorem c_X8_playBest {Γ : jE} (hl : Γ.1.stackTraces = false) {s : Nat → Int → Int} {ε : jEps} {d : Nat} {m : Nat} {n : Int} {f : Int → Int} (hd : 5 ≤ d) (hm : jIsM m) (p0 : RM s m f) (p1 : SO s f) (p2 : s 51 10 = f 1) (p3 : s 51 11 = 1) (p4 : 0 ≤ n ∧ n < 2147483648) : Con Γ (d, 0, 0) mX8_playBest [.ref 0, .ref m, .int (iI n)] (jmem s ε) (RQ (fun w s' => gCnt n.toNat f = w ∧ RM s' m (gRun n.toNat f) ∧ (SO s' f ∧ s' 51 10 = f 1 ∧ s' 51 11 = 1) ∧ ∀ q j, (q ≠ 57 ∧ (q < m + 7 ∨ m + 15 ≤ q)) → s' q j = s q j) ε) X0 := by
  refine Con.ofJ (by decide +kernel) (by simp [Value.category]) (Nat.le_of_ble_eq_true rfl) ?_ hl
  have sr : SR s m f := ⟨p0, p1, p2, p3⟩
  have hw := RM.w p0
  have m7 := gMoves_rng hw.2.2.1
  have hm2 : m = 3 ∨ m = 21 ∨ m = 36 := hm
  refine I.iconst dX8_playBest_0 ?_
  refine J.istore_n 3 dX8_playBest_1 rfl (by decide) rfl ?_
  refine J.fgt (by exact ⟨Or.inr rfl, Or.inr rfl, Or.inr rfl, Or.inr rfl, trivial⟩) (k_X8_playBest_2 hl (by omega) hm p0 p1 p2 p3 p4 (n.toNat) (by omega) (by omega) p0 ⟨⟨p1, p2, p3⟩, gLay.refl f, rfl⟩ (fun _ _ _ => rfl) ?_)
  rintro s2 ⟨r2, o2, w2⟩
  refine J.iload_n 3 dX8_playBest_36 rfl rfl ?_
  exact I.iretQ dX8_playBest_37 rfl ⟨by omega, r2, o2, w2⟩
set_option maxHeartbeats 1000000 in
theorem c_X8_tryOptimalLine {Γ : jE} (hl : Γ.1.stackTraces = false) {s : Nat → Int → Int} {ε : jEps} {d : Nat} {f : Int → Int} (hd : 6 ≤ d) (p0 : RM s 21 f) (p1 : SO s f) : Con Γ (d, 0, 0) mX8_tryOptimalLine [.ref 0] (jmem s ε) (RW (fun s' => (RM s' 36 (gRun 42 f) ∧ RM s' 21 f) ∧ CFr s s' f) ε) X0 := by
  refine Con.ofJ (by decide +kernel) (by simp [Value.category]) (Nat.le_of_ble_eq_true rfl) ?_ hl
  have hw := RM.w p0
  have m7 := gMoves_rng hw.2.2.1
  refine J.aload_n 0 dX8_tryOptimalLine_0 rfl rfl ?_
  refine I.getR dX8_tryOptimalLine_1 jcls fX8_40 rfl (by decide) rfl rfl ?_
  refine J.aload_n 0 dX8_tryOptimalLine_4 rfl rfl ?_
  refine I.getR dX8_tryOptimalLine_5 jcls fX8_30 rfl (by decide) rfl rfl ?_
  refine I.callV1w (d' := d - 1) (mi' := mX5_solveOptimal) dX8_tryOptimalLine_8 lX8_248 eX5_solveOptimal rfl rfl (c_X5_solveOptimal (d := d - 1) hl (by omega) (by assumption) (by assumption)) (show d - 1 + 1 ≤ d from by omega) (Nat.le_of_ble_eq_true rfl) ?_
  rintro s8 ⟨o8, w8⟩
  have r8 : RM s8 21 f := p0.congr fun q j a b => w8 q j (by omega)
  refine J.aload_n 0 dX8_tryOptimalLine_11 rfl rfl ?_
  refine I.getR dX8_tryOptimalLine_12 jcls fX8_34 rfl (by decide) rfl rfl ?_
  refine J.aload_n 0 dX8_tryOptimalLine_15 rfl rfl ?_
  refine I.getR dX8_tryOptimalLine_16 jcls fX8_30 rfl (by decide) rfl rfl ?_
  refine I.callV1w (d' := d - 1) (mi' := mX2_copyFrom) dX8_tryOptimalLine_19 lX8_106 eX2_copyFrom rfl rfl (c_X2_copyFrom (d := d - 1) hl (by omega) jm36 jm21 r8 (by first | omega | assumption)) (show d - 1 + 1 ≤ d from by omega) (Nat.le_of_ble_eq_true rfl) ?_
  rintro s19 ⟨r19, w19⟩
  have t19 : SR s19 36 f := ⟨r19, o8.1.keep fun q j a => w19 q j (by omega), (w19 _ _ (by omega)).trans o8.2.1, (w19 _ _ (by omega)).trans o8.2.2⟩
  refine J.aload_n 0 dX8_tryOptimalLine_22 rfl rfl ?_
  refine J.aload_n 0 dX8_tryOptimalLine_23 rfl rfl ?_
  refine I.getR dX8_tryOptimalLine_24 jcls fX8_34 rfl (by decide) rfl rfl ?_
  refine I.bipush dX8_tryOptimalLine_27 (by decide) ?_
  refine I.callV2q (d' := d - 1) (mi' := mX8_playBest) dX8_tryOptimalLine_29 lX8_284 eX8_playBest rfl rfl (c_X8_playBest (d := d - 1) hl (by omega) jm36 t19.1 t19.2.1 t19.2.2.1 t19.2.2.2 (by omega)) (show d - 1 + 1 ≤ d from by omega) (Nat.le_of_ble_eq_true rfl) ?_
  rintro _ s29 ⟨rfl, r29, o29, w29⟩
  refine J.pop dX8_tryOptimalLine_32 ?_
  exact I.vretQ dX8_tryOptimalLine_33 rfl ⟨⟨r29, r8.congr fun q j a b => (w29 q j (by omega)).trans (w19 q j (by omega))⟩, o29.1, fun q j h => (w29 q j (by omega)).trans ((w19 q j (by omega)).trans (w8 q j (by omega)))⟩
set_option maxHeartbeats 1000000 in
theorem c_X8_optimalDifference {Γ : jE} (hl : Γ.1.stackTraces = false) {s : Nat → Int → Int} {ε : jEps} {d : Nat} {f : Int → Int} (hd : 5 ≤ d) (p0 : RM s 21 f) (p1 : SO s f) : Con Γ (d, 0, 0) mX8_optimalDifference [.ref 0] (jmem s ε) (RQ (fun w s' => gNow f = w ∧ CFr s s' f) ε) X0 := by
  refine Con.ofJ (by decide +kernel) (by simp [Value.category]) (Nat.le_of_ble_eq_true rfl) ?_ hl
  have hw := RM.w p0
  have m7 := gMoves_rng hw.2.2.1
  refine J.aload_n 0 dX8_optimalDifference_0 rfl rfl ?_
  refine I.getR dX8_optimalDifference_1 jcls fX8_40 rfl (by decide) rfl rfl ?_
  refine J.aload_n 0 dX8_optimalDifference_4 rfl rfl ?_
  refine I.getR dX8_optimalDifference_5 jcls fX8_30 rfl (by decide) rfl rfl ?_
  refine I.callV1w (d' := d - 1) (mi' := mX5_solveOptimal) dX8_optimalDifference_8 lX8_248 eX5_solveOptimal rfl rfl (c_X5_solveOptimal (d := d - 1) hl (by omega) (by assumption) (by assumption)) (show d - 1 + 1 ≤ d from by omega) (Nat.le_of_ble_eq_true rfl) ?_
  rintro s8 ⟨o8, w8⟩
  have r8 : SR s8 21 f := ⟨p0.congr fun q j a b => w8 q j (by omega), o8.1, o8.2.1, o8.2.2⟩
  refine J.aload_n 0 dX8_optimalDifference_11 rfl rfl ?_
  refine I.getR dX8_optimalDifference_12 jcls fX8_40 rfl (by decide) rfl rfl ?_
  refine J.aload_n 0 dX8_optimalDifference_15 rfl rfl ?_
  refine I.getR dX8_optimalDifference_16 jcls fX8_30 rfl (by decide) rfl rfl ?_
  refine I.callV1q (d' := d - 1) (mi' := mX5_optimalOf) dX8_optimalDifference_19 lX8_251 eX5_optimalOf rfl rfl (c_X5_optimalOf (d := d - 1) hl (by omega) r8.1 r8.2.1 r8.2.2.1 r8.2.2.2) (show d - 1 + 1 ≤ d from by omega) (Nat.le_of_ble_eq_true rfl) ?_
  rintro _ s19 ⟨rfl, w19⟩
  exact I.iretQ dX8_optimalDifference_22 rfl ⟨rfl, ⟨o8.1.keep fun q j x => w19 q j (by omega), fun q j x => (w19 q j (by omega)).trans (w8 q j (by omega))⟩⟩
set_option maxHeartbeats 1000000 in
theorem c_X8_expectedLead {Γ : jE} (hl : Γ.1.stackTraces = false) {s : Nat → Int → Int} {ε : jEps} {d : Nat} {f : Int → Int} (hd : 5 ≤ d) (p0 : RM s 21 f) (p1 : SO s f) : Con Γ (d, 0, 0) mX8_expectedLead [.ref 0] (jmem s ε) (RQ (fun w s' => f (6 + 2 * f 1 + f 2) - f (6 + 2 * f 1 + (1 - f 2)) + gNow f = w ∧ CFr s s' f) ε) X0 := by
  refine Con.ofJ (by decide +kernel) (by simp [Value.category]) (Nat.le_of_ble_eq_true rfl) ?_ hl
  have hw := RM.w p0
  have m7 := gMoves_rng hw.2.2.1
  refine J.aload_n 0 dX8_expectedLead_0 rfl rfl ?_
  refine I.getR dX8_expectedLead_1 jcls fX8_30 rfl (by decide) rfl rfl ?_
  refine I.getR dX8_expectedLead_4 jcls fX8_129 rfl (by decide) rfl rfl ?_
  refine I.gI 2 rfl dX8_expectedLead_7 jcls fX8_160 rfl (by decide) rfl ?_
  refine I.sx (RM.mover p0) ?_
  refine J.istore_n 1 dX8_expectedLead_10 rfl (by decide) rfl ?_
  refine J.aload_n 0 dX8_expectedLead_11 rfl rfl ?_
  refine I.getR dX8_expectedLead_12 jcls fX8_40 rfl (by decide) rfl rfl ?_
  refine J.aload_n 0 dX8_expectedLead_15 rfl rfl ?_
  refine I.getR dX8_expectedLead_16 jcls fX8_30 rfl (by decide) rfl rfl ?_
  refine I.callV1w (d' := d - 1) (mi' := mX5_solveOptimal) dX8_expectedLead_19 lX8_248 eX5_solveOptimal rfl rfl (c_X5_solveOptimal (d := d - 1) hl (by omega) (by assumption) (by assumption)) (show d - 1 + 1 ≤ d from by omega) (Nat.le_of_ble_eq_true rfl) ?_
  rintro s19 ⟨o19, w19⟩
  have r19 : SR s19 21 f := ⟨p0.congr fun q j a b => w19 q j (by omega), o19.1, o19.2.1, o19.2.2⟩
  refine J.aload_n 0 dX8_expectedLead_22 rfl rfl ?_
  refine I.getR dX8_expectedLead_23 jcls fX8_30 rfl (by decide) rfl rfl ?_
  refine J.iload_n 1 dX8_expectedLead_26 rfl rfl ?_
  refine I.callV1i (d' := d - 1) (mi' := mX2_scoreNow) dX8_expectedLead_27 lX8_245 eX2_scoreNow rfl rfl (c_X2_scoreNow (d := d - 1) hl (by omega) jm21 r19.1 (by first | omega | assumption)) (show d - 1 + 1 ≤ d from by omega) (Nat.le_of_ble_eq_true rfl) ?_
  refine J.aload_n 0 dX8_expectedLead_30 rfl rfl ?_
  refine I.getR dX8_expectedLead_31 jcls fX8_30 rfl (by decide) rfl rfl ?_
  refine I.iconst dX8_expectedLead_34 ?_
  refine J.iload_n 1 dX8_expectedLead_35 rfl rfl ?_
  refine I.sub dX8_expectedLead_36 ?_
  refine I.callV1i (d' := d - 1) (mi' := mX2_scoreNow) dX8_expectedLead_37 lX8_245 eX2_scoreNow rfl rfl (c_X2_scoreNow (d := d - 1) hl (by omega) jm21 r19.1 (by first | omega | assumption)) (show d - 1 + 1 ≤ d from by omega) (Nat.le_of_ble_eq_true rfl) ?_
  refine I.sub dX8_expectedLead_40 ?_
  refine J.aload_n 0 dX8_expectedLead_41 rfl rfl ?_
  refine I.getR dX8_expectedLead_42 jcls fX8_40 rfl (by decide) rfl rfl ?_
  refine J.aload_n 0 dX8_expectedLead_45 rfl rfl ?_
  refine I.getR dX8_expectedLead_46 jcls fX8_30 rfl (by decide) rfl rfl ?_
  refine I.callV1q (d' := d - 1) (mi' := mX5_optimalOf) dX8_expectedLead_49 lX8_251 eX5_optimalOf rfl rfl (c_X5_optimalOf (d := d - 1) hl (by omega) r19.1 r19.2.1 r19.2.2.1 r19.2.2.2) (show d - 1 + 1 ≤ d from by omega) (Nat.le_of_ble_eq_true rfl) ?_
  rintro _ s49 ⟨rfl, w49⟩
  refine I.add dX8_expectedLead_52 ?_
  exact I.iretQ dX8_expectedLead_53 rfl ⟨rfl, ⟨o19.1.keep fun q j x => w49 q j (by omega), fun q j x => (w49 q j (by omega)).trans (w19 q j (by omega))⟩⟩
set_option maxHeartbeats 1000000 in
theorem c_X8_moveValue {Γ : jE} (hl : Γ.1.stackTraces = false) {s : Nat → Int → Int} {ε : jEps} {d : Nat} {i : Int} {f : Int → Int} (hd : 5 ≤ d) (p0 : RM s 21 f) (p1 : SO s f) (p2 : -2147483648 ≤ i ∧ i < 2147483648) : Con Γ (d, 1, 6) mX8_moveValue [.ref 0, .int (iI i)] (jmem s ε) (RQ (fun w s' => (0 ≤ i ∧ i < gMoves f) ∧ gVal f (gMvAt f i) = w ∧ CFr s s' f) ε) (XT "java/lang/IndexOutOfBoundsException" (¬ (0 ≤ i ∧ i < gMoves f)) s ε) := by
  refine Con.ofJ (by decide +kernel) (by simp [Value.category]) (Nat.le_of_ble_eq_true rfl) ?_ hl
  have hw := RM.w p0
  have m7 := gMoves_rng hw.2.2.1
  refine J.aload_n 0 dX8_moveValue_0 rfl rfl ?_
  refine J.iload_n 1 dX8_moveValue_1 rfl rfl ?_
  refine I.callV1qX (b' := (d - 1, 1, 6)) (mi' := mX8_neededCode) dX8_moveValue_2 lX8_208 eX8_neededCode rfl rfl (c_X8_neededCode (d := d - 1) hl (by omega) (by assumption) (by first | omega | assumption)) (show d - 1 + 1 ≤ d ∧ 1 ≤ 1 ∧ 6 ≤ 6 from ⟨by omega, by decide, by decide⟩) (by rintro E M' ⟨rfl, hc, rfl⟩; exact ⟨rfl, by first | exact hc | omega, rfl⟩) (Nat.le_of_ble_eq_true rfl) ?_
  rintro _ _ ⟨ok2, rfl, rfl⟩
  refine J.istore_n 2 dX8_moveValue_5 rfl (by decide) rfl ?_
  have ho : ¬ gOver f := fun h => by have := gMoves_over h; have := ok2; omega
  have lg := gMvAt_legal (f := f) hw.2.2.1 ok2.1
  refine J.aload_n 0 dX8_moveValue_6 rfl rfl ?_
  refine I.getR dX8_moveValue_7 jcls fX8_40 rfl (by decide) rfl rfl ?_
  refine J.aload_n 0 dX8_moveValue_10 rfl rfl ?_
  refine I.getR dX8_moveValue_11 jcls fX8_30 rfl (by decide) rfl rfl ?_
  refine I.callV1w (d' := d - 1) (mi' := mX5_solveOptimal) dX8_moveValue_14 lX8_248 eX5_solveOptimal rfl rfl (c_X5_solveOptimal (d := d - 1) hl (by omega) (by assumption) (by assumption)) (show d - 1 + 1 ≤ d from by omega) (Nat.le_of_ble_eq_true rfl) ?_
  rintro s14 ⟨o14, w14⟩
  have r14 : SR s14 21 f := ⟨p0.congr fun q j a b => w14 q j (by omega), o14.1, o14.2.1, o14.2.2⟩
  refine J.aload_n 0 dX8_moveValue_17 rfl rfl ?_
  refine I.getR dX8_moveValue_18 jcls fX8_40 rfl (by decide) rfl rfl ?_
  refine J.aload_n 0 dX8_moveValue_21 rfl rfl ?_
  refine I.getR dX8_moveValue_22 jcls fX8_30 rfl (by decide) rfl rfl ?_
  refine J.iload_n 2 dX8_moveValue_25 rfl rfl ?_
  refine I.callV2q (d' := d - 1) (mi' := mX5_valueOf) dX8_moveValue_26 lX8_255 eX5_valueOf rfl rfl (c_X5_valueOf (d := d - 1) hl (by omega) jm21 r14.1 r14.2.1 r14.2.2.1 r14.2.2.2 lg ho) (show d - 1 + 1 ≤ d from by omega) (Nat.le_of_ble_eq_true rfl) ?_
  rintro _ s26 ⟨rfl, w26⟩
  exact I.iretQ dX8_moveValue_29 rfl ⟨ok2, rfl, ⟨o14.1.keep fun q j x => w26 q j (by omega), fun q j x => (w26 q j (by omega)).trans (w14 q j (by omega))⟩⟩
set_option maxHeartbeats 1000000 in
theorem c_X8_optimalMove {Γ : jE} (hl : Γ.1.stackTraces = false) {s : Nat → Int → Int} {ε : jEps} {d : Nat} {f : Int → Int} (hd : 5 ≤ d) (p0 : RM s 21 f) (p1 : SO s f) : Con Γ (d, 1, 6) mX8_optimalMove [.ref 0] (jmem s ε) (RQ (fun w s' => (¬ gOver f) ∧ gFo f = w ∧ CFr s s' f) ε) (XT "java/util/NoSuchElementException" (¬ (¬ gOver f)) s ε) := by
  refine Con.ofJ (by decide +kernel) (by simp [Value.category]) (Nat.le_of_ble_eq_true rfl) ?_ hl
  have hw := RM.w p0
  have m7 := gMoves_rng hw.2.2.1
  refine J.aload_n 0 dX8_optimalMove_0 rfl rfl ?_
  refine I.getR dX8_optimalMove_1 jcls fX8_30 rfl (by decide) rfl rfl ?_
  refine I.getR dX8_optimalMove_4 jcls fX8_129 rfl (by decide) rfl rfl ?_
  refine I.gI 4 rfl dX8_optimalMove_7 jcls fX8_135 rfl (by decide) rfl ?_
  refine I.sx (RM.over p0) ?_
  refine I.if_eqB 24 dX8_optimalMove_10 (by decide) (fun h10 => ?_) (fun h10 => ?_)
  · skip
    refine J.aload_n 0 dX8_optimalMove_24 rfl rfl ?_
    refine I.getR dX8_optimalMove_25 jcls fX8_40 rfl (by decide) rfl rfl ?_
    refine J.aload_n 0 dX8_optimalMove_28 rfl rfl ?_
    refine I.getR dX8_optimalMove_29 jcls fX8_30 rfl (by decide) rfl rfl ?_
    refine I.callV1w (d' := d - 1) (mi' := mX5_solveOptimal) dX8_optimalMove_32 lX8_248 eX5_solveOptimal rfl rfl (c_X5_solveOptimal (d := d - 1) hl (by omega) (by assumption) (by assumption)) (show d - 1 + 1 ≤ d from by omega) (Nat.le_of_ble_eq_true rfl) ?_
    rintro s32 ⟨o32, w32⟩
    have r32 : SR s32 21 f := ⟨p0.congr fun q j a b => w32 q j (by omega), o32.1, o32.2.1, o32.2.2⟩
    refine J.aload_n 0 dX8_optimalMove_35 rfl rfl ?_
    refine J.aload_n 0 dX8_optimalMove_36 rfl rfl ?_
    refine I.getR dX8_optimalMove_37 jcls fX8_30 rfl (by decide) rfl rfl ?_
    refine I.callV1q (d' := d - 1) (mi' := mX8_firstBest) dX8_optimalMove_40 lX8_264 eX8_firstBest rfl rfl (c_X8_firstBest (d := d - 1) hl (by omega) jm21 r32.1 r32.2.1 r32.2.2.1 r32.2.2.2 h10) (show d - 1 + 1 ≤ d from by omega) (Nat.le_of_ble_eq_true rfl) ?_
    rintro _ s40 ⟨rfl, w40⟩
    exact I.iretQ dX8_optimalMove_43 rfl ⟨h10, rfl, ⟨o32.1.keep fun q j x => w40 q j (by omega), fun q j x => (w40 q j (by omega)).trans (w32 q j (by omega))⟩⟩
  · skip
    exact I.throw263 (text := "the round is over") rfl (by decide) (Or.inr ⟨dX8_optimalMove_13, dX8_optimalMove_16, dX8_optimalMove_17, dX8_optimalMove_20, dX8_optimalMove_23⟩) (show 1 ≤ 1 ∧ 6 ≤ 6 from by decide) ⟨rfl, fun h => h (by assumption), rfl⟩
set_option maxHeartbeats 1000000 in
theorem k_X8_worstMove_59 {Γ : jE} (hl : Γ.1.stackTraces = false) {s : Nat → Int → Int} {ε : jEps} {d : Nat} {f : Int → Int} (hd : 5 ≤ d) (p0 : RM s 21 f) (p1 : SO s f) {mc ms : Nat} {P : Option Value → jM → Prop} {X : String → jM → Prop} : ∀ (k : Nat) {z : Nat → Int → Int} {i b : Int} (q0 : ((k : Nat) : Int) = gMoves f - i) (q1 : 1 ≤ i) (q2 : SR z 21 f) (q3 : ∀ q j, (q < 51 ∨ 60 < q) → z q j = s q j) (q4 : 0 ≤ b ∧ b < gMoves f) (q5 : ¬ gOver f) (kx : ∀ s', (SR s' 21 f ∧ ∀ q j, (q < 51 ∨ 60 < q) → s' q j = s q j) → J Γ (d, mc, ms) mX8_worstMove 108 [some (.ref 0), some (.int (iI (foldF (gWoS f) k i b))), none, none, none] [] (jmem s' ε) P X), J Γ (d, mc, ms) mX8_worstMove 59 [some (.ref 0), some (.int (iI (b))), some (.int (iI (gVal f (gMvAt f b)))), some (.int (iI (i))), none] [] (jmem z ε) P X := by
  have hw := RM.w p0
  have m7 := gMoves_rng hw.2.2.1
  intro k
  induction k with
  | zero =>
    intro z i b q0 q1 q2 q3 q4 q5 kx
    refine J.iload_n 3 dX8_worstMove_59 rfl rfl ?_
    refine J.aload_n 0 dX8_worstMove_60 rfl rfl ?_
    refine I.getR dX8_worstMove_61 jcls fX8_30 rfl (by decide) rfl rfl ?_
    refine I.callV0i (d' := d - 1) (mi' := mX2_movesNow) dX8_worstMove_64 lX8_205 eX2_movesNow rfl rfl (c_X2_movesNow (d := d - 1) hl (by omega) jm21 q2.1) (show d - 1 + 1 ≤ d from by omega) (Nat.le_of_ble_eq_true rfl) ?_
    refine I.icmp_ge 108 dX8_worstMove_67 (by decide) (by omega) (by omega) (fun h67 => ?_) (fun h67 => ?_)
    · skip
      exact J.fgt (by exact ⟨Or.inr rfl, Or.inr rfl, Or.inl rfl, Or.inl rfl, Or.inl rfl, trivial⟩) (kx _ ⟨q2, q3⟩)
    · exact absurd h67 (by omega)
  | succ k ih =>
    intro z i b q0 q1 q2 q3 q4 q5 kx
    refine J.iload_n 3 dX8_worstMove_59 rfl rfl ?_
    refine J.aload_n 0 dX8_worstMove_60 rfl rfl ?_
    refine I.getR dX8_worstMove_61 jcls fX8_30 rfl (by decide) rfl rfl ?_
    refine I.callV0i (d' := d - 1) (mi' := mX2_movesNow) dX8_worstMove_64 lX8_205 eX2_movesNow rfl rfl (c_X2_movesNow (d := d - 1) hl (by omega) jm21 q2.1) (show d - 1 + 1 ≤ d from by omega) (Nat.le_of_ble_eq_true rfl) ?_
    refine I.icmp_ge 108 dX8_worstMove_67 (by decide) (by omega) (by omega) (fun h67 => ?_) (fun h67 => ?_)
    · exact absurd h67 (by omega)
    · skip
      have lgi := gMvAt_legal (f := f) hw.2.2.1 (i := i) (by omega)
      have lgb := gMvAt_legal (f := f) hw.2.2.1 (i := b) (by omega)
      have ri := gVal_rng p0.l p0.v lgi
      have rb := gVal_rng p0.l p0.v lgb
      refine J.aload_n 0 dX8_worstMove_70 rfl rfl ?_
      refine I.getR dX8_worstMove_71 jcls fX8_40 rfl (by decide) rfl rfl ?_
      refine J.aload_n 0 dX8_worstMove_74 rfl rfl ?_
      refine I.getR dX8_worstMove_75 jcls fX8_30 rfl (by decide) rfl rfl ?_
      refine J.aload_n 0 dX8_worstMove_78 rfl rfl ?_
      refine I.getR dX8_worstMove_79 jcls fX8_30 rfl (by decide) rfl rfl ?_
      refine J.iload_n 3 dX8_worstMove_82 rfl rfl ?_
      refine I.callV1i (d' := d - 1) (mi' := mX2_codeOfMove) dX8_worstMove_83 lX8_236 eX2_codeOfMove rfl rfl (c_X2_codeOfMove (d := d - 1) hl (by omega) jm21 q2.1 (by first | omega | assumption)) (show d - 1 + 1 ≤ d from by omega) (Nat.le_of_ble_eq_true rfl) ?_
      refine I.sx (gCode_in ⟨by omega, by omega⟩) ?_
      refine I.callV2q (d' := d - 1) (mi' := mX5_valueOf) dX8_worstMove_86 lX8_255 eX5_valueOf rfl rfl (c_X5_valueOf (d := d - 1) hl (by omega) jm21 q2.1 q2.2.1 q2.2.2.1 q2.2.2.2 lgi q5) (show d - 1 + 1 ≤ d from by omega) (Nat.le_of_ble_eq_true rfl) ?_
      rintro _ s86 ⟨rfl, w86⟩
      refine J.istore dX8_worstMove_89 (by decide) rfl ?_
      refine J.iload dX8_worstMove_91 rfl ?_
      refine J.iload_n 2 dX8_worstMove_93 rfl rfl ?_
      refine I.icmp_ge 102 dX8_worstMove_94 (by decide) (by omega) (by omega) (fun h94 => ?_) (fun h94 => ?_)
      · skip
        have e : gWoS f i b = b := if_neg (by omega)
        refine I.iinc dX8_worstMove_102 rfl rfl ?_
        refine J.goto 59 dX8_worstMove_105 (by decide) ?_
        exact J.fgt (by exact ⟨Or.inr rfl, Or.inr rfl, Or.inr rfl, Or.inr rfl, Or.inl rfl, trivial⟩) (ih (by omega) (by omega) (q2.w jm21 w86) (fun q j h => (w86 q j (by omega)).trans (q3 q j h)) (by omega) q5 (fun s' hs => by have := kx s' hs; rw [foldF_s, e] at this; exact this))
      · skip
        have e : gWoS f i b = i := if_pos (by omega)
        refine J.iload dX8_worstMove_97 rfl ?_
        refine J.istore_n 2 dX8_worstMove_99 rfl (by decide) rfl ?_
        refine J.iload_n 3 dX8_worstMove_100 rfl rfl ?_
        refine J.istore_n 1 dX8_worstMove_101 rfl (by decide) rfl ?_
        refine I.iinc dX8_worstMove_102 rfl rfl ?_
        refine J.goto 59 dX8_worstMove_105 (by decide) ?_
        exact J.fgt (by exact ⟨Or.inr rfl, Or.inr rfl, Or.inr rfl, Or.inr rfl, Or.inl rfl, trivial⟩) (ih (by omega) (by omega) (q2.w jm21 w86) (fun q j h => (w86 q j (by omega)).trans (q3 q j h)) (by omega) q5 (fun s' hs => by have := kx s' hs; rw [foldF_s, e] at this; exact this))
set_option maxHeartbeats 1000000 in
theorem c_X8_worstMove {Γ : jE} (hl : Γ.1.stackTraces = false) {s : Nat → Int → Int} {ε : jEps} {d : Nat} {f : Int → Int} (hd : 5 ≤ d) (p0 : RM s 21 f) (p1 : SO s f) : Con Γ (d, 1, 6) mX8_worstMove [.ref 0] (jmem s ε) (RQ (fun w s' => (¬ gOver f) ∧ gWo f = w ∧ CFr s s' f) ε) (XT "java/util/NoSuchElementException" (¬ (¬ gOver f)) s ε) := by
  refine Con.ofJ (by decide +kernel) (by simp [Value.category]) (Nat.le_of_ble_eq_true rfl) ?_ hl
  have hw := RM.w p0
  have m7 := gMoves_rng hw.2.2.1
  refine J.aload_n 0 dX8_worstMove_0 rfl rfl ?_
  refine I.getR dX8_worstMove_1 jcls fX8_30 rfl (by decide) rfl rfl ?_
  refine I.getR dX8_worstMove_4 jcls fX8_129 rfl (by decide) rfl rfl ?_
  refine I.gI 4 rfl dX8_worstMove_7 jcls fX8_135 rfl (by decide) rfl ?_
  refine I.sx (RM.over p0) ?_
  refine I.if_eqB 24 dX8_worstMove_10 (by decide) (fun h10 => ?_) (fun h10 => ?_)
  · skip
    refine J.aload_n 0 dX8_worstMove_24 rfl rfl ?_
    refine I.getR dX8_worstMove_25 jcls fX8_40 rfl (by decide) rfl rfl ?_
    refine J.aload_n 0 dX8_worstMove_28 rfl rfl ?_
    refine I.getR dX8_worstMove_29 jcls fX8_30 rfl (by decide) rfl rfl ?_
    refine I.callV1w (d' := d - 1) (mi' := mX5_solveOptimal) dX8_worstMove_32 lX8_248 eX5_solveOptimal rfl rfl (c_X5_solveOptimal (d := d - 1) hl (by omega) (by assumption) (by assumption)) (show d - 1 + 1 ≤ d from by omega) (Nat.le_of_ble_eq_true rfl) ?_
    rintro s32 ⟨o32, w32⟩
    have r32 : SR s32 21 f := ⟨p0.congr fun q j a b => w32 q j (by omega), o32.1, o32.2.1, o32.2.2⟩
    have mp := gMoves_pos hw.2.2.1 h10
    have lg0 := gMvAt_legal (f := f) hw.2.2.1 (i := 0) (by omega)
    refine I.iconst dX8_worstMove_35 ?_
    refine J.istore_n 1 dX8_worstMove_36 rfl (by decide) rfl ?_
    refine J.aload_n 0 dX8_worstMove_37 rfl rfl ?_
    refine I.getR dX8_worstMove_38 jcls fX8_40 rfl (by decide) rfl rfl ?_
    refine J.aload_n 0 dX8_worstMove_41 rfl rfl ?_
    refine I.getR dX8_worstMove_42 jcls fX8_30 rfl (by decide) rfl rfl ?_
    refine J.aload_n 0 dX8_worstMove_45 rfl rfl ?_
    refine I.getR dX8_worstMove_46 jcls fX8_30 rfl (by decide) rfl rfl ?_
    refine I.iconst dX8_worstMove_49 ?_
    refine I.callV1i (d' := d - 1) (mi' := mX2_codeOfMove) dX8_worstMove_50 lX8_236 eX2_codeOfMove rfl rfl (c_X2_codeOfMove (d := d - 1) hl (by omega) jm21 r32.1 (by first | omega | assumption)) (show d - 1 + 1 ≤ d from by omega) (Nat.le_of_ble_eq_true rfl) ?_
    refine I.sx (gCode_in ⟨by omega, by omega⟩) ?_
    refine I.callV2q (d' := d - 1) (mi' := mX5_valueOf) dX8_worstMove_53 lX8_255 eX5_valueOf rfl rfl (c_X5_valueOf (d := d - 1) hl (by omega) jm21 r32.1 r32.2.1 r32.2.2.1 r32.2.2.2 lg0 h10) (show d - 1 + 1 ≤ d from by omega) (Nat.le_of_ble_eq_true rfl) ?_
    rintro _ s53 ⟨rfl, w53⟩
    refine J.istore_n 2 dX8_worstMove_56 rfl (by decide) rfl ?_
    refine I.iconst dX8_worstMove_57 ?_
    refine J.istore_n 3 dX8_worstMove_58 rfl (by decide) rfl ?_
    refine J.fgt (by exact ⟨Or.inr rfl, Or.inr rfl, Or.inr rfl, Or.inr rfl, Or.inl rfl, trivial⟩) (k_X8_worstMove_59 hl (by omega) p0 p1 ((gMoves f - 1).toNat) (by omega) (by omega) (r32.w jm21 w53) (fun q j h => (w53 q j (by omega)).trans (w32 q j h)) (by omega) h10 ?_)
    rintro s59 ⟨r59, w59⟩
    refine J.iload_n 1 dX8_worstMove_108 rfl rfl ?_
    exact I.iretQ dX8_worstMove_109 rfl ⟨h10, rfl, r59.2.1, fun q j x => w59 q j (by omega)⟩
  · skip
    exact I.throw263 (text := "the round is over") rfl (by decide) (Or.inr ⟨dX8_worstMove_13, dX8_worstMove_16, dX8_worstMove_17, dX8_worstMove_20, dX8_worstMove_23⟩) (show 1 ≤ 1 ∧ 6 ≤ 6 from by decide) ⟨rfl, fun h => h (by assumption), rfl⟩
set_option maxHeartbeats 1000000 in
theorem c_X8_optimalMoveCount {Γ : jE} (hl : Γ.1.stackTraces = false) {s : Nat → Int → Int} {ε : jEps} {d : Nat} {f : Int → Int} (hd : 6 ≤ d) (p0 : RM s 21 f) (p1 : SO s f) : Con Γ (d, 0, 0) mX8_optimalMoveCount [.ref 0] (jmem s ε) (RQ (fun w s' => gMany f = w ∧ CFr s s' f) ε) X0 := by
  refine Con.ofJ (by decide +kernel) (by simp [Value.category]) (Nat.le_of_ble_eq_true rfl) ?_ hl
  have hw := RM.w p0
  have m7 := gMoves_rng hw.2.2.1
  refine J.aload_n 0 dX8_optimalMoveCount_0 rfl rfl ?_
  refine I.callV0q (d' := d - 1) (mi' := mX8_countBest) dX8_optimalMoveCount_1 lX8_267 eX8_countBest rfl rfl (c_X8_countBest (d := d - 1) hl (by omega) (by assumption) (by assumption)) (show d - 1 + 1 ≤ d from by omega) (Nat.le_of_ble_eq_true rfl) ?_
  rintro _ s1 ⟨rfl, o1, w1⟩
  exact I.iretQ dX8_optimalMoveCount_4 rfl ⟨rfl, o1.1, fun q j x => w1 q j (by omega)⟩
set_option maxHeartbeats 1000000 in
theorem c_X8_isPassForced {Γ : jE} (hl : Γ.1.stackTraces = false) {s : Nat → Int → Int} {ε : jEps} {d : Nat} {f : Int → Int} (hd : 6 ≤ d) (p0 : RM s 21 f) (p1 : SO s f) : Con Γ (d, 0, 0) mX8_isPassForced [.ref 0] (jmem s ε) (RQ (fun w s' => bI (gMany f = 1 ∧ gVal f 6 = gNow f) = w ∧ CFr s s' f) ε) X0 := by
  refine Con.ofJ (by decide +kernel) (by simp [Value.category]) (Nat.le_of_ble_eq_true rfl) ?_ hl
  have hw := RM.w p0
  have m7 := gMoves_rng hw.2.2.1
  have mr := gMany_rng (f := f) hw.2.2.1
  refine J.aload_n 0 dX8_isPassForced_0 rfl rfl ?_
  refine I.getR dX8_isPassForced_1 jcls fX8_30 rfl (by decide) rfl rfl ?_
  refine I.getR dX8_isPassForced_4 jcls fX8_129 rfl (by decide) rfl rfl ?_
  refine I.gI 4 rfl dX8_isPassForced_7 jcls fX8_135 rfl (by decide) rfl ?_
  refine I.sx (RM.over p0) ?_
  refine I.if_eqB 15 dX8_isPassForced_10 (by decide) (fun h10 => ?_) (fun h10 => ?_)
  · skip
    refine J.aload_n 0 dX8_isPassForced_15 rfl rfl ?_
    refine I.callV0q (d' := d - 1) (mi' := mX8_countBest) dX8_isPassForced_16 lX8_267 eX8_countBest rfl rfl (c_X8_countBest (d := d - 1) hl (by omega) (by assumption) (by assumption)) (show d - 1 + 1 ≤ d from by omega) (Nat.le_of_ble_eq_true rfl) ?_
    rintro _ s16 ⟨rfl, o16, w16⟩
    have r16 : SR s16 21 f := ⟨p0.congr fun q j a b => w16 q j (by omega), o16.1, o16.2.1, o16.2.2⟩
    have fr := gFo_rng hw.2.2.1 h10
    have fi := forced_iff p0.l p0.v h10
    have lg := gFo_legal p0.l p0.v h10
    have z6 := gLegal_rng hw.2.2.1 lg.ok
    refine I.iconst dX8_isPassForced_19 ?_
    refine I.icmp_ne 47 dX8_isPassForced_20 (by decide) (by omega) (by omega) (fun h20 => ?_) (fun h20 => ?_)
    · skip
      refine I.iconst dX8_isPassForced_47 ?_
      exact I.zretQ dX8_isPassForced_48 rfl (by first | exact Or.inl rfl | exact Or.inr rfl | exact bI_01 _ | omega) ⟨bI_f fun h => h20 h.1, o16.1, fun q j x => w16 q j (by omega)⟩
    · skip
      refine J.aload_n 0 dX8_isPassForced_23 rfl rfl ?_
      refine I.getR dX8_isPassForced_24 jcls fX8_30 rfl (by decide) rfl rfl ?_
      refine J.aload_n 0 dX8_isPassForced_27 rfl rfl ?_
      refine J.aload_n 0 dX8_isPassForced_28 rfl rfl ?_
      refine I.getR dX8_isPassForced_29 jcls fX8_30 rfl (by decide) rfl rfl ?_
      refine I.callV1q (d' := d - 1) (mi' := mX8_firstBest) dX8_isPassForced_32 lX8_264 eX8_firstBest rfl rfl (c_X8_firstBest (d := d - 1) hl (by omega) jm21 r16.1 r16.2.1 r16.2.2.1 r16.2.2.2 h10) (show d - 1 + 1 ≤ d from by omega) (Nat.le_of_ble_eq_true rfl) ?_
      rintro _ s32 ⟨rfl, w32⟩
      refine I.callV1i (d' := d - 1) (mi' := mX2_codeOfMove) dX8_isPassForced_35 lX8_236 eX2_codeOfMove rfl rfl (c_X2_codeOfMove (d := d - 1) hl (by omega) jm21 (r16.w jm21 w32).1 (by omega)) (show d - 1 + 1 ≤ d from by omega) (Nat.le_of_ble_eq_true rfl) ?_
      refine I.sx (gCode_in fr) ?_
      refine I.bipush dX8_isPassForced_38 (by decide) ?_
      refine I.icmp_ne 47 dX8_isPassForced_40 (by decide) (by omega) (by omega) (fun h40 => ?_) (fun h40 => ?_)
      · skip
        refine I.iconst dX8_isPassForced_47 ?_
        exact I.zretQ dX8_isPassForced_48 rfl (by first | exact Or.inl rfl | exact Or.inr rfl | exact bI_01 _ | omega) ⟨bI_f fun h => h40 (fi.mp h).2, ⟨o16.1.keep fun q j x => w32 q j (by omega), fun q j x => (w32 q j (by omega)).trans (w16 q j (by omega))⟩⟩
      · skip
        refine I.iconst dX8_isPassForced_43 ?_
        refine J.goto 48 dX8_isPassForced_44 (by decide) ?_
        exact I.zretQ dX8_isPassForced_48 rfl (by first | exact Or.inl rfl | exact Or.inr rfl | exact bI_01 _ | omega) ⟨bI_t (fi.mpr ⟨h20, h40⟩), ⟨o16.1.keep fun q j x => w32 q j (by omega), fun q j x => (w32 q j (by omega)).trans (w16 q j (by omega))⟩⟩
  · skip
    refine I.iconst dX8_isPassForced_13 ?_
    exact I.zretQ dX8_isPassForced_14 rfl (by first | exact Or.inl rfl | exact Or.inr rfl | exact bI_01 _ | omega) ⟨bI_f fun h => by have := gMany_over h10; have := h.1; omega, ⟨p1, fun _ _ _ => rfl⟩⟩
set_option maxHeartbeats 1000000 in
theorem c_X8_optimalLineLength {Γ : jE} (hl : Γ.1.stackTraces = false) {s : Nat → Int → Int} {ε : jEps} {d : Nat} {f : Int → Int} (hd : 7 ≤ d) (p0 : RM s 21 f) (p1 : SO s f) : Con Γ (d, 0, 0) mX8_optimalLineLength [.ref 0] (jmem s ε) (RQ (fun w s' => gCnt 48 f = w ∧ CFr s s' f) ε) X0 := by
  refine Con.ofJ (by decide +kernel) (by simp [Value.category]) (Nat.le_of_ble_eq_true rfl) ?_ hl
  have hw := RM.w p0
  have m7 := gMoves_rng hw.2.2.1
  refine J.aload_n 0 dX8_optimalLineLength_0 rfl rfl ?_
  refine I.callV0w (d' := d - 1) (mi' := mX8_tryOptimalLine) dX8_optimalLineLength_1 lX8_270 eX8_tryOptimalLine rfl rfl (c_X8_tryOptimalLine (d := d - 1) hl (by omega) (by assumption) (by assumption)) (show d - 1 + 1 ≤ d from by omega) (Nat.le_of_ble_eq_true rfl) ?_
  rintro s1 ⟨⟨t1, r1⟩, c1⟩
  refine J.aload_n 0 dX8_optimalLineLength_4 rfl rfl ?_
  refine I.getR dX8_optimalLineLength_5 jcls fX8_34 rfl (by decide) rfl rfl ?_
  refine I.getR dX8_optimalLineLength_8 jcls fX8_129 rfl (by decide) rfl rfl ?_
  refine I.gI 5 rfl dX8_optimalLineLength_11 jcls fX8_221 rfl (by decide) rfl ?_
  refine I.sx (RM.logged t1) ?_
  refine J.aload_n 0 dX8_optimalLineLength_14 rfl rfl ?_
  refine I.getR dX8_optimalLineLength_15 jcls fX8_30 rfl (by decide) rfl rfl ?_
  refine I.getR dX8_optimalLineLength_18 jcls fX8_129 rfl (by decide) rfl rfl ?_
  refine I.gI 5 rfl dX8_optimalLineLength_21 jcls fX8_221 rfl (by decide) rfl ?_
  refine I.sx (RM.logged r1) ?_
  refine I.sub dX8_optimalLineLength_24 ?_
  exact I.iretQ dX8_optimalLineLength_25 rfl ⟨by rw [(gRun_48 p0.l p0.v).2, gRun_5]; omega, c1⟩
set_option maxHeartbeats 1000000 in
theorem c_X8_optimalLineScore {Γ : jE} (hl : Γ.1.stackTraces = false) {s : Nat → Int → Int} {ε : jEps} {d : Nat} {i : Int} {f : Int → Int} (hd : 7 ≤ d) (p0 : RM s 21 f) (p1 : SO s f) (p2 : -2147483648 ≤ i ∧ i < 2147483648) : Con Γ (d, 1, 6) mX8_optimalLineScore [.ref 0, .int (iI i)] (jmem s ε) (RQ (fun w s' => (gLok f i) ∧ gPt (gRun i.toNat f) (gMvAt (gRun i.toNat f) (gFo (gRun i.toNat f))) = w ∧ CFr s s' f) ε) (XQ "java/lang/IndexOutOfBoundsException" (fun s' => ¬ gLok f i ∧ CFr s s' f) ε) := by
  refine Con.ofJ (by decide +kernel) (by simp [Value.category]) (Nat.le_of_ble_eq_true rfl) ?_ hl
  have hw := RM.w p0
  have m7 := gMoves_rng hw.2.2.1
  have ki := gLok_iff p0.l p0.v i
  have r5 := @gRun_5 42 f
  have cr := @gCnt_rng 42 f
  have m5 := p0.v.moves
  refine J.aload_n 0 dX8_optimalLineScore_0 rfl rfl ?_
  refine I.callV0w (d' := d - 1) (mi' := mX8_tryOptimalLine) dX8_optimalLineScore_1 lX8_270 eX8_tryOptimalLine rfl rfl (c_X8_tryOptimalLine (d := d - 1) hl (by omega) (by assumption) (by assumption)) (show d - 1 + 1 ≤ d from by omega) (Nat.le_of_ble_eq_true rfl) ?_
  rintro s1 ⟨⟨t1, r1⟩, c1⟩
  have gl := (gRun_lv 42 p0.l p0.v).2.1.moves
  refine J.aload_n 0 dX8_optimalLineScore_4 rfl rfl ?_
  refine I.getR dX8_optimalLineScore_5 jcls fX8_30 rfl (by decide) rfl rfl ?_
  refine I.getR dX8_optimalLineScore_8 jcls fX8_129 rfl (by decide) rfl rfl ?_
  refine I.gI 5 rfl dX8_optimalLineScore_11 jcls fX8_221 rfl (by decide) rfl ?_
  refine I.sx (RM.logged r1) ?_
  refine J.istore_n 2 dX8_optimalLineScore_14 rfl (by decide) rfl ?_
  refine J.iload_n 1 dX8_optimalLineScore_15 rfl rfl ?_
  refine I.if_lt 35 dX8_optimalLineScore_16 (by decide) (by omega) (fun h16 => ?_) (fun h16 => ?_)
  · skip
    exact I.throw277 (text := "no such move in the line") rfl (by decide) (Or.inr ⟨dX8_optimalLineScore_35, dX8_optimalLineScore_38, dX8_optimalLineScore_39, dX8_optimalLineScore_42, dX8_optimalLineScore_45⟩) (show 1 ≤ 1 ∧ 6 ≤ 6 from by decide) ⟨rfl, _, rfl, fun h => by have := ki.mp h; omega, c1⟩
  · skip
    refine J.iload_n 1 dX8_optimalLineScore_19 rfl rfl ?_
    refine J.aload_n 0 dX8_optimalLineScore_20 rfl rfl ?_
    refine I.getR dX8_optimalLineScore_21 jcls fX8_34 rfl (by decide) rfl rfl ?_
    refine I.getR dX8_optimalLineScore_24 jcls fX8_129 rfl (by decide) rfl rfl ?_
    refine I.gI 5 rfl dX8_optimalLineScore_27 jcls fX8_221 rfl (by decide) rfl ?_
    refine I.sx (RM.logged t1) ?_
    refine J.iload_n 2 dX8_optimalLineScore_30 rfl rfl ?_
    refine I.sub dX8_optimalLineScore_31 ?_
    refine I.icmp_lt 46 dX8_optimalLineScore_32 (by decide) (by omega) (by omega) (fun h32 => ?_) (fun h32 => ?_)
    · skip
      have ok := ki.mpr ⟨by omega, by omega⟩
      refine J.aload_n 0 dX8_optimalLineScore_46 rfl rfl ?_
      refine I.getR dX8_optimalLineScore_47 jcls fX8_34 rfl (by decide) rfl rfl ?_
      refine I.getR dX8_optimalLineScore_50 jcls fX8_129 rfl (by decide) rfl rfl ?_
      refine I.getR dX8_optimalLineScore_53 jcls fX8_227 rfl (by decide) rfl rfl ?_
      refine J.iload_n 2 dX8_optimalLineScore_56 rfl rfl ?_
      refine J.iload_n 1 dX8_optimalLineScore_57 rfl rfl ?_
      refine I.add dX8_optimalLineScore_58 ?_
      refine I.callS2i (d' := d - 1) (mi' := mX8_at) dX8_optimalLineScore_59 lX8_170 eX8_at rfl (c_X8_at (d := d - 1) hl (by omega) rfl (by first | omega | assumption) (by first | omega | assumption)) (show d - 1 + 1 ≤ d from by omega) (Nat.le_of_ble_eq_true rfl) ?_
      refine I.sx (RM.logPoints t1 _ (by omega) (by omega)) ?_
      exact I.iretQ dX8_optimalLineScore_62 rfl ⟨ok, (gLok_val p0.l p0.v ok).symm, c1⟩
    · skip
      exact I.throw277 (text := "no such move in the line") rfl (by decide) (Or.inr ⟨dX8_optimalLineScore_35, dX8_optimalLineScore_38, dX8_optimalLineScore_39, dX8_optimalLineScore_42, dX8_optimalLineScore_45⟩) (show 1 ≤ 1 ∧ 6 ≤ 6 from by decide) ⟨rfl, _, rfl, fun h => by have := ki.mp h; omega, c1⟩
set_option maxHeartbeats 1000000 in
theorem c_X8_chainDifference {Γ : jE} (hl : Γ.1.stackTraces = false) {s : Nat → Int → Int} {ε : jEps} {d : Nat} {c : Int} {f : Int → Int} (hd : 5 ≤ d) (p0 : RM s 21 f) (p1 : SO s f) (p2 : -2147483648 ≤ c ∧ c < 2147483648) : Con Γ (d, 1, 6) mX8_chainDifference [.ref 0, .int (iI c)] (jmem s ε) (RQ (fun w s' => (0 ≤ c ∧ c < f (18 + f 1)) ∧ gWf (gOnly f c (f (18 + f 1))) = w ∧ CFr s s' f) ε) (XT "java/lang/IndexOutOfBoundsException" (¬ (0 ≤ c ∧ c < f (18 + f 1))) s ε) := by
  refine Con.ofJ (by decide +kernel) (by simp [Value.category]) (Nat.le_of_ble_eq_true rfl) ?_ hl
  have hw := RM.w p0
  have m7 := gMoves_rng hw.2.2.1
  refine J.aload_n 0 dX8_chainDifference_0 rfl rfl ?_
  refine J.iload_n 1 dX8_chainDifference_1 rfl rfl ?_
  refine I.callV1wX (b' := (d - 1, 1, 6)) (mi' := mX8_needChain) dX8_chainDifference_2 lX8_181 eX8_needChain rfl rfl (c_X8_needChain (d := d - 1) hl (by omega) (by assumption) (by first | omega | assumption)) (show d - 1 + 1 ≤ d ∧ 1 ≤ 1 ∧ 6 ≤ 6 from ⟨by omega, by decide, by decide⟩) (by rintro E M' ⟨rfl, hc, rfl⟩; exact ⟨rfl, by first | exact hc | omega, rfl⟩) (Nat.le_of_ble_eq_true rfl) ?_
  rintro _ ⟨rfl, ok2⟩
  refine J.aload_n 0 dX8_chainDifference_5 rfl rfl ?_
  refine I.getR dX8_chainDifference_6 jcls fX8_40 rfl (by decide) rfl rfl ?_
  refine J.aload_n 0 dX8_chainDifference_9 rfl rfl ?_
  refine I.getR dX8_chainDifference_10 jcls fX8_30 rfl (by decide) rfl rfl ?_
  refine I.callV1w (d' := d - 1) (mi' := mX5_solveOptimal) dX8_chainDifference_13 lX8_248 eX5_solveOptimal rfl rfl (c_X5_solveOptimal (d := d - 1) hl (by omega) (by assumption) (by assumption)) (show d - 1 + 1 ≤ d from by omega) (Nat.le_of_ble_eq_true rfl) ?_
  rintro s13 ⟨o13, w13⟩
  have r13 : SR s13 21 f := ⟨p0.congr fun q j a b => w13 q j (by omega), o13.1, o13.2.1, o13.2.2⟩
  refine J.aload_n 0 dX8_chainDifference_16 rfl rfl ?_
  refine I.getR dX8_chainDifference_17 jcls fX8_40 rfl (by decide) rfl rfl ?_
  refine J.aload_n 0 dX8_chainDifference_20 rfl rfl ?_
  refine I.getR dX8_chainDifference_21 jcls fX8_30 rfl (by decide) rfl rfl ?_
  refine J.iload_n 1 dX8_chainDifference_24 rfl rfl ?_
  refine I.callV2q (d' := d - 1) (mi' := mX5_optimalOfChain) dX8_chainDifference_25 lX8_278 eX5_optimalOfChain rfl rfl (c_X5_optimalOfChain (d := d - 1) hl (by omega) r13.1 r13.2.1 r13.2.2.1 r13.2.2.2 ok2) (show d - 1 + 1 ≤ d from by omega) (Nat.le_of_ble_eq_true rfl) ?_
  rintro _ s25 ⟨rfl, w25⟩
  exact I.iretQ dX8_chainDifference_28 rfl ⟨ok2, rfl, ⟨o13.1.keep fun q j x => w25 q j (by omega), fun q j x => (w25 q j (by omega)).trans (w13 q j (by omega))⟩⟩
set_option maxHeartbeats 1000000 in
theorem c_X8_differenceAgainstGreedy {Γ : jE} (hl : Γ.1.stackTraces = false) {s : Nat → Int → Int} {ε : jEps} {d : Nat} {f : Int → Int} (hd : 4 ≤ d) (p0 : RM s 21 f) (p1 : SO s f) : Con Γ (d, 0, 0) mX8_differenceAgainstGreedy [.ref 0] (jmem s ε) (RQ (fun w s' => gDag f = w ∧ CFr s s' f) ε) X0 := by
  refine Con.ofJ (by decide +kernel) (by simp [Value.category]) (Nat.le_of_ble_eq_true rfl) ?_ hl
  have hw := RM.w p0
  have m7 := gMoves_rng hw.2.2.1
  refine J.aload_n 0 dX8_differenceAgainstGreedy_0 rfl rfl ?_
  refine I.getR dX8_differenceAgainstGreedy_1 jcls fX8_30 rfl (by decide) rfl rfl ?_
  refine I.getR dX8_differenceAgainstGreedy_4 jcls fX8_129 rfl (by decide) rfl rfl ?_
  refine I.gI 4 rfl dX8_differenceAgainstGreedy_7 jcls fX8_135 rfl (by decide) rfl ?_
  refine I.sx (RM.over p0) ?_
  refine I.if_eqB 15 dX8_differenceAgainstGreedy_10 (by decide) (fun h10 => ?_) (fun h10 => ?_)
  · skip
    refine J.aload_n 0 dX8_differenceAgainstGreedy_15 rfl rfl ?_
    refine I.getR dX8_differenceAgainstGreedy_16 jcls fX8_40 rfl (by decide) rfl rfl ?_
    refine J.aload_n 0 dX8_differenceAgainstGreedy_19 rfl rfl ?_
    refine I.getR dX8_differenceAgainstGreedy_20 jcls fX8_30 rfl (by decide) rfl rfl ?_
    refine I.callV1w (d' := d - 1) (mi' := mX5_solveGreedy) dX8_differenceAgainstGreedy_23 lX8_287 eX5_solveGreedy rfl rfl (c_X5_solveGreedy (d := d - 1) hl (by omega) (by assumption) (by assumption)) (show d - 1 + 1 ≤ d from by omega) (Nat.le_of_ble_eq_true rfl) ?_
    rintro s23 ⟨o23, w23⟩
    have r23 : RM s23 21 f := p0.congr fun q j a b => w23 q j (by omega)
    refine J.aload_n 0 dX8_differenceAgainstGreedy_26 rfl rfl ?_
    refine I.getR dX8_differenceAgainstGreedy_27 jcls fX8_40 rfl (by decide) rfl rfl ?_
    refine J.aload_n 0 dX8_differenceAgainstGreedy_30 rfl rfl ?_
    refine I.getR dX8_differenceAgainstGreedy_31 jcls fX8_30 rfl (by decide) rfl rfl ?_
    refine I.callV1q (d' := d - 1) (mi' := mX5_againstGreedy) dX8_differenceAgainstGreedy_34 lX8_290 eX5_againstGreedy rfl rfl (c_X5_againstGreedy (d := d - 1) hl (by omega) r23 o23.1 o23.2.1 o23.2.2 h10) (show d - 1 + 1 ≤ d from by omega) (Nat.le_of_ble_eq_true rfl) ?_
    rintro _ s34 ⟨rfl, w34⟩
    exact I.iretQ dX8_differenceAgainstGreedy_37 rfl ⟨rfl, ⟨o23.1.keep fun q j x => w34 q j (by omega), fun q j x => (w34 q j (by omega)).trans (w23 q j (by omega))⟩⟩
  · skip
    refine I.iconst dX8_differenceAgainstGreedy_13 ?_
    exact I.iretQ dX8_differenceAgainstGreedy_14 rfl ⟨gDag_o h10, ⟨p1, fun _ _ _ => rfl⟩⟩
set_option maxHeartbeats 1000000 in
theorem c_X8_greedyAgainstBest {Γ : jE} (hl : Γ.1.stackTraces = false) {s : Nat → Int → Int} {ε : jEps} {d : Nat} {f : Int → Int} (hd : 4 ≤ d) (p0 : RM s 21 f) (p1 : SO s f) : Con Γ (d, 0, 0) mX8_greedyAgainstBest [.ref 0] (jmem s ε) (RQ (fun w s' => gGab f = w ∧ CFr s s' f) ε) X0 := by
  refine Con.ofJ (by decide +kernel) (by simp [Value.category]) (Nat.le_of_ble_eq_true rfl) ?_ hl
  have hw := RM.w p0
  have m7 := gMoves_rng hw.2.2.1
  refine J.aload_n 0 dX8_greedyAgainstBest_0 rfl rfl ?_
  refine I.getR dX8_greedyAgainstBest_1 jcls fX8_30 rfl (by decide) rfl rfl ?_
  refine I.getR dX8_greedyAgainstBest_4 jcls fX8_129 rfl (by decide) rfl rfl ?_
  refine I.gI 4 rfl dX8_greedyAgainstBest_7 jcls fX8_135 rfl (by decide) rfl ?_
  refine I.sx (RM.over p0) ?_
  refine I.if_eqB 15 dX8_greedyAgainstBest_10 (by decide) (fun h10 => ?_) (fun h10 => ?_)
  · skip
    refine J.aload_n 0 dX8_greedyAgainstBest_15 rfl rfl ?_
    refine I.getR dX8_greedyAgainstBest_16 jcls fX8_40 rfl (by decide) rfl rfl ?_
    refine J.aload_n 0 dX8_greedyAgainstBest_19 rfl rfl ?_
    refine I.getR dX8_greedyAgainstBest_20 jcls fX8_30 rfl (by decide) rfl rfl ?_
    refine I.callV1w (d' := d - 1) (mi' := mX5_solveGreedy) dX8_greedyAgainstBest_23 lX8_287 eX5_solveGreedy rfl rfl (c_X5_solveGreedy (d := d - 1) hl (by omega) (by assumption) (by assumption)) (show d - 1 + 1 ≤ d from by omega) (Nat.le_of_ble_eq_true rfl) ?_
    rintro s23 ⟨o23, w23⟩
    have r23 : RM s23 21 f := p0.congr fun q j a b => w23 q j (by omega)
    refine J.aload_n 0 dX8_greedyAgainstBest_26 rfl rfl ?_
    refine I.getR dX8_greedyAgainstBest_27 jcls fX8_40 rfl (by decide) rfl rfl ?_
    refine J.aload_n 0 dX8_greedyAgainstBest_30 rfl rfl ?_
    refine I.getR dX8_greedyAgainstBest_31 jcls fX8_30 rfl (by decide) rfl rfl ?_
    refine I.callV1q (d' := d - 1) (mi' := mX5_behindGreedy) dX8_greedyAgainstBest_34 lX8_293 eX5_behindGreedy rfl rfl (c_X5_behindGreedy (d := d - 1) hl (by omega) r23 o23.1 o23.2.1 o23.2.2 h10) (show d - 1 + 1 ≤ d from by omega) (Nat.le_of_ble_eq_true rfl) ?_
    rintro _ s34 ⟨rfl, w34⟩
    refine I.neg dX8_greedyAgainstBest_37 ?_
    exact I.iretQ dX8_greedyAgainstBest_38 rfl ⟨gGab_n h10, ⟨o23.1.keep fun q j x => w34 q j (by omega), fun q j x => (w34 q j (by omega)).trans (w23 q j (by omega))⟩⟩
  · skip
    refine I.iconst dX8_greedyAgainstBest_13 ?_
    exact I.iretQ dX8_greedyAgainstBest_14 rfl ⟨gGab_o h10, ⟨p1, fun _ _ _ => rfl⟩⟩
set_option maxHeartbeats 1000000 in
theorem c_X8_greedyMove {Γ : jE} (hl : Γ.1.stackTraces = false) {s : Nat → Int → Int} {ε : jEps} {d : Nat} {f : Int → Int} (hd : 4 ≤ d) (p0 : RM s 21 f) (p1 : SO s f) : Con Γ (d, 1, 6) mX8_greedyMove [.ref 0] (jmem s ε) (RQ (fun w s' => (¬ gOver f) ∧ gGi f = w ∧ CFr s s' f) ε) (XT "java/util/NoSuchElementException" (¬ (¬ gOver f)) s ε) := by
  refine Con.ofJ (by decide +kernel) (by simp [Value.category]) (Nat.le_of_ble_eq_true rfl) ?_ hl
  have hw := RM.w p0
  have m7 := gMoves_rng hw.2.2.1
  have gr := gGi_rng p0.l p0.v
  refine J.aload_n 0 dX8_greedyMove_0 rfl rfl ?_
  refine I.getR dX8_greedyMove_1 jcls fX8_30 rfl (by decide) rfl rfl ?_
  refine I.callV0i (d' := d - 1) (mi' := mX2_greediestMove) dX8_greedyMove_4 lX8_233 eX2_greediestMove rfl rfl (c_X2_greediestMove (d := d - 1) hl (by omega) jm21 (by assumption)) (show d - 1 + 1 ≤ d from by omega) (Nat.le_of_ble_eq_true rfl) ?_
  refine J.istore_n 1 dX8_greedyMove_7 rfl (by decide) rfl ?_
  refine J.iload_n 1 dX8_greedyMove_8 rfl rfl ?_
  refine I.iconst dX8_greedyMove_9 ?_
  refine I.icmp_ne 24 dX8_greedyMove_10 (by decide) (by omega) (by omega) (fun h10 => ?_) (fun h10 => ?_)
  · skip
    have ho : ¬ gOver f := fun ho => h10 (gGi_over ho)
    refine J.iload_n 1 dX8_greedyMove_24 rfl rfl ?_
    exact I.iretQ dX8_greedyMove_25 rfl ⟨ho, rfl, ⟨p1, fun _ _ _ => rfl⟩⟩
  · skip
    have ho : gOver f := Classical.byContradiction fun ho => by have := (greedy_eq p0.l p0.v ho).1; omega
    exact I.throw263 (text := "the round is over") rfl (by decide) (Or.inr ⟨dX8_greedyMove_13, dX8_greedyMove_16, dX8_greedyMove_17, dX8_greedyMove_20, dX8_greedyMove_23⟩) (show 1 ≤ 1 ∧ 6 ≤ 6 from by decide) ⟨rfl, fun h => h ho, rfl⟩
