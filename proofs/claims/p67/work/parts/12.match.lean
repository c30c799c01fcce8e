set_option maxHeartbeats 1000000 in
theorem c_X2_chainsNow {Γ : jE} (hl : Γ.1.stackTraces = false) {s : Nat → Int → Int} {ε : jEps} {d : Nat} {m : Nat} {f : Int → Int} (hd : 1 ≤ d) (hm : jIsM m) (p0 : RM s m f) : Con Γ (d, 0, 0) mX2_chainsNow [.ref m] (jmem s ε) (RI (f (18 + f 1)) (s) ε) X0 := by
  refine Con.ofJ (by decide +kernel) (by simp [Value.category]) (Nat.le_of_ble_eq_true rfl) ?_ hl
  have hw := RM.w p0
  refine J.aload_n 0 dX2_chainsNow_0 rfl rfl ?_
  refine I.getR dX2_chainsNow_1 jcls fX2_12 (shM hm) (by decide) rfl (taM0 hm) ?_
  refine I.getR dX2_chainsNow_4 jcls fX2_108 (shL hm) (by decide) rfl (taL1 hm) ?_
  refine J.aload_n 0 dX2_chainsNow_7 rfl rfl ?_
  refine I.getR dX2_chainsNow_8 jcls fX2_21 (shM hm) (by decide) rfl (taM1 hm) ?_
  refine I.gI 0 rfl dX2_chainsNow_11 jcls fX2_54 (shS hm) (by decide) rfl ?_
  refine I.sx (RM.round p0) ?_
  refine I.callSN2i (d' := d - 1) (mi' := mX8_at) dX2_chainsNow_14 nX2_111 eX8_at (c_X8_at (d := d - 1) hl (by omega) (shL1 hm) (by first | omega | assumption) (by first | omega | assumption)) (show d - 1 + 1 ≤ d from by omega) (Nat.le_of_ble_eq_true rfl) ?_
  refine I.sx (RM.ch p0 _ (by omega) (by omega)) ?_
  exact I.iretI dX2_chainsNow_17 rfl (by first | rfl | omega) rfl
set_option maxHeartbeats 1000000 in
theorem c_X2_isLastRound {Γ : jE} (hl : Γ.1.stackTraces = false) {s : Nat → Int → Int} {ε : jEps} {d : Nat} {m : Nat} {f : Int → Int} (hd : 0 ≤ d) (hm : jIsM m) (p0 : RM s m f) : Con Γ (d, 0, 0) mX2_isLastRound [.ref m] (jmem s ε) (RI (bI (f 1 = f 0 - 1)) (s) ε) X0 := by
  refine Con.ofJ (by decide +kernel) (by simp [Value.category]) (Nat.le_of_ble_eq_true rfl) ?_ hl
  have hw := RM.w p0
  refine J.aload_n 0 dX2_isLastRound_0 rfl rfl ?_
  refine I.getR dX2_isLastRound_1 jcls fX2_21 (shM hm) (by decide) rfl (taM1 hm) ?_
  refine I.gI 0 rfl dX2_isLastRound_4 jcls fX2_54 (shS hm) (by decide) rfl ?_
  refine I.sx (RM.round p0) ?_
  refine J.aload_n 0 dX2_isLastRound_7 rfl rfl ?_
  refine I.getR dX2_isLastRound_8 jcls fX2_12 (shM hm) (by decide) rfl (taM0 hm) ?_
  refine I.gI 0 rfl dX2_isLastRound_11 jcls fX2_105 (shL hm) (by decide) rfl ?_
  refine I.sx (RM.rounds p0) ?_
  refine I.iconst dX2_isLastRound_14 ?_
  refine I.sub dX2_isLastRound_15 ?_
  refine I.icmp_ne 23 dX2_isLastRound_16 (by decide) (by omega) (by omega) (fun h16 => ?_) (fun h16 => ?_)
  · skip
    refine I.iconst dX2_isLastRound_23 ?_
    exact I.zretI dX2_isLastRound_24 rfl (by first | exact Or.inl rfl | exact Or.inr rfl | exact bI_01 _ | omega) (by first | exact (bI_t (by omega)).symm | exact (bI_f (by omega)).symm | rfl) rfl
  · skip
    refine I.iconst dX2_isLastRound_19 ?_
    refine J.goto 24 dX2_isLastRound_20 (by decide) ?_
    exact I.zretI dX2_isLastRound_24 rfl (by first | exact Or.inl rfl | exact Or.inr rfl | exact bI_01 _ | omega) (by first | exact (bI_t (by omega)).symm | exact (bI_f (by omega)).symm | rfl) rfl
set_option maxHeartbeats 1000000 in
theorem c_X2_lengthNow {Γ : jE} (hl : Γ.1.stackTraces = false) {s : Nat → Int → Int} {ε : jEps} {d : Nat} {m : Nat} {c : Int} {f : Int → Int} (hd : 1 ≤ d) (hm : jIsM m) (p0 : RM s m f) (p1 : 0 ≤ c ∧ c < f (18 + f 1)) : Con Γ (d, 0, 0) mX2_lengthNow [.ref m, .int (iI c)] (jmem s ε) (RI (f (37 + c) - f (34 + c) + 1) (s) ε) X0 := by
  refine Con.ofJ (by decide +kernel) (by simp [Value.category]) (Nat.le_of_ble_eq_true rfl) ?_ hl
  have hw := RM.w p0
  have e := RM.e p0 c p1.1 p1.2
  refine J.aload_n 0 dX2_lengthNow_0 rfl rfl ?_
  refine I.getR dX2_lengthNow_1 jcls fX2_21 (shM hm) (by decide) rfl (taM1 hm) ?_
  refine I.getR dX2_lengthNow_4 jcls fX2_78 (shS hm) (by decide) rfl (taS7 hm) ?_
  refine J.iload_n 1 dX2_lengthNow_7 rfl rfl ?_
  refine I.callSN2i (d' := d - 1) (mi' := mX8_at) dX2_lengthNow_8 nX2_111 eX8_at (c_X8_at (d := d - 1) hl (by omega) (shS7 hm) (by first | omega | assumption) (by first | omega | assumption)) (show d - 1 + 1 ≤ d from by omega) (Nat.le_of_ble_eq_true rfl) ?_
  refine I.sx (RM.last p0 _ (by omega) (by omega)) ?_
  refine J.aload_n 0 dX2_lengthNow_11 rfl rfl ?_
  refine I.getR dX2_lengthNow_12 jcls fX2_21 (shM hm) (by decide) rfl (taM1 hm) ?_
  refine I.getR dX2_lengthNow_15 jcls fX2_70 (shS hm) (by decide) rfl (taS6 hm) ?_
  refine J.iload_n 1 dX2_lengthNow_18 rfl rfl ?_
  refine I.callSN2i (d' := d - 1) (mi' := mX8_at) dX2_lengthNow_19 nX2_111 eX8_at (c_X8_at (d := d - 1) hl (by omega) (shS6 hm) (by first | omega | assumption) (by first | omega | assumption)) (show d - 1 + 1 ≤ d from by omega) (Nat.le_of_ble_eq_true rfl) ?_
  refine I.sx (RM.first p0 _ (by omega) (by omega)) ?_
  refine I.sub dX2_lengthNow_22 ?_
  refine I.iconst dX2_lengthNow_23 ?_
  refine I.add dX2_lengthNow_24 ?_
  exact I.iretI dX2_lengthNow_25 rfl (by first | rfl | omega) rfl
set_option maxHeartbeats 1000000 in
theorem c_X2_burnsNow {Γ : jE} (hl : Γ.1.stackTraces = false) {s : Nat → Int → Int} {ε : jEps} {d : Nat} {m : Nat} (hd : 1 ≤ d) (hm : jIsM m) : Con Γ (d, 0, 0) mX2_burnsNow [.ref m] (jmem s ε) (RI (s (m + 9) 0 - s (m + 8) 0 + (s (m + 9) 1 - s (m + 8) 1) + (s (m + 9) 2 - s (m + 8) 2)) (s) ε) X0 := by
  refine Con.ofJ (by decide +kernel) (by simp [Value.category]) (Nat.le_of_ble_eq_true rfl) ?_ hl
  refine I.iconst dX2_burnsNow_0 ?_
  refine J.istore_n 1 dX2_burnsNow_1 rfl (by decide) rfl ?_
  refine I.iconst dX2_burnsNow_2 ?_
  refine J.istore_n 2 dX2_burnsNow_3 rfl (by decide) rfl ?_
  refine J.iload_n 2 dX2_burnsNow_4 rfl rfl ?_
  refine I.iconst dX2_burnsNow_5 ?_
  refine I.icmp_ge 41 dX2_burnsNow_6 (by decide) (by omega) (by omega) (fun h6 => ?_) (fun h6 => ?_)
  · exact absurd h6 (by omega)
  · skip
    refine J.iload_n 1 dX2_burnsNow_9 rfl rfl ?_
    refine J.aload_n 0 dX2_burnsNow_10 rfl rfl ?_
    refine I.getR dX2_burnsNow_11 jcls fX2_21 (shM hm) (by decide) rfl (taM1 hm) ?_
    refine I.getR dX2_burnsNow_14 jcls fX2_78 (shS hm) (by decide) rfl (taS7 hm) ?_
    refine J.iload_n 2 dX2_burnsNow_17 rfl rfl ?_
    refine I.callSN2i (d' := d - 1) (mi' := mX8_at) dX2_burnsNow_18 nX2_111 eX8_at (c_X8_at (d := d - 1) hl (by omega) (shS7 hm) (by first | omega | assumption) (by first | omega | assumption)) (show d - 1 + 1 ≤ d from by omega) (Nat.le_of_ble_eq_true rfl) ?_
    refine J.aload_n 0 dX2_burnsNow_21 rfl rfl ?_
    refine I.getR dX2_burnsNow_22 jcls fX2_21 (shM hm) (by decide) rfl (taM1 hm) ?_
    refine I.getR dX2_burnsNow_25 jcls fX2_70 (shS hm) (by decide) rfl (taS6 hm) ?_
    refine J.iload_n 2 dX2_burnsNow_28 rfl rfl ?_
    refine I.callSN2i (d' := d - 1) (mi' := mX8_at) dX2_burnsNow_29 nX2_111 eX8_at (c_X8_at (d := d - 1) hl (by omega) (shS6 hm) (by first | omega | assumption) (by first | omega | assumption)) (show d - 1 + 1 ≤ d from by omega) (Nat.le_of_ble_eq_true rfl) ?_
    refine I.sub dX2_burnsNow_32 ?_
    refine I.add dX2_burnsNow_33 ?_
    refine J.istore_n 1 dX2_burnsNow_34 rfl (by decide) rfl ?_
    refine I.iinc dX2_burnsNow_35 rfl rfl ?_
    refine J.goto 4 dX2_burnsNow_38 (by decide) ?_
    refine J.iload_n 2 dX2_burnsNow_4 rfl rfl ?_
    refine I.iconst dX2_burnsNow_5 ?_
    refine I.icmp_ge 41 dX2_burnsNow_6 (by decide) (by omega) (by omega) (fun h6 => ?_) (fun h6 => ?_)
    · exact absurd h6 (by omega)
    · skip
      refine J.iload_n 1 dX2_burnsNow_9 rfl rfl ?_
      refine J.aload_n 0 dX2_burnsNow_10 rfl rfl ?_
      refine I.getR dX2_burnsNow_11 jcls fX2_21 (shM hm) (by decide) rfl (taM1 hm) ?_
      refine I.getR dX2_burnsNow_14 jcls fX2_78 (shS hm) (by decide) rfl (taS7 hm) ?_
      refine J.iload_n 2 dX2_burnsNow_17 rfl rfl ?_
      refine I.callSN2i (d' := d - 1) (mi' := mX8_at) dX2_burnsNow_18 nX2_111 eX8_at (c_X8_at (d := d - 1) hl (by omega) (shS7 hm) (by first | omega | assumption) (by first | omega | assumption)) (show d - 1 + 1 ≤ d from by omega) (Nat.le_of_ble_eq_true rfl) ?_
      refine J.aload_n 0 dX2_burnsNow_21 rfl rfl ?_
      refine I.getR dX2_burnsNow_22 jcls fX2_21 (shM hm) (by decide) rfl (taM1 hm) ?_
      refine I.getR dX2_burnsNow_25 jcls fX2_70 (shS hm) (by decide) rfl (taS6 hm) ?_
      refine J.iload_n 2 dX2_burnsNow_28 rfl rfl ?_
      refine I.callSN2i (d' := d - 1) (mi' := mX8_at) dX2_burnsNow_29 nX2_111 eX8_at (c_X8_at (d := d - 1) hl (by omega) (shS6 hm) (by first | omega | assumption) (by first | omega | assumption)) (show d - 1 + 1 ≤ d from by omega) (Nat.le_of_ble_eq_true rfl) ?_
      refine I.sub dX2_burnsNow_32 ?_
      refine I.add dX2_burnsNow_33 ?_
      refine J.istore_n 1 dX2_burnsNow_34 rfl (by decide) rfl ?_
      refine I.iinc dX2_burnsNow_35 rfl rfl ?_
      refine J.goto 4 dX2_burnsNow_38 (by decide) ?_
      refine J.iload_n 2 dX2_burnsNow_4 rfl rfl ?_
      refine I.iconst dX2_burnsNow_5 ?_
      refine I.icmp_ge 41 dX2_burnsNow_6 (by decide) (by omega) (by omega) (fun h6 => ?_) (fun h6 => ?_)
      · exact absurd h6 (by omega)
      · skip
        refine J.iload_n 1 dX2_burnsNow_9 rfl rfl ?_
        refine J.aload_n 0 dX2_burnsNow_10 rfl rfl ?_
        refine I.getR dX2_burnsNow_11 jcls fX2_21 (shM hm) (by decide) rfl (taM1 hm) ?_
        refine I.getR dX2_burnsNow_14 jcls fX2_78 (shS hm) (by decide) rfl (taS7 hm) ?_
        refine J.iload_n 2 dX2_burnsNow_17 rfl rfl ?_
        refine I.callSN2i (d' := d - 1) (mi' := mX8_at) dX2_burnsNow_18 nX2_111 eX8_at (c_X8_at (d := d - 1) hl (by omega) (shS7 hm) (by first | omega | assumption) (by first | omega | assumption)) (show d - 1 + 1 ≤ d from by omega) (Nat.le_of_ble_eq_true rfl) ?_
        refine J.aload_n 0 dX2_burnsNow_21 rfl rfl ?_
        refine I.getR dX2_burnsNow_22 jcls fX2_21 (shM hm) (by decide) rfl (taM1 hm) ?_
        refine I.getR dX2_burnsNow_25 jcls fX2_70 (shS hm) (by decide) rfl (taS6 hm) ?_
        refine J.iload_n 2 dX2_burnsNow_28 rfl rfl ?_
        refine I.callSN2i (d' := d - 1) (mi' := mX8_at) dX2_burnsNow_29 nX2_111 eX8_at (c_X8_at (d := d - 1) hl (by omega) (shS6 hm) (by first | omega | assumption) (by first | omega | assumption)) (show d - 1 + 1 ≤ d from by omega) (Nat.le_of_ble_eq_true rfl) ?_
        refine I.sub dX2_burnsNow_32 ?_
        refine I.add dX2_burnsNow_33 ?_
        refine J.istore_n 1 dX2_burnsNow_34 rfl (by decide) rfl ?_
        refine I.iinc dX2_burnsNow_35 rfl rfl ?_
        refine J.goto 4 dX2_burnsNow_38 (by decide) ?_
        refine J.iload_n 2 dX2_burnsNow_4 rfl rfl ?_
        refine I.iconst dX2_burnsNow_5 ?_
        refine I.icmp_ge 41 dX2_burnsNow_6 (by decide) (by omega) (by omega) (fun h6 => ?_) (fun h6 => ?_)
        · skip
          refine J.iload_n 1 dX2_burnsNow_41 rfl rfl ?_
          exact I.iretI dX2_burnsNow_42 rfl (by simp only [Int.zero_add, Int.reduceAdd]) rfl
        · exact absurd h6 (by omega)
set_option maxHeartbeats 1000000 in
theorem c_X2_slotNow {Γ : jE} (hl : Γ.1.stackTraces = false) {s : Nat → Int → Int} {ε : jEps} {d : Nat} {m : Nat} {c : Int} {t : Int} {f : Int → Int} (hd : 1 ≤ d) (hm : jIsM m) (p0 : RM s m f) (p1 : 0 ≤ c ∧ c < f (18 + f 1)) : Con Γ (d, 0, 0) mX2_slotNow [.ref m, .int (iI c), .int (iI t)] (jmem s ε) (RI ((f 1 * 3 + c) * 8 + (f (34 + c) + t)) (s) ε) X0 := by
  refine Con.ofJ (by decide +kernel) (by simp [Value.category]) (Nat.le_of_ble_eq_true rfl) ?_ hl
  have hw := RM.w p0
  have e := RM.e p0 c p1.1 p1.2
  refine J.aload_n 0 dX2_slotNow_0 rfl rfl ?_
  refine I.getR dX2_slotNow_1 jcls fX2_12 (shM hm) (by decide) rfl (taM0 hm) ?_
  refine J.aload_n 0 dX2_slotNow_4 rfl rfl ?_
  refine I.getR dX2_slotNow_5 jcls fX2_21 (shM hm) (by decide) rfl (taM1 hm) ?_
  refine I.gI 0 rfl dX2_slotNow_8 jcls fX2_54 (shS hm) (by decide) rfl ?_
  refine I.sx (RM.round p0) ?_
  refine J.iload_n 1 dX2_slotNow_11 rfl rfl ?_
  refine J.aload_n 0 dX2_slotNow_12 rfl rfl ?_
  refine I.getR dX2_slotNow_13 jcls fX2_21 (shM hm) (by decide) rfl (taM1 hm) ?_
  refine I.getR dX2_slotNow_16 jcls fX2_70 (shS hm) (by decide) rfl (taS6 hm) ?_
  refine J.iload_n 1 dX2_slotNow_19 rfl rfl ?_
  refine I.callSN2i (d' := d - 1) (mi' := mX8_at) dX2_slotNow_20 nX2_111 eX8_at (c_X8_at (d := d - 1) hl (by omega) (shS6 hm) (by first | omega | assumption) (by first | omega | assumption)) (show d - 1 + 1 ≤ d from by omega) (Nat.le_of_ble_eq_true rfl) ?_
  refine I.sx (RM.first p0 _ (by omega) (by omega)) ?_
  refine J.iload_n 2 dX2_slotNow_23 rfl rfl ?_
  refine I.add dX2_slotNow_24 ?_
  refine I.callV3i (d' := d - 1) (mi' := mX1_slotOf) dX2_slotNow_25 lX2_115 eX1_slotOf (shL hm) rfl (c_X1_slotOf (d := d - 1) hl (by omega) (yM hm)) (show d - 1 + 1 ≤ d from by omega) (Nat.le_of_ble_eq_true rfl) ?_
  exact I.iretI dX2_slotNow_28 rfl (by first | rfl | omega) rfl
set_option maxHeartbeats 1000000 in
theorem c_X2_leftNow {Γ : jE} (hl : Γ.1.stackTraces = false) {s : Nat → Int → Int} {ε : jEps} {d : Nat} {m : Nat} {c : Int} {t : Int} {f : Int → Int} (hd : 2 ≤ d) (hm : jIsM m) (p0 : RM s m f) (p1 : 0 ≤ c ∧ c < f (18 + f 1)) (p2 : 0 ≤ t ∧ t < f (37 + c) - f (34 + c) + 1) : Con Γ (d, 0, 0) mX2_leftNow [.ref m, .int (iI c), .int (iI t)] (jmem s ε) (RI (gT f c t / 10) (s) ε) X0 := by
  refine Con.ofJ (by decide +kernel) (by simp [Value.category]) (Nat.le_of_ble_eq_true rfl) ?_ hl
  have hw := RM.w p0
  have e := RM.e p0 c p1.1 p1.2
  refine J.aload_n 0 dX2_leftNow_0 rfl rfl ?_
  refine I.getR dX2_leftNow_1 jcls fX2_12 (shM hm) (by decide) rfl (taM0 hm) ?_
  refine I.getR dX2_leftNow_4 jcls fX2_119 (shL hm) (by decide) rfl (taL3 hm) ?_
  refine J.aload_n 0 dX2_leftNow_7 rfl rfl ?_
  refine J.iload_n 1 dX2_leftNow_8 rfl rfl ?_
  refine J.iload_n 2 dX2_leftNow_9 rfl rfl ?_
  refine I.callV2i (d' := d - 1) (mi' := mX2_slotNow) dX2_leftNow_10 lX2_122 eX2_slotNow (shM hm) rfl (c_X2_slotNow (d := d - 1) hl (by omega) hm (by assumption) (by first | omega | assumption)) (show d - 1 + 1 ≤ d from by omega) (Nat.le_of_ble_eq_true rfl) ?_
  refine I.callSN2i (d' := d - 1) (mi' := mX8_at) dX2_leftNow_13 nX2_111 eX8_at (c_X8_at (d := d - 1) hl (by omega) (shL3 hm) (by first | omega | assumption) (by first | omega | assumption)) (show d - 1 + 1 ≤ d from by omega) (Nat.le_of_ble_eq_true rfl) ?_
  refine I.sx (RM.lefts p0 _ _ _ (by omega) (by omega) (by omega) (by omega) (by omega) (by omega)) ?_
  exact I.iretI dX2_leftNow_16 rfl (by first | rfl | omega) rfl
set_option maxHeartbeats 1000000 in
theorem c_X2_rightNow {Γ : jE} (hl : Γ.1.stackTraces = false) {s : Nat → Int → Int} {ε : jEps} {d : Nat} {m : Nat} {c : Int} {t : Int} {f : Int → Int} (hd : 2 ≤ d) (hm : jIsM m) (p0 : RM s m f) (p1 : 0 ≤ c ∧ c < f (18 + f 1)) (p2 : 0 ≤ t ∧ t < f (37 + c) - f (34 + c) + 1) : Con Γ (d, 0, 0) mX2_rightNow [.ref m, .int (iI c), .int (iI t)] (jmem s ε) (RI (gT f c t % 10) (s) ε) X0 := by
  refine Con.ofJ (by decide +kernel) (by simp [Value.category]) (Nat.le_of_ble_eq_true rfl) ?_ hl
  have hw := RM.w p0
  have e := RM.e p0 c p1.1 p1.2
  refine J.aload_n 0 dX2_rightNow_0 rfl rfl ?_
  refine I.getR dX2_rightNow_1 jcls fX2_12 (shM hm) (by decide) rfl (taM0 hm) ?_
  refine I.getR dX2_rightNow_4 jcls fX2_125 (shL hm) (by decide) rfl (taL4 hm) ?_
  refine J.aload_n 0 dX2_rightNow_7 rfl rfl ?_
  refine J.iload_n 1 dX2_rightNow_8 rfl rfl ?_
  refine J.iload_n 2 dX2_rightNow_9 rfl rfl ?_
  refine I.callV2i (d' := d - 1) (mi' := mX2_slotNow) dX2_rightNow_10 lX2_122 eX2_slotNow (shM hm) rfl (c_X2_slotNow (d := d - 1) hl (by omega) hm (by assumption) (by first | omega | assumption)) (show d - 1 + 1 ≤ d from by omega) (Nat.le_of_ble_eq_true rfl) ?_
  refine I.callSN2i (d' := d - 1) (mi' := mX8_at) dX2_rightNow_13 nX2_111 eX8_at (c_X8_at (d := d - 1) hl (by omega) (shL4 hm) (by first | omega | assumption) (by first | omega | assumption)) (show d - 1 + 1 ≤ d from by omega) (Nat.le_of_ble_eq_true rfl) ?_
  refine I.sx (RM.rights p0 _ _ _ (by omega) (by omega) (by omega) (by omega) (by omega) (by omega)) ?_
  exact I.iretI dX2_rightNow_16 rfl (by first | rfl | omega) rfl
set_option maxHeartbeats 1000000 in
theorem c_X2_pointsNow {Γ : jE} (hl : Γ.1.stackTraces = false) {s : Nat → Int → Int} {ε : jEps} {d : Nat} {m : Nat} {c : Int} {t : Int} {f : Int → Int} (hd : 2 ≤ d) (hm : jIsM m) (p0 : RM s m f) (p1 : 0 ≤ c ∧ c < f (18 + f 1)) (p2 : 0 ≤ t ∧ t < f (37 + c) - f (34 + c) + 1) : Con Γ (d, 0, 0) mX2_pointsNow [.ref m, .int (iI c), .int (iI t)] (jmem s ε) (RI (gSc (gT f c t)) (s) ε) X0 := by
  refine Con.ofJ (by decide +kernel) (by simp [Value.category]) (Nat.le_of_ble_eq_true rfl) ?_ hl
  have hw := RM.w p0
  have e := RM.e p0 c p1.1 p1.2
  refine J.aload_n 0 dX2_pointsNow_0 rfl rfl ?_
  refine I.getR dX2_pointsNow_1 jcls fX2_12 (shM hm) (by decide) rfl (taM0 hm) ?_
  refine I.getR dX2_pointsNow_4 jcls fX2_128 (shL hm) (by decide) rfl (taL5 hm) ?_
  refine J.aload_n 0 dX2_pointsNow_7 rfl rfl ?_
  refine J.iload_n 1 dX2_pointsNow_8 rfl rfl ?_
  refine J.iload_n 2 dX2_pointsNow_9 rfl rfl ?_
  refine I.callV2i (d' := d - 1) (mi' := mX2_slotNow) dX2_pointsNow_10 lX2_122 eX2_slotNow (shM hm) rfl (c_X2_slotNow (d := d - 1) hl (by omega) hm (by assumption) (by first | omega | assumption)) (show d - 1 + 1 ≤ d from by omega) (Nat.le_of_ble_eq_true rfl) ?_
  refine I.callSN2i (d' := d - 1) (mi' := mX8_at) dX2_pointsNow_13 nX2_111 eX8_at (c_X8_at (d := d - 1) hl (by omega) (shL5 hm) (by first | omega | assumption) (by first | omega | assumption)) (show d - 1 + 1 ≤ d from by omega) (Nat.le_of_ble_eq_true rfl) ?_
  refine I.sx (RM.points p0 _ _ _ (by omega) (by omega) (by omega) (by omega) (by omega) (by omega)) ?_
  exact I.iretI dX2_pointsNow_16 rfl (by first | rfl | omega) rfl
set_option maxHeartbeats 1000000 in
theorem c_X2_scoreOf {Γ : jE} (hl : Γ.1.stackTraces = false) {s : Nat → Int → Int} {ε : jEps} {d : Nat} {m : Nat} {r : Int} {p : Int} {f : Int → Int} (hd : 1 ≤ d) (hm : jIsM m) (p0 : RM s m f) (p1 : 0 ≤ r ∧ r < 4) (p2 : 0 ≤ p ∧ p ≤ 1) : Con Γ (d, 0, 0) mX2_scoreOf [.ref m, .int (iI r), .int (iI p)] (jmem s ε) (RI (f (6 + 2 * r + p)) (s) ε) X0 := by
  refine Con.ofJ (by decide +kernel) (by simp [Value.category]) (Nat.le_of_ble_eq_true rfl) ?_ hl
  have hw := RM.w p0
  refine J.aload_n 0 dX2_scoreOf_0 rfl rfl ?_
  refine I.getR dX2_scoreOf_1 jcls fX2_21 (shM hm) (by decide) rfl (taM1 hm) ?_
  refine I.getR dX2_scoreOf_4 jcls fX2_140 (shS hm) (by decide) rfl (taS8 hm) ?_
  refine J.iload_n 1 dX2_scoreOf_7 rfl rfl ?_
  refine I.iconst dX2_scoreOf_8 ?_
  refine I.mul dX2_scoreOf_9 ?_
  refine J.iload_n 2 dX2_scoreOf_10 rfl rfl ?_
  refine I.add dX2_scoreOf_11 ?_
  refine I.callSN2i (d' := d - 1) (mi' := mX8_at) dX2_scoreOf_12 nX2_111 eX8_at (c_X8_at (d := d - 1) hl (by omega) (shS8 hm) (by first | omega | assumption) (by first | omega | assumption)) (show d - 1 + 1 ≤ d from by omega) (Nat.le_of_ble_eq_true rfl) ?_
  refine I.sx (RM.scores p0 _ _ (by omega) (by omega) (by omega) (by omega)) ?_
  exact I.iretI dX2_scoreOf_15 rfl (by first | rfl | omega) rfl
set_option maxHeartbeats 1000000 in
theorem c_X2_scoreNow {Γ : jE} (hl : Γ.1.stackTraces = false) {s : Nat → Int → Int} {ε : jEps} {d : Nat} {m : Nat} {p : Int} {f : Int → Int} (hd : 2 ≤ d) (hm : jIsM m) (p0 : RM s m f) (p1 : 0 ≤ p ∧ p ≤ 1) : Con Γ (d, 0, 0) mX2_scoreNow [.ref m, .int (iI p)] (jmem s ε) (RI (f (6 + 2 * f 1 + p)) (s) ε) X0 := by
  refine Con.ofJ (by decide +kernel) (by simp [Value.category]) (Nat.le_of_ble_eq_true rfl) ?_ hl
  have hw := RM.w p0
  refine J.aload_n 0 dX2_scoreNow_0 rfl rfl ?_
  refine J.aload_n 0 dX2_scoreNow_1 rfl rfl ?_
  refine I.getR dX2_scoreNow_2 jcls fX2_21 (shM hm) (by decide) rfl (taM1 hm) ?_
  refine I.gI 0 rfl dX2_scoreNow_5 jcls fX2_54 (shS hm) (by decide) rfl ?_
  refine I.sx (RM.round p0) ?_
  refine J.iload_n 1 dX2_scoreNow_8 rfl rfl ?_
  refine I.callV2i (d' := d - 1) (mi' := mX2_scoreOf) dX2_scoreNow_9 lX2_143 eX2_scoreOf (shM hm) rfl (c_X2_scoreOf (d := d - 1) hl (by omega) hm (by assumption) (by first | omega | assumption) (by first | omega | assumption)) (show d - 1 + 1 ≤ d from by omega) (Nat.le_of_ble_eq_true rfl) ?_
  exact I.iretI dX2_scoreNow_12 rfl (by first | rfl | omega) rfl
set_option maxHeartbeats 1000000 in
theorem k_X2_pointsOfChain_4 {Γ : jE} (hl : Γ.1.stackTraces = false) {s : Nat → Int → Int} {ε : jEps} {d : Nat} {m : Nat} {c : Int} {f : Int → Int} (hd : 3 ≤ d) (hm : jIsM m) (p0 : RM s m f) (p1 : 0 ≤ c ∧ c < f (18 + f 1)) {mc ms : Nat} {P : Option Value → jM → Prop} {X : String → jM → Prop} : ∀ (k : Nat) {t a : Int} (q0 : ((k : Nat) : Int) = f (37 + c) - f (34 + c) + 1 - t) (q1 : 0 ≤ t) (kx : J Γ (d, mc, ms) mX2_pointsOfChain 28 [some (.ref m), some (.int (iI c)), some (.int (iI (foldF (fun t a => a + gSc (gT f c t)) k t a))), none] [] (jmem s ε) P X), J Γ (d, mc, ms) mX2_pointsOfChain 4 [some (.ref m), some (.int (iI c)), some (.int (iI (a))), some (.int (iI (t)))] [] (jmem s ε) P X := by
  have hw := RM.w p0
  have e := RM.e p0 c p1.1 p1.2
  intro k
  induction k with
  | zero =>
    intro t a q0 q1 kx
    refine J.iload_n 3 dX2_pointsOfChain_4 rfl rfl ?_
    refine J.aload_n 0 dX2_pointsOfChain_5 rfl rfl ?_
    refine J.iload_n 1 dX2_pointsOfChain_6 rfl rfl ?_
    refine I.callV1i (d' := d - 1) (mi' := mX2_lengthNow) dX2_pointsOfChain_7 lX2_131 eX2_lengthNow (shM hm) rfl (c_X2_lengthNow (d := d - 1) hl (by omega) hm (by assumption) (by first | omega | assumption)) (show d - 1 + 1 ≤ d from by omega) (Nat.le_of_ble_eq_true rfl) ?_
    refine I.icmp_ge 28 dX2_pointsOfChain_10 (by decide) (by omega) (by omega) (fun h10 => ?_) (fun h10 => ?_)
    · skip
      exact J.fgt (by exact ⟨Or.inr rfl, Or.inr rfl, Or.inr rfl, Or.inl rfl, trivial⟩) kx
    · exact absurd h10 (by omega)
  | succ k ih =>
    intro t a q0 q1 kx
    refine J.iload_n 3 dX2_pointsOfChain_4 rfl rfl ?_
    refine J.aload_n 0 dX2_pointsOfChain_5 rfl rfl ?_
    refine J.iload_n 1 dX2_pointsOfChain_6 rfl rfl ?_
    refine I.callV1i (d' := d - 1) (mi' := mX2_lengthNow) dX2_pointsOfChain_7 lX2_131 eX2_lengthNow (shM hm) rfl (c_X2_lengthNow (d := d - 1) hl (by omega) hm (by assumption) (by first | omega | assumption)) (show d - 1 + 1 ≤ d from by omega) (Nat.le_of_ble_eq_true rfl) ?_
    refine I.icmp_ge 28 dX2_pointsOfChain_10 (by decide) (by omega) (by omega) (fun h10 => ?_) (fun h10 => ?_)
    · exact absurd h10 (by omega)
    · skip
      refine J.iload_n 2 dX2_pointsOfChain_13 rfl rfl ?_
      refine J.aload_n 0 dX2_pointsOfChain_14 rfl rfl ?_
      refine J.iload_n 1 dX2_pointsOfChain_15 rfl rfl ?_
      refine J.iload_n 3 dX2_pointsOfChain_16 rfl rfl ?_
      refine I.callV2i (d' := d - 1) (mi' := mX2_pointsNow) dX2_pointsOfChain_17 lX2_134 eX2_pointsNow (shM hm) rfl (c_X2_pointsNow (d := d - 1) hl (by omega) hm (by assumption) (by first | omega | assumption) (by first | omega | assumption)) (show d - 1 + 1 ≤ d from by omega) (Nat.le_of_ble_eq_true rfl) ?_
      refine I.add dX2_pointsOfChain_20 ?_
      refine J.istore_n 2 dX2_pointsOfChain_21 rfl (by decide) rfl ?_
      refine I.iinc dX2_pointsOfChain_22 rfl rfl ?_
      refine J.goto 4 dX2_pointsOfChain_25 (by decide) ?_
      exact J.fgt (by exact ⟨Or.inr rfl, Or.inr rfl, Or.inr rfl, Or.inr rfl, trivial⟩) (ih (by first | omega | (dsimp only; omega)) (by first | omega | (dsimp only; omega)) kx)
set_option maxHeartbeats 1000000 in
theorem c_X2_pointsOfChain {Γ : jE} (hl : Γ.1.stackTraces = false) {s : Nat → Int → Int} {ε : jEps} {d : Nat} {m : Nat} {c : Int} {f : Int → Int} (hd : 3 ≤ d) (hm : jIsM m) (p0 : RM s m f) (p1 : 0 ≤ c ∧ c < f (18 + f 1)) : Con Γ (d, 0, 0) mX2_pointsOfChain [.ref m, .int (iI c)] (jmem s ε) (RI (gSum f c) (s) ε) X0 := by
  refine Con.ofJ (by decide +kernel) (by simp [Value.category]) (Nat.le_of_ble_eq_true rfl) ?_ hl
  have hw := RM.w p0
  have e := RM.e p0 c p1.1 p1.2
  refine I.iconst dX2_pointsOfChain_0 ?_
  refine J.istore_n 2 dX2_pointsOfChain_1 rfl (by decide) rfl ?_
  refine I.iconst dX2_pointsOfChain_2 ?_
  refine J.istore_n 3 dX2_pointsOfChain_3 rfl (by decide) rfl ?_
  refine J.fgt (by exact ⟨Or.inr rfl, Or.inr rfl, Or.inr rfl, Or.inr rfl, trivial⟩) (k_X2_pointsOfChain_4 hl (by omega) hm p0 p1 ((f (37 + c) - f (34 + c) + 1).toNat) (by first | omega | (dsimp only; omega)) (by first | omega | (dsimp only; omega)) ?_)
  refine J.iload_n 2 dX2_pointsOfChain_28 rfl rfl ?_
  exact I.iretI dX2_pointsOfChain_29 rfl (by first | rfl | omega) rfl
set_option maxHeartbeats 1000000 in
theorem k_X2_movesNow_16 {Γ : jE} (hl : Γ.1.stackTraces = false) {s : Nat → Int → Int} {ε : jEps} {d : Nat} {m : Nat} {f : Int → Int} (hd : 2 ≤ d) (hm : jIsM m) (p0 : RM s m f) {mc ms : Nat} {P : Option Value → jM → Prop} {X : String → jM → Prop} : ∀ (k : Nat) {c a : Int} (q0 : ((k : Nat) : Int) = f (18 + f 1) - c) (q1 : 0 ≤ c) (kx : J Γ (d, mc, ms) mX2_movesNow 42 [some (.ref m), some (.int (iI (gMvn f k c a))), none] [] (jmem s ε) P X), J Γ (d, mc, ms) mX2_movesNow 16 [some (.ref m), some (.int (iI (a))), some (.int (iI (c)))] [] (jmem s ε) P X := by
  have hw := RM.w p0
  have ee := RM.e p0
  intro k
  induction k with
  | zero =>
    intro c a q0 q1 kx
    refine J.iload_n 2 dX2_movesNow_16 rfl rfl ?_
    refine J.aload_n 0 dX2_movesNow_17 rfl rfl ?_
    refine I.callV0i (d' := d - 1) (mi' := mX2_chainsNow) dX2_movesNow_18 lX2_149 eX2_chainsNow (shM hm) rfl (c_X2_chainsNow (d := d - 1) hl (by omega) hm (by assumption)) (show d - 1 + 1 ≤ d from by omega) (Nat.le_of_ble_eq_true rfl) ?_
    refine I.icmp_ge 42 dX2_movesNow_21 (by decide) (by omega) (by omega) (fun h21 => ?_) (fun h21 => ?_)
    · skip
      exact J.fgt (by exact ⟨Or.inr rfl, Or.inr rfl, Or.inl rfl, trivial⟩) kx
    · exact absurd h21 (by omega)
  | succ k ih =>
    intro c a q0 q1 kx
    refine J.iload_n 2 dX2_movesNow_16 rfl rfl ?_
    refine J.aload_n 0 dX2_movesNow_17 rfl rfl ?_
    refine I.callV0i (d' := d - 1) (mi' := mX2_chainsNow) dX2_movesNow_18 lX2_149 eX2_chainsNow (shM hm) rfl (c_X2_chainsNow (d := d - 1) hl (by omega) hm (by assumption)) (show d - 1 + 1 ≤ d from by omega) (Nat.le_of_ble_eq_true rfl) ?_
    refine I.icmp_ge 42 dX2_movesNow_21 (by decide) (by omega) (by omega) (fun h21 => ?_) (fun h21 => ?_)
    · exact absurd h21 (by omega)
    · skip
      have e := ee c (by omega) (by omega)
      refine J.aload_n 0 dX2_movesNow_24 rfl rfl ?_
      refine J.iload_n 2 dX2_movesNow_25 rfl rfl ?_
      refine I.callV1i (d' := d - 1) (mi' := mX2_lengthNow) dX2_movesNow_26 lX2_131 eX2_lengthNow (shM hm) rfl (c_X2_lengthNow (d := d - 1) hl (by omega) hm (by assumption) (by first | omega | assumption)) (show d - 1 + 1 ≤ d from by omega) (Nat.le_of_ble_eq_true rfl) ?_
      refine I.iconst dX2_movesNow_29 ?_
      refine I.icmp_le 36 dX2_movesNow_30 (by decide) (by omega) (by omega) (fun h30 => ?_) (fun h30 => ?_)
      · skip
        have e : (if 1 < f (37 + c) - f (34 + c) + 1 then a + 2 else a) = a := if_neg (by omega)
        refine I.iinc dX2_movesNow_36 rfl rfl ?_
        refine J.goto 16 dX2_movesNow_39 (by decide) ?_
        exact J.fgt (by exact ⟨Or.inr rfl, Or.inr rfl, Or.inr rfl, trivial⟩) (ih (by first | omega | (dsimp only; omega)) (by first | omega | (dsimp only; omega)) (by unfold gMvn at kx; rw [foldF_s] at kx; rw [e] at kx; exact kx))
      · skip
        have e : (if 1 < f (37 + c) - f (34 + c) + 1 then a + 2 else a) = a + 2 := if_pos (by omega)
        refine I.iinc dX2_movesNow_33 rfl rfl ?_
        refine I.iinc dX2_movesNow_36 rfl rfl ?_
        refine J.goto 16 dX2_movesNow_39 (by decide) ?_
        exact J.fgt (by exact ⟨Or.inr rfl, Or.inr rfl, Or.inr rfl, trivial⟩) (ih (by first | omega | (dsimp only; omega)) (by first | omega | (dsimp only; omega)) (by unfold gMvn at kx; rw [foldF_s] at kx; rw [e] at kx; exact kx))
set_option maxHeartbeats 1000000 in
theorem c_X2_movesNow {Γ : jE} (hl : Γ.1.stackTraces = false) {s : Nat → Int → Int} {ε : jEps} {d : Nat} {m : Nat} {f : Int → Int} (hd : 2 ≤ d) (hm : jIsM m) (p0 : RM s m f) : Con Γ (d, 0, 0) mX2_movesNow [.ref m] (jmem s ε) (RI (gMoves f) (s) ε) X0 := by
  refine Con.ofJ (by decide +kernel) (by simp [Value.category]) (Nat.le_of_ble_eq_true rfl) ?_ hl
  have hw := RM.w p0
  have ee := RM.e p0
  refine J.aload_n 0 dX2_movesNow_0 rfl rfl ?_
  refine I.getR dX2_movesNow_1 jcls fX2_21 (shM hm) (by decide) rfl (taM1 hm) ?_
  refine I.gI 4 rfl dX2_movesNow_4 jcls fX2_94 (shS hm) (by decide) rfl ?_
  refine I.sx (RM.over p0) ?_
  refine I.if_eqB 12 dX2_movesNow_7 (by decide) (fun h7 => ?_) (fun h7 => ?_)
  · skip
    refine I.iconst dX2_movesNow_12 ?_
    refine J.istore_n 1 dX2_movesNow_13 rfl (by decide) rfl ?_
    refine I.iconst dX2_movesNow_14 ?_
    refine J.istore_n 2 dX2_movesNow_15 rfl (by decide) rfl ?_
    refine J.fgt (by exact ⟨Or.inr rfl, Or.inr rfl, Or.inr rfl, trivial⟩) (k_X2_movesNow_16 hl (by omega) hm p0 ((f (18 + f 1)).toNat) (by first | omega | (dsimp only; omega)) (by first | omega | (dsimp only; omega)) ?_)
    refine J.iload_n 1 dX2_movesNow_42 rfl rfl ?_
    exact I.iretI dX2_movesNow_43 rfl (by unfold gMoves; rw [if_neg (by rw [bI_f h7]; decide)]) rfl
  · skip
    refine I.iconst dX2_movesNow_10 ?_
    exact I.iretI dX2_movesNow_11 rfl (by unfold gMoves; rw [if_pos (bI_t h7)]) rfl
set_option maxHeartbeats 1000000 in
theorem k_X2_codeOfMove_20 {Γ : jE} (hl : Γ.1.stackTraces = false) {s : Nat → Int → Int} {ε : jEps} {d : Nat} {m : Nat} {i : Int} {f : Int → Int} (hd : 2 ≤ d) (hm : jIsM m) (p0 : RM s m f) (p1 : -2147483648 ≤ i ∧ i < 2147483648) : ∀ (k : Nat) {c z : Int} (q0 : ((k : Nat) : Int) = f (18 + f 1) - c) (q1 : 0 ≤ c) (q2 : 0 ≤ z ∧ z < 2147483648), J Γ (d, 0, 0) mX2_codeOfMove 20 [some (.ref m), some (.int (iI i)), some (.int (iI (z))), some (.int (iI (c)))] [] (jmem s ε) (RI (if z < gMvn f k c 1 then gMv f k c z else -1) (s) ε) X0 := by
  have hw := RM.w p0
  have ee := RM.e p0
  intro k
  induction k with
  | zero =>
    intro c z q0 q1 q2
    refine J.iload_n 3 dX2_codeOfMove_20 rfl rfl ?_
    refine J.aload_n 0 dX2_codeOfMove_21 rfl rfl ?_
    refine I.callV0i (d' := d - 1) (mi' := mX2_chainsNow) dX2_codeOfMove_22 lX2_149 eX2_chainsNow (shM hm) rfl (c_X2_chainsNow (d := d - 1) hl (by omega) hm (by assumption)) (show d - 1 + 1 ≤ d from by omega) (Nat.le_of_ble_eq_true rfl) ?_
    refine I.icmp_ge 65 dX2_codeOfMove_25 (by decide) (by omega) (by omega) (fun h25 => ?_) (fun h25 => ?_)
    · skip
      refine J.iload_n 2 dX2_codeOfMove_65 rfl rfl ?_
      refine I.if_ne 74 dX2_codeOfMove_66 (by decide) (by omega) (fun h66 => ?_) (fun h66 => ?_)
      · skip
        refine I.iconst dX2_codeOfMove_74 ?_
        exact I.iretI dX2_codeOfMove_75 rfl (by show _ = (if z < 1 then (6 : Int) else -1); split <;> omega) rfl
      · skip
        refine I.bipush dX2_codeOfMove_69 (by decide) ?_
        refine J.goto 75 dX2_codeOfMove_71 (by decide) ?_
        exact I.iretI dX2_codeOfMove_75 rfl (by show _ = (if z < 1 then (6 : Int) else -1); split <;> omega) rfl
    · exact absurd h25 (by omega)
  | succ k ih =>
    intro c z q0 q1 q2
    refine J.iload_n 3 dX2_codeOfMove_20 rfl rfl ?_
    refine J.aload_n 0 dX2_codeOfMove_21 rfl rfl ?_
    refine I.callV0i (d' := d - 1) (mi' := mX2_chainsNow) dX2_codeOfMove_22 lX2_149 eX2_chainsNow (shM hm) rfl (c_X2_chainsNow (d := d - 1) hl (by omega) hm (by assumption)) (show d - 1 + 1 ≤ d from by omega) (Nat.le_of_ble_eq_true rfl) ?_
    refine I.icmp_ge 65 dX2_codeOfMove_25 (by decide) (by omega) (by omega) (fun h25 => ?_) (fun h25 => ?_)
    · exact absurd h25 (by omega)
    · skip
      have e := ee c (by omega) (by omega)
      refine J.aload_n 0 dX2_codeOfMove_28 rfl rfl ?_
      refine J.iload_n 3 dX2_codeOfMove_29 rfl rfl ?_
      refine I.callV1i (d' := d - 1) (mi' := mX2_lengthNow) dX2_codeOfMove_30 lX2_131 eX2_lengthNow (shM hm) rfl (c_X2_lengthNow (d := d - 1) hl (by omega) hm (by assumption) (by first | omega | assumption)) (show d - 1 + 1 ≤ d from by omega) (Nat.le_of_ble_eq_true rfl) ?_
      refine I.iconst dX2_codeOfMove_33 ?_
      refine I.icmp_le 59 dX2_codeOfMove_34 (by decide) (by omega) (by omega) (fun h34 => ?_) (fun h34 => ?_)
      · skip
        refine I.iinc dX2_codeOfMove_59 rfl rfl ?_
        refine J.goto 20 dX2_codeOfMove_62 (by decide) ?_
        exact J.fgt (by exact ⟨Or.inr rfl, Or.inr rfl, Or.inr rfl, Or.inr rfl, trivial⟩) (J.postI (by first | exact gMv_no (by omega) | exact gMv_yes (by omega) (by omega)) (ih (by first | omega | (dsimp only; omega)) (by first | omega | (dsimp only; omega)) (by first | omega | (dsimp only; omega))))
      · skip
        refine J.iload_n 2 dX2_codeOfMove_37 rfl rfl ?_
        refine I.iconst dX2_codeOfMove_38 ?_
        refine I.icmp_ge 56 dX2_codeOfMove_39 (by decide) (by omega) (by omega) (fun h39 => ?_) (fun h39 => ?_)
        · skip
          refine I.iinc dX2_codeOfMove_56 rfl rfl ?_
          refine I.iinc dX2_codeOfMove_59 rfl rfl ?_
          refine J.goto 20 dX2_codeOfMove_62 (by decide) ?_
          exact J.fgt (by exact ⟨Or.inr rfl, Or.inr rfl, Or.inr rfl, Or.inr rfl, trivial⟩) (J.postI (by first | exact gMv_no (by omega) | exact gMv_yes (by omega) (by omega)) (ih (by first | omega | (dsimp only; omega)) (by first | omega | (dsimp only; omega)) (by first | omega | (dsimp only; omega))))
        · skip
          refine J.iload_n 3 dX2_codeOfMove_42 rfl rfl ?_
          refine J.iload_n 2 dX2_codeOfMove_43 rfl rfl ?_
          refine I.if_ne 51 dX2_codeOfMove_44 (by decide) (by omega) (fun h44 => ?_) (fun h44 => ?_)
          · skip
            refine I.iconst dX2_codeOfMove_51 ?_
            refine I.callSN2i (d' := d - 1) (mi' := mX8_burnCode) dX2_codeOfMove_52 nX2_158 eX8_burnCode (c_X8_burnCode (d := d - 1) hl (by omega) (by first | omega | assumption) (by first | omega | assumption)) (show d - 1 + 1 ≤ d from by omega) (Nat.le_of_ble_eq_true rfl) ?_
            exact I.iretI dX2_codeOfMove_55 rfl (by rw [gMv_now (by omega) (by omega)]; omega) rfl
          · skip
            refine I.iconst dX2_codeOfMove_47 ?_
            refine J.goto 52 dX2_codeOfMove_48 (by decide) ?_
            refine I.callSN2i (d' := d - 1) (mi' := mX8_burnCode) dX2_codeOfMove_52 nX2_158 eX8_burnCode (c_X8_burnCode (d := d - 1) hl (by omega) (by first | omega | assumption) (by first | omega | assumption)) (show d - 1 + 1 ≤ d from by omega) (Nat.le_of_ble_eq_true rfl) ?_
            exact I.iretI dX2_codeOfMove_55 rfl (by rw [gMv_now (by omega) (by omega)]; omega) rfl
set_option maxHeartbeats 1000000 in
theorem c_X2_codeOfMove {Γ : jE} (hl : Γ.1.stackTraces = false) {s : Nat → Int → Int} {ε : jEps} {d : Nat} {m : Nat} {i : Int} {f : Int → Int} (hd : 2 ≤ d) (hm : jIsM m) (p0 : RM s m f) (p1 : -2147483648 ≤ i ∧ i < 2147483648) : Con Γ (d, 0, 0) mX2_codeOfMove [.ref m, .int (iI i)] (jmem s ε) (RI (gCode f i) (s) ε) X0 := by
  refine Con.ofJ (by decide +kernel) (by simp [Value.category]) (Nat.le_of_ble_eq_true rfl) ?_ hl
  have hw := RM.w p0
  have ee := RM.e p0
  refine J.iload_n 1 dX2_codeOfMove_0 rfl rfl ?_
  refine I.if_lt 14 dX2_codeOfMove_1 (by decide) (by omega) (fun h1 => ?_) (fun h1 => ?_)
  · skip
    refine I.iconst dX2_codeOfMove_14 ?_
    exact I.iretI dX2_codeOfMove_15 rfl (by unfold gCode; rw [if_neg (by first | omega | (unfold gMoves; rw [if_pos (bI_t (by assumption))]; omega))]) rfl
  · skip
    refine J.aload_n 0 dX2_codeOfMove_4 rfl rfl ?_
    refine I.getR dX2_codeOfMove_5 jcls fX2_21 (shM hm) (by decide) rfl (taM1 hm) ?_
    refine I.gI 4 rfl dX2_codeOfMove_8 jcls fX2_94 (shS hm) (by decide) rfl ?_
    refine I.sx (RM.over p0) ?_
    refine I.if_eqB 16 dX2_codeOfMove_11 (by decide) (fun h11 => ?_) (fun h11 => ?_)
    · skip
      refine J.iload_n 1 dX2_codeOfMove_16 rfl rfl ?_
      refine J.istore_n 2 dX2_codeOfMove_17 rfl (by decide) rfl ?_
      refine I.iconst dX2_codeOfMove_18 ?_
      refine J.istore_n 3 dX2_codeOfMove_19 rfl (by decide) rfl ?_
      exact J.fgt (by exact ⟨Or.inr rfl, Or.inr rfl, Or.inr rfl, Or.inr rfl, trivial⟩) (J.postI (gCode_eq (by omega) (by assumption)) (k_X2_codeOfMove_20 hl (by omega) hm p0 p1 ((f (18 + f 1)).toNat) (by first | omega | (dsimp only; omega)) (by first | omega | (dsimp only; omega)) (by first | omega | (dsimp only; omega))))
    · skip
      refine I.iconst dX2_codeOfMove_14 ?_
      exact I.iretI dX2_codeOfMove_15 rfl (by unfold gCode; rw [if_neg (by first | omega | (unfold gMoves; rw [if_pos (bI_t (by assumption))]; omega))]) rfl
set_option maxHeartbeats 1000000 in
theorem c_X2_pointsOfCode {Γ : jE} (hl : Γ.1.stackTraces = false) {s : Nat → Int → Int} {ε : jEps} {d : Nat} {m : Nat} {z : Int} {f : Int → Int} (hd : 1 ≤ d) (hm : jIsM m) (p0 : RM s m f) (p1 : gOk f z) : Con Γ (d, 0, 0) mX2_pointsOfCode [.ref m, .int (iI z)] (jmem s ε) (RI (gPt f z) (s) ε) X0 := by
  refine Con.ofJ (by decide +kernel) (by simp [Value.category]) (Nat.le_of_ble_eq_true rfl) ?_ hl
  have hw := RM.w p0
  have hz := gLegal_rng hw.2.2.1 p1
  refine J.iload_n 1 dX2_pointsOfCode_0 rfl rfl ?_
  refine I.bipush dX2_pointsOfCode_1 (by decide) ?_
  refine I.icmp_ne 8 dX2_pointsOfCode_3 (by decide) (by omega) (by omega) (fun h3 => ?_) (fun h3 => ?_)
  · skip
    have hz2 : 0 ≤ z ∧ z / 2 < f (18 + f 1) := by rcases p1 with h | h; omega; exact h
    have e := RM.e p0 (z / 2) (by omega) (by omega)
    refine J.iload_n 1 dX2_pointsOfCode_8 rfl rfl ?_
    refine I.callSN1i (d' := d - 1) (mi' := mX8_chainOfCode) dX2_pointsOfCode_9 nX2_162 eX8_chainOfCode (c_X8_chainOfCode (d := d - 1) hl (by omega) (by first | omega | assumption)) (show d - 1 + 1 ≤ d from by omega) (Nat.le_of_ble_eq_true rfl) ?_
    refine I.sx (if_neg (by omega)) ?_
    refine J.istore_n 2 dX2_pointsOfCode_12 rfl (by decide) rfl ?_
    refine J.iload_n 1 dX2_pointsOfCode_13 rfl rfl ?_
    refine I.callSN1i (d' := d - 1) (mi' := mX8_isLeftCode) dX2_pointsOfCode_14 nX2_165 eX8_isLeftCode (c_X8_isLeftCode (d := d - 1) hl (by omega) (by first | omega | assumption)) (show d - 1 + 1 ≤ d from by omega) (Nat.le_of_ble_eq_true rfl) ?_
    refine I.if_eqB 30 dX2_pointsOfCode_17 (by decide) (fun h17 => ?_) (fun h17 => ?_)
    · skip
      refine J.aload_n 0 dX2_pointsOfCode_30 rfl rfl ?_
      refine I.getR dX2_pointsOfCode_31 jcls fX2_21 (shM hm) (by decide) rfl (taM1 hm) ?_
      refine I.getR dX2_pointsOfCode_34 jcls fX2_78 (shS hm) (by decide) rfl (taS7 hm) ?_
      refine J.astore_n 3 dX2_pointsOfCode_37 rfl (by decide) rfl ?_
      refine J.aload_n 0 dX2_pointsOfCode_38 rfl rfl ?_
      refine I.getR dX2_pointsOfCode_39 jcls fX2_12 (shM hm) (by decide) rfl (taM0 hm) ?_
      refine I.getR dX2_pointsOfCode_42 jcls fX2_128 (shL hm) (by decide) rfl (taL5 hm) ?_
      refine J.aload_n 0 dX2_pointsOfCode_45 rfl rfl ?_
      refine I.getR dX2_pointsOfCode_46 jcls fX2_12 (shM hm) (by decide) rfl (taM0 hm) ?_
      refine J.aload_n 0 dX2_pointsOfCode_49 rfl rfl ?_
      refine I.getR dX2_pointsOfCode_50 jcls fX2_21 (shM hm) (by decide) rfl (taM1 hm) ?_
      refine I.gI 0 rfl dX2_pointsOfCode_53 jcls fX2_54 (shS hm) (by decide) rfl ?_
      refine I.sx (RM.round p0) ?_
      refine J.iload_n 2 dX2_pointsOfCode_56 rfl rfl ?_
      refine J.aload_n 3 dX2_pointsOfCode_57 rfl rfl ?_
      refine J.iload_n 2 dX2_pointsOfCode_58 rfl rfl ?_
      refine I.callSN2i (d' := d - 1) (mi' := mX8_at) dX2_pointsOfCode_59 nX2_111 eX8_at (c_X8_at (d := d - 1) hl (by omega) (shS7 hm) (by first | omega | assumption) (by first | omega | assumption)) (show d - 1 + 1 ≤ d from by omega) (Nat.le_of_ble_eq_true rfl) ?_
      refine I.sx (RM.last p0 _ (by omega) (by omega)) ?_
      refine I.callV3i (d' := d - 1) (mi' := mX1_slotOf) dX2_pointsOfCode_62 lX2_115 eX1_slotOf (shL hm) rfl (c_X1_slotOf (d := d - 1) hl (by omega) (yM hm)) (show d - 1 + 1 ≤ d from by omega) (Nat.le_of_ble_eq_true rfl) ?_
      refine I.callSN2i (d' := d - 1) (mi' := mX8_at) dX2_pointsOfCode_65 nX2_111 eX8_at (c_X8_at (d := d - 1) hl (by omega) (shL5 hm) (by first | omega | assumption) (by first | omega | assumption)) (show d - 1 + 1 ≤ d from by omega) (Nat.le_of_ble_eq_true rfl) ?_
      refine I.sx (RM.points p0 _ _ _ (by omega) (by omega) (by omega) (by omega) (by omega) (by omega)) ?_
      exact I.iretI dX2_pointsOfCode_68 rfl (by first | exact (gPt_l (by omega) h17).symm | exact (gPt_r (by omega) h17).symm) rfl
    · skip
      refine J.aload_n 0 dX2_pointsOfCode_20 rfl rfl ?_
      refine I.getR dX2_pointsOfCode_21 jcls fX2_21 (shM hm) (by decide) rfl (taM1 hm) ?_
      refine I.getR dX2_pointsOfCode_24 jcls fX2_70 (shS hm) (by decide) rfl (taS6 hm) ?_
      refine J.goto 37 dX2_pointsOfCode_27 (by decide) ?_
      refine J.astore_n 3 dX2_pointsOfCode_37 rfl (by decide) rfl ?_
      refine J.aload_n 0 dX2_pointsOfCode_38 rfl rfl ?_
      refine I.getR dX2_pointsOfCode_39 jcls fX2_12 (shM hm) (by decide) rfl (taM0 hm) ?_
      refine I.getR dX2_pointsOfCode_42 jcls fX2_128 (shL hm) (by decide) rfl (taL5 hm) ?_
      refine J.aload_n 0 dX2_pointsOfCode_45 rfl rfl ?_
      refine I.getR dX2_pointsOfCode_46 jcls fX2_12 (shM hm) (by decide) rfl (taM0 hm) ?_
      refine J.aload_n 0 dX2_pointsOfCode_49 rfl rfl ?_
      refine I.getR dX2_pointsOfCode_50 jcls fX2_21 (shM hm) (by decide) rfl (taM1 hm) ?_
      refine I.gI 0 rfl dX2_pointsOfCode_53 jcls fX2_54 (shS hm) (by decide) rfl ?_
      refine I.sx (RM.round p0) ?_
      refine J.iload_n 2 dX2_pointsOfCode_56 rfl rfl ?_
      refine J.aload_n 3 dX2_pointsOfCode_57 rfl rfl ?_
      refine J.iload_n 2 dX2_pointsOfCode_58 rfl rfl ?_
      refine I.callSN2i (d' := d - 1) (mi' := mX8_at) dX2_pointsOfCode_59 nX2_111 eX8_at (c_X8_at (d := d - 1) hl (by omega) (shS6 hm) (by first | omega | assumption) (by first | omega | assumption)) (show d - 1 + 1 ≤ d from by omega) (Nat.le_of_ble_eq_true rfl) ?_
      refine I.sx (RM.first p0 _ (by omega) (by omega)) ?_
      refine I.callV3i (d' := d - 1) (mi' := mX1_slotOf) dX2_pointsOfCode_62 lX2_115 eX1_slotOf (shL hm) rfl (c_X1_slotOf (d := d - 1) hl (by omega) (yM hm)) (show d - 1 + 1 ≤ d from by omega) (Nat.le_of_ble_eq_true rfl) ?_
      refine I.callSN2i (d' := d - 1) (mi' := mX8_at) dX2_pointsOfCode_65 nX2_111 eX8_at (c_X8_at (d := d - 1) hl (by omega) (shL5 hm) (by first | omega | assumption) (by first | omega | assumption)) (show d - 1 + 1 ≤ d from by omega) (Nat.le_of_ble_eq_true rfl) ?_
      refine I.sx (RM.points p0 _ _ _ (by omega) (by omega) (by omega) (by omega) (by omega) (by omega)) ?_
      exact I.iretI dX2_pointsOfCode_68 rfl (by first | exact (gPt_l (by omega) h17).symm | exact (gPt_r (by omega) h17).symm) rfl
  · skip
    refine I.iconst dX2_pointsOfCode_6 ?_
    exact I.iretI dX2_pointsOfCode_7 rfl (by rw [show z = 6 from by omega, gPt_6]) rfl
set_option maxHeartbeats 1000000 in
theorem k_X2_greediestMove_6 {Γ : jE} (hl : Γ.1.stackTraces = false) {s : Nat → Int → Int} {ε : jEps} {d : Nat} {m : Nat} {f : Int → Int} (hd : 3 ≤ d) (hm : jIsM m) (p0 : RM s m f) {mc ms : Nat} {P : Option Value → jM → Prop} {X : String → jM → Prop} : ∀ (k : Nat) {j u v : Int} (q0 : k = (gMoves f - 1 - j).toNat) (q1 : 0 ≤ j) (q2 : -1 ≤ u ∧ u ≤ 24) (q3 : j ≤ 7) (kx : J Γ (d, mc, ms) mX2_greediestMove 44 [some (.ref m), some (.int (iI ((foldF (gGp f) k j (u, v)).2))), none, none, none] [] (jmem s ε) P X), J Γ (d, mc, ms) mX2_greediestMove 6 [some (.ref m), some (.int (iI (v))), some (.int (iI (u))), some (.int (iI (j))), none] [] (jmem s ε) P X := by
  have hw := RM.w p0
  have hm7 := gMoves_rng hw.2.2.1
  intro k
  induction k with
  | zero =>
    intro j u v q0 q1 q2 q3 kx
    refine J.iload_n 3 dX2_greediestMove_6 rfl rfl ?_
    refine J.aload_n 0 dX2_greediestMove_7 rfl rfl ?_
    refine I.callV0i (d' := d - 1) (mi' := mX2_movesNow) dX2_greediestMove_8 lX2_169 eX2_movesNow (shM hm) rfl (c_X2_movesNow (d := d - 1) hl (by omega) hm (by assumption)) (show d - 1 + 1 ≤ d from by omega) (Nat.le_of_ble_eq_true rfl) ?_
    refine I.iconst dX2_greediestMove_11 ?_
    refine I.sub dX2_greediestMove_12 ?_
    refine I.icmp_ge 44 dX2_greediestMove_13 (by decide) (by omega) (by omega) (fun h13 => ?_) (fun h13 => ?_)
    · skip
      exact J.fgt (by exact ⟨Or.inr rfl, Or.inr rfl, Or.inl rfl, Or.inl rfl, Or.inl rfl, trivial⟩) kx
    · exact absurd h13 (by omega)
  | succ k ih =>
    intro j u v q0 q1 q2 q3 kx
    refine J.iload_n 3 dX2_greediestMove_6 rfl rfl ?_
    refine J.aload_n 0 dX2_greediestMove_7 rfl rfl ?_
    refine I.callV0i (d' := d - 1) (mi' := mX2_movesNow) dX2_greediestMove_8 lX2_169 eX2_movesNow (shM hm) rfl (c_X2_movesNow (d := d - 1) hl (by omega) hm (by assumption)) (show d - 1 + 1 ≤ d from by omega) (Nat.le_of_ble_eq_true rfl) ?_
    refine I.iconst dX2_greediestMove_11 ?_
    refine I.sub dX2_greediestMove_12 ?_
    refine I.icmp_ge 44 dX2_greediestMove_13 (by decide) (by omega) (by omega) (fun h13 => ?_) (fun h13 => ?_)
    · exact absurd h13 (by omega)
    · skip
      have e1 := gMvAt_legal (f := f) hw.2.2.1 (i := j) (by omega)
      rw [← gCode_in (f := f) (i := j) ⟨by omega, by omega⟩] at e1
      have e2 := gPt_rng p0.l p0.v e1.ok
      refine J.aload_n 0 dX2_greediestMove_16 rfl rfl ?_
      refine J.aload_n 0 dX2_greediestMove_17 rfl rfl ?_
      refine J.iload_n 3 dX2_greediestMove_18 rfl rfl ?_
      refine I.callV1i (d' := d - 1) (mi' := mX2_codeOfMove) dX2_greediestMove_19 lX2_172 eX2_codeOfMove (shM hm) rfl (c_X2_codeOfMove (d := d - 1) hl (by omega) hm (by assumption) (by first | omega | assumption)) (show d - 1 + 1 ≤ d from by omega) (Nat.le_of_ble_eq_true rfl) ?_
      refine I.callV1i (d' := d - 1) (mi' := mX2_pointsOfCode) dX2_greediestMove_22 lX2_175 eX2_pointsOfCode (shM hm) rfl (c_X2_pointsOfCode (d := d - 1) hl (by omega) hm (by assumption) e1.ok) (show d - 1 + 1 ≤ d from by omega) (Nat.le_of_ble_eq_true rfl) ?_
      refine J.istore dX2_greediestMove_25 (by decide) rfl ?_
      refine J.iload dX2_greediestMove_27 rfl ?_
      refine J.iload_n 2 dX2_greediestMove_29 rfl rfl ?_
      refine I.icmp_le 38 dX2_greediestMove_30 (by decide) (by omega) (by omega) (fun h30 => ?_) (fun h30 => ?_)
      · skip
        have e : gGp f j (u, v) = (u, v) := if_neg (by show ¬ (u < _); omega)
        refine I.iinc dX2_greediestMove_38 rfl rfl ?_
        refine J.goto 6 dX2_greediestMove_41 (by decide) ?_
        exact J.fgt (by exact ⟨Or.inr rfl, Or.inr rfl, Or.inr rfl, Or.inr rfl, Or.inl rfl, trivial⟩) (ih (by first | omega | (dsimp only; omega)) (by first | omega | (dsimp only; omega)) (by first | omega | (dsimp only; omega)) (by first | omega | (dsimp only; omega)) (by rw [foldF_s, e] at kx; exact kx))
      · skip
        have e : gGp f j (u, v) = (gPt f (gCode f j), j) := if_pos (by show u < _; omega)
        refine J.iload dX2_greediestMove_33 rfl ?_
        refine J.istore_n 2 dX2_greediestMove_35 rfl (by decide) rfl ?_
        refine J.iload_n 3 dX2_greediestMove_36 rfl rfl ?_
        refine J.istore_n 1 dX2_greediestMove_37 rfl (by decide) rfl ?_
        refine I.iinc dX2_greediestMove_38 rfl rfl ?_
        refine J.goto 6 dX2_greediestMove_41 (by decide) ?_
        exact J.fgt (by exact ⟨Or.inr rfl, Or.inr rfl, Or.inr rfl, Or.inr rfl, Or.inl rfl, trivial⟩) (ih (by first | omega | (dsimp only; omega)) (by first | omega | (dsimp only; omega)) (by first | omega | (dsimp only; omega)) (by first | omega | (dsimp only; omega)) (by rw [foldF_s, e] at kx; exact kx))
set_option maxHeartbeats 1000000 in
theorem c_X2_greediestMove {Γ : jE} (hl : Γ.1.stackTraces = false) {s : Nat → Int → Int} {ε : jEps} {d : Nat} {m : Nat} {f : Int → Int} (hd : 3 ≤ d) (hm : jIsM m) (p0 : RM s m f) : Con Γ (d, 0, 0) mX2_greediestMove [.ref m] (jmem s ε) (RI (gGi f) (s) ε) X0 := by
  refine Con.ofJ (by decide +kernel) (by simp [Value.category]) (Nat.le_of_ble_eq_true rfl) ?_ hl
  have hw := RM.w p0
  have hm7 := gMoves_rng hw.2.2.1
  refine I.iconst dX2_greediestMove_0 ?_
  refine J.istore_n 1 dX2_greediestMove_1 rfl (by decide) rfl ?_
  refine I.iconst dX2_greediestMove_2 ?_
  refine J.istore_n 2 dX2_greediestMove_3 rfl (by decide) rfl ?_
  refine I.iconst dX2_greediestMove_4 ?_
  refine J.istore_n 3 dX2_greediestMove_5 rfl (by decide) rfl ?_
  refine J.fgt (by exact ⟨Or.inr rfl, Or.inr rfl, Or.inr rfl, Or.inr rfl, Or.inl rfl, trivial⟩) (k_X2_greediestMove_6 hl (by omega) hm p0 ((gMoves f - 1).toNat) (by first | omega | (dsimp only; omega)) (by first | omega | (dsimp only; omega)) (by first | omega | (dsimp only; omega)) (by first | omega | (dsimp only; omega)) ?_)
  refine J.iload_n 1 dX2_greediestMove_44 rfl rfl ?_
  exact I.iretI dX2_greediestMove_45 rfl (by first | rfl | omega) rfl
set_option maxHeartbeats 1000000 in
theorem c_X6_log {Γ : jE} (hl : Γ.1.stackTraces = false) {s : Nat → Int → Int} {ε : jEps} {d : Nat} {t : Nat} {z : Int} {p : Int} {l : Int} (hd : 1 ≤ d) (ht : jIsT t) (p0 : s t 5 = l) (p1 : 0 ≤ l ∧ l < 42) : Con Γ (d, 0, 0) mX6_log [.ref t, .int (iI z), .int (iI p)] (jmem s ε) (RV (up (up (up s (t + 6) l z) (t + 7) l p) t 5 (l + 1)) ε) X0 := by
  refine Con.ofJ (by decide +kernel) (by simp [Value.category]) (Nat.le_of_ble_eq_true rfl) ?_ hl
  refine J.aload_n 0 dX6_log_0 rfl rfl ?_
  refine I.gI 5 rfl dX6_log_1 jcls fX6_50 (shT ht) (by decide) rfl ?_
  refine I.sx (show _ = l from by simp [up, p0]) ?_
  refine I.bipush dX6_log_4 (by decide) ?_
  refine I.icmp_ge 43 dX6_log_6 (by decide) (by omega) (by omega) (fun h6 => ?_) (fun h6 => ?_)
  · exact absurd h6 (by omega)
  · skip
    refine J.aload_n 0 dX6_log_9 rfl rfl ?_
    refine I.getR dX6_log_10 jcls fX6_27 (shT ht) (by decide) rfl (taT11 ht) ?_
    refine J.aload_n 0 dX6_log_13 rfl rfl ?_
    refine I.gI 5 rfl dX6_log_14 jcls fX6_50 (shT ht) (by decide) rfl ?_
    refine I.sx (show _ = l from by simp [up, p0]) ?_
    refine J.iload_n 1 dX6_log_17 rfl rfl ?_
    refine I.callSN3v (d' := d - 1) (mi' := mX8_put) dX6_log_18 nX6_57 eX8_put (c_X8_put (d := d - 1) hl (by omega) (shT11 ht) (by first | omega | assumption) (by first | omega | assumption)) (show d - 1 + 1 ≤ d from by omega) (Nat.le_of_ble_eq_true rfl) ?_
    refine J.aload_n 0 dX6_log_21 rfl rfl ?_
    refine I.getR dX6_log_22 jcls fX6_30 (shT ht) (by decide) rfl (taT12 ht) ?_
    refine J.aload_n 0 dX6_log_25 rfl rfl ?_
    refine I.gI 5 rfl dX6_log_26 jcls fX6_50 (shT ht) (by decide) rfl ?_
    refine I.sx (show _ = l from by simp [up, p0]) ?_
    refine J.iload_n 2 dX6_log_29 rfl rfl ?_
    refine I.callSN3v (d' := d - 1) (mi' := mX8_put) dX6_log_30 nX6_57 eX8_put (c_X8_put (d := d - 1) hl (by omega) (shT12 ht) (by first | omega | assumption) (by first | omega | assumption)) (show d - 1 + 1 ≤ d from by omega) (Nat.le_of_ble_eq_true rfl) ?_
    refine J.aload_n 0 dX6_log_33 rfl rfl ?_
    refine J.dupR dX6_log_34 ?_
    refine I.gI 5 rfl dX6_log_35 jcls fX6_50 (shT ht) (by decide) rfl ?_
    refine I.sx (show _ = l from by simp [up, p0]) ?_
    refine I.iconst dX6_log_38 ?_
    refine I.add dX6_log_39 ?_
    refine I.pI 5 rfl dX6_log_40 jcls fX6_50 (shT ht) (by decide) rfl ?_
    exact I.vret dX6_log_43 rfl rfl
set_option maxHeartbeats 1000000 in
theorem c_X2_takeEnd {Γ : jE} (hl : Γ.1.stackTraces = false) {s : Nat → Int → Int} {ε : jEps} {d : Nat} {m : Nat} {z : Int} (hd : 1 ≤ d) (hm : jIsM m) (p0 : 0 ≤ z ∧ z < 6) : Con Γ (d, 0, 0) mX2_takeEnd [.ref m, .int (iI z)] (jmem s ε) (RV (upE s m z) ε) X0 := by
  refine Con.ofJ (by decide +kernel) (by simp [Value.category]) (Nat.le_of_ble_eq_true rfl) ?_ hl
  refine J.iload_n 1 dX2_takeEnd_0 rfl rfl ?_
  refine I.callSN1i (d' := d - 1) (mi' := mX8_chainOfCode) dX2_takeEnd_1 nX2_162 eX8_chainOfCode (c_X8_chainOfCode (d := d - 1) hl (by omega) (by first | omega | assumption)) (show d - 1 + 1 ≤ d from by omega) (Nat.le_of_ble_eq_true rfl) ?_
  refine I.sx (if_neg (by omega)) ?_
  refine J.istore_n 2 dX2_takeEnd_4 rfl (by decide) rfl ?_
  refine J.iload_n 1 dX2_takeEnd_5 rfl rfl ?_
  refine I.callSN1i (d' := d - 1) (mi' := mX8_isLeftCode) dX2_takeEnd_6 nX2_165 eX8_isLeftCode (c_X8_isLeftCode (d := d - 1) hl (by omega) (by first | omega | assumption)) (show d - 1 + 1 ≤ d from by omega) (Nat.le_of_ble_eq_true rfl) ?_
  refine I.if_eqB 39 dX2_takeEnd_9 (by decide) (fun h9 => ?_) (fun h9 => ?_)
  · skip
    refine J.aload_n 0 dX2_takeEnd_39 rfl rfl ?_
    refine I.getR dX2_takeEnd_40 jcls fX2_21 (shM hm) (by decide) rfl (taM1 hm) ?_
    refine I.getR dX2_takeEnd_43 jcls fX2_78 (shS hm) (by decide) rfl (taS7 hm) ?_
    refine J.iload_n 2 dX2_takeEnd_46 rfl rfl ?_
    refine J.aload_n 0 dX2_takeEnd_47 rfl rfl ?_
    refine I.getR dX2_takeEnd_48 jcls fX2_21 (shM hm) (by decide) rfl (taM1 hm) ?_
    refine I.getR dX2_takeEnd_51 jcls fX2_78 (shS hm) (by decide) rfl (taS7 hm) ?_
    refine J.iload_n 2 dX2_takeEnd_54 rfl rfl ?_
    refine I.callSN2i (d' := d - 1) (mi' := mX8_at) dX2_takeEnd_55 nX2_111 eX8_at (c_X8_at (d := d - 1) hl (by omega) (shS7 hm) (by first | omega | assumption) (by first | omega | assumption)) (show d - 1 + 1 ≤ d from by omega) (Nat.le_of_ble_eq_true rfl) ?_
    refine I.iconst dX2_takeEnd_58 ?_
    refine I.sub dX2_takeEnd_59 ?_
    refine I.callSN3v (d' := d - 1) (mi' := mX8_put) dX2_takeEnd_60 nX2_74 eX8_put (c_X8_put (d := d - 1) hl (by omega) (shS7 hm) (by first | omega | assumption) (by first | omega | assumption)) (show d - 1 + 1 ≤ d from by omega) (Nat.le_of_ble_eq_true rfl) ?_
    exact I.vret dX2_takeEnd_63 rfl (by first | exact upE_l (by assumption) | exact upE_r (by assumption))
  · skip
    refine J.aload_n 0 dX2_takeEnd_12 rfl rfl ?_
    refine I.getR dX2_takeEnd_13 jcls fX2_21 (shM hm) (by decide) rfl (taM1 hm) ?_
    refine I.getR dX2_takeEnd_16 jcls fX2_70 (shS hm) (by decide) rfl (taS6 hm) ?_
    refine J.iload_n 2 dX2_takeEnd_19 rfl rfl ?_
    refine J.aload_n 0 dX2_takeEnd_20 rfl rfl ?_
    refine I.getR dX2_takeEnd_21 jcls fX2_21 (shM hm) (by decide) rfl (taM1 hm) ?_
    refine I.getR dX2_takeEnd_24 jcls fX2_70 (shS hm) (by decide) rfl (taS6 hm) ?_
    refine J.iload_n 2 dX2_takeEnd_27 rfl rfl ?_
    refine I.callSN2i (d' := d - 1) (mi' := mX8_at) dX2_takeEnd_28 nX2_111 eX8_at (c_X8_at (d := d - 1) hl (by omega) (shS6 hm) (by first | omega | assumption) (by first | omega | assumption)) (show d - 1 + 1 ≤ d from by omega) (Nat.le_of_ble_eq_true rfl) ?_
    refine I.iconst dX2_takeEnd_31 ?_
    refine I.add dX2_takeEnd_32 ?_
    refine I.callSN3v (d' := d - 1) (mi' := mX8_put) dX2_takeEnd_33 nX2_74 eX8_put (c_X8_put (d := d - 1) hl (by omega) (shS6 hm) (by first | omega | assumption) (by first | omega | assumption)) (show d - 1 + 1 ≤ d from by omega) (Nat.le_of_ble_eq_true rfl) ?_
    refine J.goto 63 dX2_takeEnd_36 (by decide) ?_
    exact I.vret dX2_takeEnd_63 rfl (by first | exact upE_l (by assumption) | exact upE_r (by assumption))
set_option maxHeartbeats 1000000 in
theorem c_X2_play {Γ : jE} (hl : Γ.1.stackTraces = false) {s : Nat → Int → Int} {ε : jEps} {d : Nat} {m : Nat} {z : Int} {f : Int → Int} (hd : 2 ≤ d) (hm : jIsM m) (p0 : RM s m f) (p1 : gLegal f z) (p2 : ¬ gOver f) : Con Γ (d, 0, 0) mX2_play [.ref m, .int (iI z)] (jmem s ε) (RW (fun s' => RM s' m (gPlay f z) ∧ ∀ q i, (q < m + 7 ∨ m + 15 ≤ q) → s' q i = s q i) ε) X0 := by
  refine Con.ofJ (by decide +kernel) (by simp [Value.category]) (Nat.le_of_ble_eq_true rfl) ?_ hl
  have hw := RM.w p0
  have hz6 := gLegal_rng hw.2.2.1 p1.ok
  have hB := gBt_lt p0.l p0.v p2
  have hmv := p0.v.moves
  have h4 : f 4 ≤ 1 := by have : ¬ f 4 = 2 := fun g => p2 (Or.inl g); omega
  refine J.aload_n 0 dX2_play_0 rfl rfl ?_
  refine J.iload_n 1 dX2_play_1 rfl rfl ?_
  refine I.callV1i (d' := d - 1) (mi' := mX2_pointsOfCode) dX2_play_2 lX2_175 eX2_pointsOfCode (shM hm) rfl (c_X2_pointsOfCode (d := d - 1) hl (by omega) hm (by assumption) p1.ok) (show d - 1 + 1 ≤ d from by omega) (Nat.le_of_ble_eq_true rfl) ?_
  refine J.istore_n 2 dX2_play_5 rfl (by decide) rfl ?_
  refine J.iload_n 1 dX2_play_6 rfl rfl ?_
  refine I.bipush dX2_play_7 (by decide) ?_
  refine I.icmp_ne 64 dX2_play_9 (by decide) (by omega) (by omega) (fun h9 => ?_) (fun h9 => ?_)
  · skip
    refine J.aload_n 0 dX2_play_64 rfl rfl ?_
    refine J.iload_n 1 dX2_play_65 rfl rfl ?_
    refine I.callV1v (d' := d - 1) (mi' := mX2_takeEnd) dX2_play_66 lX2_181 eX2_takeEnd (shM hm) rfl (c_X2_takeEnd (d := d - 1) hl (by omega) hm (by first | omega | assumption)) (show d - 1 + 1 ≤ d from by omega) (Nat.le_of_ble_eq_true rfl) ?_
    refine J.aload_n 0 dX2_play_69 rfl rfl ?_
    refine I.getR dX2_play_70 jcls fX2_21 (shM hm) (by decide) rfl (taM1 hm) ?_
    refine I.gI 0 rfl dX2_play_73 jcls fX2_54 (shS hm) (by decide) rfl ?_
    refine I.sx (show _ = f 1 from by simp [up, upE, RM.round p0]) ?_
    refine I.iconst dX2_play_76 ?_
    refine I.mul dX2_play_77 ?_
    refine J.aload_n 0 dX2_play_78 rfl rfl ?_
    refine I.getR dX2_play_79 jcls fX2_21 (shM hm) (by decide) rfl (taM1 hm) ?_
    refine I.gI 2 rfl dX2_play_82 jcls fX2_61 (shS hm) (by decide) rfl ?_
    refine I.sx (show _ = f 2 from by simp [up, upE, RM.mover p0]) ?_
    refine I.add dX2_play_85 ?_
    refine J.istore_n 3 dX2_play_86 rfl (by decide) rfl ?_
    refine J.aload_n 0 dX2_play_87 rfl rfl ?_
    refine I.getR dX2_play_88 jcls fX2_21 (shM hm) (by decide) rfl (taM1 hm) ?_
    refine I.getR dX2_play_91 jcls fX2_140 (shS hm) (by decide) rfl (taS8 hm) ?_
    refine J.iload_n 3 dX2_play_94 rfl rfl ?_
    refine J.aload_n 0 dX2_play_95 rfl rfl ?_
    refine I.getR dX2_play_96 jcls fX2_21 (shM hm) (by decide) rfl (taM1 hm) ?_
    refine I.getR dX2_play_99 jcls fX2_140 (shS hm) (by decide) rfl (taS8 hm) ?_
    refine J.iload_n 3 dX2_play_102 rfl rfl ?_
    refine I.callSN2i (d' := d - 1) (mi' := mX8_at) dX2_play_103 nX2_111 eX8_at (c_X8_at (d := d - 1) hl (by omega) (shS8 hm) (by first | omega | assumption) (by first | omega | assumption)) (show d - 1 + 1 ≤ d from by omega) (Nat.le_of_ble_eq_true rfl) ?_
    refine I.sx (show _ = s (m + 10) (f 1 * 2 + f 2) from upE_ne (by omega)) ?_
    refine J.iload_n 2 dX2_play_106 rfl rfl ?_
    refine I.add dX2_play_107 ?_
    refine I.callSN3v (d' := d - 1) (mi' := mX8_put) dX2_play_108 nX2_74 eX8_put (c_X8_put (d := d - 1) hl (by omega) (shS8 hm) (by first | omega | assumption) (by first | omega | assumption)) (show d - 1 + 1 ≤ d from by omega) (Nat.le_of_ble_eq_true rfl) ?_
    refine J.aload_n 0 dX2_play_111 rfl rfl ?_
    refine I.getR dX2_play_112 jcls fX2_21 (shM hm) (by decide) rfl (taM1 hm) ?_
    refine I.getR dX2_play_115 jcls fX2_185 (shS hm) (by decide) rfl (taS9 hm) ?_
    refine J.aload_n 0 dX2_play_118 rfl rfl ?_
    refine I.getR dX2_play_119 jcls fX2_21 (shM hm) (by decide) rfl (taM1 hm) ?_
    refine I.gI 2 rfl dX2_play_122 jcls fX2_61 (shS hm) (by decide) rfl ?_
    refine I.sx (show _ = f 2 from by simp [up, upE, RM.mover p0]) ?_
    refine J.aload_n 0 dX2_play_125 rfl rfl ?_
    refine I.getR dX2_play_126 jcls fX2_21 (shM hm) (by decide) rfl (taM1 hm) ?_
    refine I.getR dX2_play_129 jcls fX2_185 (shS hm) (by decide) rfl (taS9 hm) ?_
    refine J.aload_n 0 dX2_play_132 rfl rfl ?_
    refine I.getR dX2_play_133 jcls fX2_21 (shM hm) (by decide) rfl (taM1 hm) ?_
    refine I.gI 2 rfl dX2_play_136 jcls fX2_61 (shS hm) (by decide) rfl ?_
    refine I.sx (show _ = f 2 from by simp [up, upE, RM.mover p0]) ?_
    refine I.callSN2i (d' := d - 1) (mi' := mX8_at) dX2_play_139 nX2_111 eX8_at (c_X8_at (d := d - 1) hl (by omega) (shS9 hm) (by first | omega | assumption) (by first | omega | assumption)) (show d - 1 + 1 ≤ d from by omega) (Nat.le_of_ble_eq_true rfl) ?_
    refine I.sx (show _ = s (m + 11) (f 2) from by simp [up, upE]) ?_
    refine I.iconst dX2_play_142 ?_
    refine I.add dX2_play_143 ?_
    refine I.callSN3v (d' := d - 1) (mi' := mX8_put) dX2_play_144 nX2_74 eX8_put (c_X8_put (d := d - 1) hl (by omega) (shS9 hm) (by first | omega | assumption) (by first | omega | assumption)) (show d - 1 + 1 ≤ d from by omega) (Nat.le_of_ble_eq_true rfl) ?_
    refine J.aload_n 0 dX2_play_147 rfl rfl ?_
    refine I.getR dX2_play_148 jcls fX2_21 (shM hm) (by decide) rfl (taM1 hm) ?_
    refine I.iconst dX2_play_151 ?_
    refine I.pI 3 rfl dX2_play_152 jcls fX2_64 (shS hm) (by decide) rfl ?_
    refine J.aload_n 0 dX2_play_155 rfl rfl ?_
    refine I.getR dX2_play_156 jcls fX2_21 (shM hm) (by decide) rfl (taM1 hm) ?_
    refine J.iload_n 1 dX2_play_159 rfl rfl ?_
    refine J.iload_n 2 dX2_play_160 rfl rfl ?_
    refine I.callV2v (d' := d - 1) (mi' := mX6_log) dX2_play_161 lX2_188 eX6_log (shS hm) rfl (c_X6_log (d := d - 1) hl (l := f 5) (by omega) (tM hm) (by simp [up, upE, RM.logged p0]) (by first | omega | assumption)) (show d - 1 + 1 ≤ d from by omega) (Nat.le_of_ble_eq_true rfl) ?_
    refine J.aload_n 0 dX2_play_164 rfl rfl ?_
    refine I.getR dX2_play_165 jcls fX2_21 (shM hm) (by decide) rfl (taM1 hm) ?_
    refine I.iconst dX2_play_168 ?_
    refine J.aload_n 0 dX2_play_169 rfl rfl ?_
    refine I.getR dX2_play_170 jcls fX2_21 (shM hm) (by decide) rfl (taM1 hm) ?_
    refine I.gI 2 rfl dX2_play_173 jcls fX2_61 (shS hm) (by decide) rfl ?_
    refine I.sx (show _ = f 2 from by simp [up, upE, RM.mover p0]) ?_
    refine I.sub dX2_play_176 ?_
    refine I.pI 2 rfl dX2_play_177 jcls fX2_61 (shS hm) (by decide) rfl ?_
    refine J.aload_n 0 dX2_play_180 rfl rfl ?_
    refine I.getR dX2_play_181 jcls fX2_21 (shM hm) (by decide) rfl (taM1 hm) ?_
    refine J.aload_n 0 dX2_play_184 rfl rfl ?_
    refine I.getR dX2_play_185 jcls fX2_21 (shM hm) (by decide) rfl (taM1 hm) ?_
    refine I.gI 3 rfl dX2_play_188 jcls fX2_64 (shS hm) (by decide) rfl ?_
    refine I.sx (show _ = (if z = 6 then f 4 + 1 else 0) from by simp [up, h9]) ?_
    refine I.iconst dX2_play_191 ?_
    refine I.icmp_gt 202 dX2_play_192 (by decide) (by omega) (by omega) (fun h192 => ?_) (fun h192 => ?_)
    · skip
      refine I.iconst dX2_play_202 ?_
      refine J.goto 207 dX2_play_203 (by decide) ?_
      refine I.pZ 4 rfl dX2_play_207 jcls fX2_94 (shS hm) (by decide) rfl (by first | exact Or.inl rfl | exact Or.inr rfl | exact bI_01 _ | omega) ?_
      exact I.vretQ dX2_play_210 rfl (by first | (exfalso; omega) | exact (by
        refine RM_play2 p0 p1 p2 ?_ ?_ ?_ ?_ ?_ ?_ ?_ ?_ ?_ ?_ ?_ ?_ ?_ ?_
        · intro q i g; (repeat (first | rw [up_ne (Or.inl (by omega))] | rw [up_ne (Or.inr (by omega))] | rw [upE_ne (by omega)]))
        · (repeat (first | rw [up_ne (Or.inl (by omega))] | rw [up_ne (Or.inr (by omega))] | rw [upE_ne (by omega)])); exact RM.round p0
        · (repeat (first | rw [up_ne (Or.inl (by omega))] | rw [up_ne (Or.inr (by omega))] | rw [upE_ne (by omega)])); exact RM.starter p0
        · exact up_eq _ _ _ _
        · (repeat (first | rw [up_ne (Or.inl (by omega))] | rw [up_ne (Or.inr (by omega))] | rw [upE_ne (by omega)]))
          first
            | (rw [up_eqq ⟨by omega, by omega⟩]; first | exact (if_pos (by assumption)).symm | exact (if_neg (by assumption)).symm)
            | rfl
        · (repeat (first | rw [up_ne (Or.inl (by omega))] | rw [up_ne (Or.inr (by omega))] | rw [upE_ne (by omega)])); exact up_eqq ⟨by omega, by omega⟩
        · intro i; (repeat (first | rw [up_ne (Or.inl (by omega))] | rw [up_ne (Or.inr (by omega))] | rw [upE_ne (by omega)])); first | (rw [if_neg (by omega)]) | (unfold upE; by_cases g : i = z / 2 ∧ z % 2 = 0 <;> first | rw [if_pos ⟨rfl, g.1, g.2⟩, if_pos (by omega)] | rw [if_neg (fun e => g ⟨e.2.1, e.2.2⟩), if_neg (by omega), if_neg (by omega)])
        · intro i; (repeat (first | rw [up_ne (Or.inl (by omega))] | rw [up_ne (Or.inr (by omega))] | rw [upE_ne (by omega)])); first | (rw [if_neg (by omega)]) | (unfold upE; by_cases g : i = z / 2 ∧ z % 2 = 1 <;> first | rw [if_neg (by omega), if_pos ⟨rfl, g.1, g.2⟩, if_pos (by omega)] | rw [if_neg (by omega), if_neg (fun e => g ⟨e.2.1, e.2.2⟩), if_neg (by omega)])
        · intro i; (repeat (first | rw [up_ne (Or.inl (by omega))] | rw [up_ne (Or.inr (by omega))] | rw [upE_ne (by omega)])); first | (rw [if_neg (by omega)]) | (rw [up_ext]; by_cases g : i = f 1 * 2 + f 2 <;> first | (rw [if_pos g, if_pos (by omega), g]) | rw [if_neg g, if_neg (by omega), upE_ne (by omega)])
        · intro i; (repeat (first | rw [up_ne (Or.inl (by omega))] | rw [up_ne (Or.inr (by omega))] | rw [upE_ne (by omega)])); first | (rw [if_neg (by omega)]) | (rw [up_ext]; by_cases g : i = f 2 <;> first | (rw [if_pos g, if_pos (by omega), g]) | (rw [if_neg g, if_neg (by omega)]; (repeat (first | rw [up_ne (Or.inl (by omega))] | rw [up_ne (Or.inr (by omega))] | rw [upE_ne (by omega)]))))
        · intro i; (repeat (first | rw [up_ne (Or.inl (by omega))] | rw [up_ne (Or.inr (by omega))] | rw [upE_ne (by omega)])); first | (rw [if_neg (by omega)]) | (rw [up_ext]; by_cases g : i = f 2 <;> first | (rw [if_pos g, if_pos (by omega), g]) | (rw [if_neg g, if_neg (by omega)]; (repeat (first | rw [up_ne (Or.inl (by omega))] | rw [up_ne (Or.inr (by omega))] | rw [upE_ne (by omega)]))))
        · intro i; (repeat (first | rw [up_ne (Or.inl (by omega))] | rw [up_ne (Or.inr (by omega))] | rw [upE_ne (by omega)])); change up _ (m + 13) _ _ _ _ = _; rw [up_ext]; by_cases g : i = f 5 <;> first | rw [if_pos g, if_pos g] | (rw [if_neg g, if_neg g]; (repeat (first | rw [up_ne (Or.inl (by omega))] | rw [up_ne (Or.inr (by omega))] | rw [upE_ne (by omega)])))
        · intro i; (repeat (first | rw [up_ne (Or.inl (by omega))] | rw [up_ne (Or.inr (by omega))] | rw [upE_ne (by omega)])); change up _ (m + 14) _ _ _ _ = _; rw [up_ext]; by_cases g : i = f 5 <;> first | rw [if_pos g, if_pos g] | (rw [if_neg g, if_neg g]; (repeat (first | rw [up_ne (Or.inl (by omega))] | rw [up_ne (Or.inr (by omega))] | rw [upE_ne (by omega)])))
        · first | exact (bI_t (Or.inl (by assumption))).symm | exact (bI_t (Or.inr (by assumption))).symm | exact (bI_f (by rintro (g | g); omega; contradiction)).symm))
    · skip
      refine J.aload_n 0 dX2_play_195 rfl rfl ?_
      refine I.callV0i (d' := d - 1) (mi' := mX2_burnsNow) dX2_play_196 lX2_90 eX2_burnsNow (shM hm) rfl (c_X2_burnsNow (d := d - 1) hl (by omega) hm) (show d - 1 + 1 ≤ d from by omega) (Nat.le_of_ble_eq_true rfl) ?_
      refine I.if_ne 206 dX2_play_199 (by decide) (by have b0 := RM.b p0 (c := 0) (by omega) (by omega); have b1 := RM.b p0 (c := 1) (by omega) (by omega); have b2 := RM.b p0 (c := 2) (by omega) (by omega); simp [up, upE]; (repeat' split) <;> omega) (fun h199 => ?_) (fun h199 => ?_)
      · skip
        refine I.iconst dX2_play_206 ?_
        refine I.pZ 4 rfl dX2_play_207 jcls fX2_94 (shS hm) (by decide) rfl (by first | exact Or.inl rfl | exact Or.inr rfl | exact bI_01 _ | omega) ?_
        exact I.vretQ dX2_play_210 rfl (by first | (exfalso; omega) | exact (by
          refine RM_play2 p0 p1 p2 ?_ ?_ ?_ ?_ ?_ ?_ ?_ ?_ ?_ ?_ ?_ ?_ ?_ ?_
          · intro q i g; (repeat (first | rw [up_ne (Or.inl (by omega))] | rw [up_ne (Or.inr (by omega))] | rw [upE_ne (by omega)]))
          · (repeat (first | rw [up_ne (Or.inl (by omega))] | rw [up_ne (Or.inr (by omega))] | rw [upE_ne (by omega)])); exact RM.round p0
          · (repeat (first | rw [up_ne (Or.inl (by omega))] | rw [up_ne (Or.inr (by omega))] | rw [upE_ne (by omega)])); exact RM.starter p0
          · exact up_eq _ _ _ _
          · (repeat (first | rw [up_ne (Or.inl (by omega))] | rw [up_ne (Or.inr (by omega))] | rw [upE_ne (by omega)]))
            first
              | (rw [up_eqq ⟨by omega, by omega⟩]; first | exact (if_pos (by assumption)).symm | exact (if_neg (by assumption)).symm)
              | rfl
          · (repeat (first | rw [up_ne (Or.inl (by omega))] | rw [up_ne (Or.inr (by omega))] | rw [upE_ne (by omega)])); exact up_eqq ⟨by omega, by omega⟩
          · intro i; (repeat (first | rw [up_ne (Or.inl (by omega))] | rw [up_ne (Or.inr (by omega))] | rw [upE_ne (by omega)])); first | (rw [if_neg (by omega)]) | (unfold upE; by_cases g : i = z / 2 ∧ z % 2 = 0 <;> first | rw [if_pos ⟨rfl, g.1, g.2⟩, if_pos (by omega)] | rw [if_neg (fun e => g ⟨e.2.1, e.2.2⟩), if_neg (by omega), if_neg (by omega)])
          · intro i; (repeat (first | rw [up_ne (Or.inl (by omega))] | rw [up_ne (Or.inr (by omega))] | rw [upE_ne (by omega)])); first | (rw [if_neg (by omega)]) | (unfold upE; by_cases g : i = z / 2 ∧ z % 2 = 1 <;> first | rw [if_neg (by omega), if_pos ⟨rfl, g.1, g.2⟩, if_pos (by omega)] | rw [if_neg (by omega), if_neg (fun e => g ⟨e.2.1, e.2.2⟩), if_neg (by omega)])
          · intro i; (repeat (first | rw [up_ne (Or.inl (by omega))] | rw [up_ne (Or.inr (by omega))] | rw [upE_ne (by omega)])); first | (rw [if_neg (by omega)]) | (rw [up_ext]; by_cases g : i = f 1 * 2 + f 2 <;> first | (rw [if_pos g, if_pos (by omega), g]) | rw [if_neg g, if_neg (by omega), upE_ne (by omega)])
          · intro i; (repeat (first | rw [up_ne (Or.inl (by omega))] | rw [up_ne (Or.inr (by omega))] | rw [upE_ne (by omega)])); first | (rw [if_neg (by omega)]) | (rw [up_ext]; by_cases g : i = f 2 <;> first | (rw [if_pos g, if_pos (by omega), g]) | (rw [if_neg g, if_neg (by omega)]; (repeat (first | rw [up_ne (Or.inl (by omega))] | rw [up_ne (Or.inr (by omega))] | rw [upE_ne (by omega)]))))
          · intro i; (repeat (first | rw [up_ne (Or.inl (by omega))] | rw [up_ne (Or.inr (by omega))] | rw [upE_ne (by omega)])); first | (rw [if_neg (by omega)]) | (rw [up_ext]; by_cases g : i = f 2 <;> first | (rw [if_pos g, if_pos (by omega), g]) | (rw [if_neg g, if_neg (by omega)]; (repeat (first | rw [up_ne (Or.inl (by omega))] | rw [up_ne (Or.inr (by omega))] | rw [upE_ne (by omega)]))))
          · intro i; (repeat (first | rw [up_ne (Or.inl (by omega))] | rw [up_ne (Or.inr (by omega))] | rw [upE_ne (by omega)])); change up _ (m + 13) _ _ _ _ = _; rw [up_ext]; by_cases g : i = f 5 <;> first | rw [if_pos g, if_pos g] | (rw [if_neg g, if_neg g]; (repeat (first | rw [up_ne (Or.inl (by omega))] | rw [up_ne (Or.inr (by omega))] | rw [upE_ne (by omega)])))
          · intro i; (repeat (first | rw [up_ne (Or.inl (by omega))] | rw [up_ne (Or.inr (by omega))] | rw [upE_ne (by omega)])); change up _ (m + 14) _ _ _ _ = _; rw [up_ext]; by_cases g : i = f 5 <;> first | rw [if_pos g, if_pos g] | (rw [if_neg g, if_neg g]; (repeat (first | rw [up_ne (Or.inl (by omega))] | rw [up_ne (Or.inr (by omega))] | rw [upE_ne (by omega)])))
          · first | exact (bI_t (Or.inl (by assumption))).symm | exact (bI_t (Or.inr (by assumption))).symm | exact (bI_f (by rintro (g | g); omega; contradiction)).symm))
      · skip
        refine I.iconst dX2_play_202 ?_
        refine J.goto 207 dX2_play_203 (by decide) ?_
        refine I.pZ 4 rfl dX2_play_207 jcls fX2_94 (shS hm) (by decide) rfl (by first | exact Or.inl rfl | exact Or.inr rfl | exact bI_01 _ | omega) ?_
        exact I.vretQ dX2_play_210 rfl (by first | (exfalso; omega) | exact (by
          refine RM_play2 p0 p1 p2 ?_ ?_ ?_ ?_ ?_ ?_ ?_ ?_ ?_ ?_ ?_ ?_ ?_ ?_
          · intro q i g; (repeat (first | rw [up_ne (Or.inl (by omega))] | rw [up_ne (Or.inr (by omega))] | rw [upE_ne (by omega)]))
          · (repeat (first | rw [up_ne (Or.inl (by omega))] | rw [up_ne (Or.inr (by omega))] | rw [upE_ne (by omega)])); exact RM.round p0
          · (repeat (first | rw [up_ne (Or.inl (by omega))] | rw [up_ne (Or.inr (by omega))] | rw [upE_ne (by omega)])); exact RM.starter p0
          · exact up_eq _ _ _ _
          · (repeat (first | rw [up_ne (Or.inl (by omega))] | rw [up_ne (Or.inr (by omega))] | rw [upE_ne (by omega)]))
            first
              | (rw [up_eqq ⟨by omega, by omega⟩]; first | exact (if_pos (by assumption)).symm | exact (if_neg (by assumption)).symm)
              | rfl
          · (repeat (first | rw [up_ne (Or.inl (by omega))] | rw [up_ne (Or.inr (by omega))] | rw [upE_ne (by omega)])); exact up_eqq ⟨by omega, by omega⟩
          · intro i; (repeat (first | rw [up_ne (Or.inl (by omega))] | rw [up_ne (Or.inr (by omega))] | rw [upE_ne (by omega)])); first | (rw [if_neg (by omega)]) | (unfold upE; by_cases g : i = z / 2 ∧ z % 2 = 0 <;> first | rw [if_pos ⟨rfl, g.1, g.2⟩, if_pos (by omega)] | rw [if_neg (fun e => g ⟨e.2.1, e.2.2⟩), if_neg (by omega), if_neg (by omega)])
          · intro i; (repeat (first | rw [up_ne (Or.inl (by omega))] | rw [up_ne (Or.inr (by omega))] | rw [upE_ne (by omega)])); first | (rw [if_neg (by omega)]) | (unfold upE; by_cases g : i = z / 2 ∧ z % 2 = 1 <;> first | rw [if_neg (by omega), if_pos ⟨rfl, g.1, g.2⟩, if_pos (by omega)] | rw [if_neg (by omega), if_neg (fun e => g ⟨e.2.1, e.2.2⟩), if_neg (by omega)])
          · intro i; (repeat (first | rw [up_ne (Or.inl (by omega))] | rw [up_ne (Or.inr (by omega))] | rw [upE_ne (by omega)])); first | (rw [if_neg (by omega)]) | (rw [up_ext]; by_cases g : i = f 1 * 2 + f 2 <;> first | (rw [if_pos g, if_pos (by omega), g]) | rw [if_neg g, if_neg (by omega), upE_ne (by omega)])
          · intro i; (repeat (first | rw [up_ne (Or.inl (by omega))] | rw [up_ne (Or.inr (by omega))] | rw [upE_ne (by omega)])); first | (rw [if_neg (by omega)]) | (rw [up_ext]; by_cases g : i = f 2 <;> first | (rw [if_pos g, if_pos (by omega), g]) | (rw [if_neg g, if_neg (by omega)]; (repeat (first | rw [up_ne (Or.inl (by omega))] | rw [up_ne (Or.inr (by omega))] | rw [upE_ne (by omega)]))))
          · intro i; (repeat (first | rw [up_ne (Or.inl (by omega))] | rw [up_ne (Or.inr (by omega))] | rw [upE_ne (by omega)])); first | (rw [if_neg (by omega)]) | (rw [up_ext]; by_cases g : i = f 2 <;> first | (rw [if_pos g, if_pos (by omega), g]) | (rw [if_neg g, if_neg (by omega)]; (repeat (first | rw [up_ne (Or.inl (by omega))] | rw [up_ne (Or.inr (by omega))] | rw [upE_ne (by omega)]))))
          · intro i; (repeat (first | rw [up_ne (Or.inl (by omega))] | rw [up_ne (Or.inr (by omega))] | rw [upE_ne (by omega)])); change up _ (m + 13) _ _ _ _ = _; rw [up_ext]; by_cases g : i = f 5 <;> first | rw [if_pos g, if_pos g] | (rw [if_neg g, if_neg g]; (repeat (first | rw [up_ne (Or.inl (by omega))] | rw [up_ne (Or.inr (by omega))] | rw [upE_ne (by omega)])))
          · intro i; (repeat (first | rw [up_ne (Or.inl (by omega))] | rw [up_ne (Or.inr (by omega))] | rw [upE_ne (by omega)])); change up _ (m + 14) _ _ _ _ = _; rw [up_ext]; by_cases g : i = f 5 <;> first | rw [if_pos g, if_pos g] | (rw [if_neg g, if_neg g]; (repeat (first | rw [up_ne (Or.inl (by omega))] | rw [up_ne (Or.inr (by omega))] | rw [upE_ne (by omega)])))
          · first | exact (bI_t (Or.inl (by assumption))).symm | exact (bI_t (Or.inr (by assumption))).symm | exact (bI_f (by rintro (g | g); omega; contradiction)).symm))
  · skip
    refine J.aload_n 0 dX2_play_12 rfl rfl ?_
    refine I.getR dX2_play_13 jcls fX2_21 (shM hm) (by decide) rfl (taM1 hm) ?_
    refine I.getR dX2_play_16 jcls fX2_178 (shS hm) (by decide) rfl (taS10 hm) ?_
    refine J.aload_n 0 dX2_play_19 rfl rfl ?_
    refine I.getR dX2_play_20 jcls fX2_21 (shM hm) (by decide) rfl (taM1 hm) ?_
    refine I.gI 2 rfl dX2_play_23 jcls fX2_61 (shS hm) (by decide) rfl ?_
    refine I.sx (show _ = f 2 from by simp [up, upE, RM.mover p0]) ?_
    refine J.aload_n 0 dX2_play_26 rfl rfl ?_
    refine I.getR dX2_play_27 jcls fX2_21 (shM hm) (by decide) rfl (taM1 hm) ?_
    refine I.getR dX2_play_30 jcls fX2_178 (shS hm) (by decide) rfl (taS10 hm) ?_
    refine J.aload_n 0 dX2_play_33 rfl rfl ?_
    refine I.getR dX2_play_34 jcls fX2_21 (shM hm) (by decide) rfl (taM1 hm) ?_
    refine I.gI 2 rfl dX2_play_37 jcls fX2_61 (shS hm) (by decide) rfl ?_
    refine I.sx (show _ = f 2 from by simp [up, upE, RM.mover p0]) ?_
    refine I.callSN2i (d' := d - 1) (mi' := mX8_at) dX2_play_40 nX2_111 eX8_at (c_X8_at (d := d - 1) hl (by omega) (shS10 hm) (by first | omega | assumption) (by first | omega | assumption)) (show d - 1 + 1 ≤ d from by omega) (Nat.le_of_ble_eq_true rfl) ?_
    refine I.sx rfl ?_
    refine I.iconst dX2_play_43 ?_
    refine I.add dX2_play_44 ?_
    refine I.callSN3v (d' := d - 1) (mi' := mX8_put) dX2_play_45 nX2_74 eX8_put (c_X8_put (d := d - 1) hl (by omega) (shS10 hm) (by first | omega | assumption) (by first | omega | assumption)) (show d - 1 + 1 ≤ d from by omega) (Nat.le_of_ble_eq_true rfl) ?_
    refine J.aload_n 0 dX2_play_48 rfl rfl ?_
    refine I.getR dX2_play_49 jcls fX2_21 (shM hm) (by decide) rfl (taM1 hm) ?_
    refine J.dupR dX2_play_52 ?_
    refine I.gI 3 rfl dX2_play_53 jcls fX2_64 (shS hm) (by decide) rfl ?_
    refine I.sx (show _ = f 4 from by simp [up, upE, RM.passesInARow p0]) ?_
    refine I.iconst dX2_play_56 ?_
    refine I.add dX2_play_57 ?_
    refine I.pI 3 rfl dX2_play_58 jcls fX2_64 (shS hm) (by decide) rfl ?_
    refine J.goto 155 dX2_play_61 (by decide) ?_
    refine J.aload_n 0 dX2_play_155 rfl rfl ?_
    refine I.getR dX2_play_156 jcls fX2_21 (shM hm) (by decide) rfl (taM1 hm) ?_
    refine J.iload_n 1 dX2_play_159 rfl rfl ?_
    refine J.iload_n 2 dX2_play_160 rfl rfl ?_
    refine I.callV2v (d' := d - 1) (mi' := mX6_log) dX2_play_161 lX2_188 eX6_log (shS hm) rfl (c_X6_log (d := d - 1) hl (l := f 5) (by omega) (tM hm) (by simp [up, upE, RM.logged p0]) (by first | omega | assumption)) (show d - 1 + 1 ≤ d from by omega) (Nat.le_of_ble_eq_true rfl) ?_
    refine J.aload_n 0 dX2_play_164 rfl rfl ?_
    refine I.getR dX2_play_165 jcls fX2_21 (shM hm) (by decide) rfl (taM1 hm) ?_
    refine I.iconst dX2_play_168 ?_
    refine J.aload_n 0 dX2_play_169 rfl rfl ?_
    refine I.getR dX2_play_170 jcls fX2_21 (shM hm) (by decide) rfl (taM1 hm) ?_
    refine I.gI 2 rfl dX2_play_173 jcls fX2_61 (shS hm) (by decide) rfl ?_
    refine I.sx (show _ = f 2 from by simp [up, upE, RM.mover p0]) ?_
    refine I.sub dX2_play_176 ?_
    refine I.pI 2 rfl dX2_play_177 jcls fX2_61 (shS hm) (by decide) rfl ?_
    refine J.aload_n 0 dX2_play_180 rfl rfl ?_
    refine I.getR dX2_play_181 jcls fX2_21 (shM hm) (by decide) rfl (taM1 hm) ?_
    refine J.aload_n 0 dX2_play_184 rfl rfl ?_
    refine I.getR dX2_play_185 jcls fX2_21 (shM hm) (by decide) rfl (taM1 hm) ?_
    refine I.gI 3 rfl dX2_play_188 jcls fX2_64 (shS hm) (by decide) rfl ?_
    refine I.sx (show _ = (if z = 6 then f 4 + 1 else 0) from by simp [up, h9]) ?_
    refine I.iconst dX2_play_191 ?_
    refine I.icmp_gt 202 dX2_play_192 (by decide) (by omega) (by omega) (fun h192 => ?_) (fun h192 => ?_)
    · skip
      refine I.iconst dX2_play_202 ?_
      refine J.goto 207 dX2_play_203 (by decide) ?_
      refine I.pZ 4 rfl dX2_play_207 jcls fX2_94 (shS hm) (by decide) rfl (by first | exact Or.inl rfl | exact Or.inr rfl | exact bI_01 _ | omega) ?_
      exact I.vretQ dX2_play_210 rfl (by first | (exfalso; omega) | exact (by
        refine RM_play2 p0 p1 p2 ?_ ?_ ?_ ?_ ?_ ?_ ?_ ?_ ?_ ?_ ?_ ?_ ?_ ?_
        · intro q i g; (repeat (first | rw [up_ne (Or.inl (by omega))] | rw [up_ne (Or.inr (by omega))] | rw [upE_ne (by omega)]))
        · (repeat (first | rw [up_ne (Or.inl (by omega))] | rw [up_ne (Or.inr (by omega))] | rw [upE_ne (by omega)])); exact RM.round p0
        · (repeat (first | rw [up_ne (Or.inl (by omega))] | rw [up_ne (Or.inr (by omega))] | rw [upE_ne (by omega)])); exact RM.starter p0
        · exact up_eq _ _ _ _
        · (repeat (first | rw [up_ne (Or.inl (by omega))] | rw [up_ne (Or.inr (by omega))] | rw [upE_ne (by omega)]))
          first
            | (rw [up_eqq ⟨by omega, by omega⟩]; first | exact (if_pos (by assumption)).symm | exact (if_neg (by assumption)).symm)
            | rfl
        · (repeat (first | rw [up_ne (Or.inl (by omega))] | rw [up_ne (Or.inr (by omega))] | rw [upE_ne (by omega)])); exact up_eqq ⟨by omega, by omega⟩
        · intro i; (repeat (first | rw [up_ne (Or.inl (by omega))] | rw [up_ne (Or.inr (by omega))] | rw [upE_ne (by omega)])); first | (rw [if_neg (by omega)]) | (unfold upE; by_cases g : i = z / 2 ∧ z % 2 = 0 <;> first | rw [if_pos ⟨rfl, g.1, g.2⟩, if_pos (by omega)] | rw [if_neg (fun e => g ⟨e.2.1, e.2.2⟩), if_neg (by omega), if_neg (by omega)])
        · intro i; (repeat (first | rw [up_ne (Or.inl (by omega))] | rw [up_ne (Or.inr (by omega))] | rw [upE_ne (by omega)])); first | (rw [if_neg (by omega)]) | (unfold upE; by_cases g : i = z / 2 ∧ z % 2 = 1 <;> first | rw [if_neg (by omega), if_pos ⟨rfl, g.1, g.2⟩, if_pos (by omega)] | rw [if_neg (by omega), if_neg (fun e => g ⟨e.2.1, e.2.2⟩), if_neg (by omega)])
        · intro i; (repeat (first | rw [up_ne (Or.inl (by omega))] | rw [up_ne (Or.inr (by omega))] | rw [upE_ne (by omega)])); first | (rw [if_neg (by omega)]) | (rw [up_ext]; by_cases g : i = f 1 * 2 + f 2 <;> first | (rw [if_pos g, if_pos (by omega), g]) | rw [if_neg g, if_neg (by omega), upE_ne (by omega)])
        · intro i; (repeat (first | rw [up_ne (Or.inl (by omega))] | rw [up_ne (Or.inr (by omega))] | rw [upE_ne (by omega)])); first | (rw [if_neg (by omega)]) | (rw [up_ext]; by_cases g : i = f 2 <;> first | (rw [if_pos g, if_pos (by omega), g]) | (rw [if_neg g, if_neg (by omega)]; (repeat (first | rw [up_ne (Or.inl (by omega))] | rw [up_ne (Or.inr (by omega))] | rw [upE_ne (by omega)]))))
        · intro i; (repeat (first | rw [up_ne (Or.inl (by omega))] | rw [up_ne (Or.inr (by omega))] | rw [upE_ne (by omega)])); first | (rw [if_neg (by omega)]) | (rw [up_ext]; by_cases g : i = f 2 <;> first | (rw [if_pos g, if_pos (by omega), g]) | (rw [if_neg g, if_neg (by omega)]; (repeat (first | rw [up_ne (Or.inl (by omega))] | rw [up_ne (Or.inr (by omega))] | rw [upE_ne (by omega)]))))
        · intro i; (repeat (first | rw [up_ne (Or.inl (by omega))] | rw [up_ne (Or.inr (by omega))] | rw [upE_ne (by omega)])); change up _ (m + 13) _ _ _ _ = _; rw [up_ext]; by_cases g : i = f 5 <;> first | rw [if_pos g, if_pos g] | (rw [if_neg g, if_neg g]; (repeat (first | rw [up_ne (Or.inl (by omega))] | rw [up_ne (Or.inr (by omega))] | rw [upE_ne (by omega)])))
        · intro i; (repeat (first | rw [up_ne (Or.inl (by omega))] | rw [up_ne (Or.inr (by omega))] | rw [upE_ne (by omega)])); change up _ (m + 14) _ _ _ _ = _; rw [up_ext]; by_cases g : i = f 5 <;> first | rw [if_pos g, if_pos g] | (rw [if_neg g, if_neg g]; (repeat (first | rw [up_ne (Or.inl (by omega))] | rw [up_ne (Or.inr (by omega))] | rw [upE_ne (by omega)])))
        · first | exact (bI_t (Or.inl (by assumption))).symm | exact (bI_t (Or.inr (by assumption))).symm | exact (bI_f (by rintro (g | g); omega; contradiction)).symm))
    · skip
      refine J.aload_n 0 dX2_play_195 rfl rfl ?_
      refine I.callV0i (d' := d - 1) (mi' := mX2_burnsNow) dX2_play_196 lX2_90 eX2_burnsNow (shM hm) rfl (c_X2_burnsNow (d := d - 1) hl (by omega) hm) (show d - 1 + 1 ≤ d from by omega) (Nat.le_of_ble_eq_true rfl) ?_
      refine I.if_ne 206 dX2_play_199 (by decide) (by have b0 := RM.b p0 (c := 0) (by omega) (by omega); have b1 := RM.b p0 (c := 1) (by omega) (by omega); have b2 := RM.b p0 (c := 2) (by omega) (by omega); simp [up, upE]; (repeat' split) <;> omega) (fun h199 => ?_) (fun h199 => ?_)
      · skip
        refine I.iconst dX2_play_206 ?_
        refine I.pZ 4 rfl dX2_play_207 jcls fX2_94 (shS hm) (by decide) rfl (by first | exact Or.inl rfl | exact Or.inr rfl | exact bI_01 _ | omega) ?_
        exact I.vretQ dX2_play_210 rfl (by first | (exfalso; omega) | exact (by
          refine RM_play2 p0 p1 p2 ?_ ?_ ?_ ?_ ?_ ?_ ?_ ?_ ?_ ?_ ?_ ?_ ?_ ?_
          · intro q i g; (repeat (first | rw [up_ne (Or.inl (by omega))] | rw [up_ne (Or.inr (by omega))] | rw [upE_ne (by omega)]))
          · (repeat (first | rw [up_ne (Or.inl (by omega))] | rw [up_ne (Or.inr (by omega))] | rw [upE_ne (by omega)])); exact RM.round p0
          · (repeat (first | rw [up_ne (Or.inl (by omega))] | rw [up_ne (Or.inr (by omega))] | rw [upE_ne (by omega)])); exact RM.starter p0
          · exact up_eq _ _ _ _
          · (repeat (first | rw [up_ne (Or.inl (by omega))] | rw [up_ne (Or.inr (by omega))] | rw [upE_ne (by omega)]))
            first
              | (rw [up_eqq ⟨by omega, by omega⟩]; first | exact (if_pos (by assumption)).symm | exact (if_neg (by assumption)).symm)
              | rfl
          · (repeat (first | rw [up_ne (Or.inl (by omega))] | rw [up_ne (Or.inr (by omega))] | rw [upE_ne (by omega)])); exact up_eqq ⟨by omega, by omega⟩
          · intro i; (repeat (first | rw [up_ne (Or.inl (by omega))] | rw [up_ne (Or.inr (by omega))] | rw [upE_ne (by omega)])); first | (rw [if_neg (by omega)]) | (unfold upE; by_cases g : i = z / 2 ∧ z % 2 = 0 <;> first | rw [if_pos ⟨rfl, g.1, g.2⟩, if_pos (by omega)] | rw [if_neg (fun e => g ⟨e.2.1, e.2.2⟩), if_neg (by omega), if_neg (by omega)])
          · intro i; (repeat (first | rw [up_ne (Or.inl (by omega))] | rw [up_ne (Or.inr (by omega))] | rw [upE_ne (by omega)])); first | (rw [if_neg (by omega)]) | (unfold upE; by_cases g : i = z / 2 ∧ z % 2 = 1 <;> first | rw [if_neg (by omega), if_pos ⟨rfl, g.1, g.2⟩, if_pos (by omega)] | rw [if_neg (by omega), if_neg (fun e => g ⟨e.2.1, e.2.2⟩), if_neg (by omega)])
          · intro i; (repeat (first | rw [up_ne (Or.inl (by omega))] | rw [up_ne (Or.inr (by omega))] | rw [upE_ne (by omega)])); first | (rw [if_neg (by omega)]) | (rw [up_ext]; by_cases g : i = f 1 * 2 + f 2 <;> first | (rw [if_pos g, if_pos (by omega), g]) | rw [if_neg g, if_neg (by omega), upE_ne (by omega)])
          · intro i; (repeat (first | rw [up_ne (Or.inl (by omega))] | rw [up_ne (Or.inr (by omega))] | rw [upE_ne (by omega)])); first | (rw [if_neg (by omega)]) | (rw [up_ext]; by_cases g : i = f 2 <;> first | (rw [if_pos g, if_pos (by omega), g]) | (rw [if_neg g, if_neg (by omega)]; (repeat (first | rw [up_ne (Or.inl (by omega))] | rw [up_ne (Or.inr (by omega))] | rw [upE_ne (by omega)]))))
          · intro i; (repeat (first | rw [up_ne (Or.inl (by omega))] | rw [up_ne (Or.inr (by omega))] | rw [upE_ne (by omega)])); first | (rw [if_neg (by omega)]) | (rw [up_ext]; by_cases g : i = f 2 <;> first | (rw [if_pos g, if_pos (by omega), g]) | (rw [if_neg g, if_neg (by omega)]; (repeat (first | rw [up_ne (Or.inl (by omega))] | rw [up_ne (Or.inr (by omega))] | rw [upE_ne (by omega)]))))
          · intro i; (repeat (first | rw [up_ne (Or.inl (by omega))] | rw [up_ne (Or.inr (by omega))] | rw [upE_ne (by omega)])); change up _ (m + 13) _ _ _ _ = _; rw [up_ext]; by_cases g : i = f 5 <;> first | rw [if_pos g, if_pos g] | (rw [if_neg g, if_neg g]; (repeat (first | rw [up_ne (Or.inl (by omega))] | rw [up_ne (Or.inr (by omega))] | rw [upE_ne (by omega)])))
          · intro i; (repeat (first | rw [up_ne (Or.inl (by omega))] | rw [up_ne (Or.inr (by omega))] | rw [upE_ne (by omega)])); change up _ (m + 14) _ _ _ _ = _; rw [up_ext]; by_cases g : i = f 5 <;> first | rw [if_pos g, if_pos g] | (rw [if_neg g, if_neg g]; (repeat (first | rw [up_ne (Or.inl (by omega))] | rw [up_ne (Or.inr (by omega))] | rw [upE_ne (by omega)])))
          · first | exact (bI_t (Or.inl (by assumption))).symm | exact (bI_t (Or.inr (by assumption))).symm | exact (bI_f (by rintro (g | g); omega; contradiction)).symm))
      · skip
        refine I.iconst dX2_play_202 ?_
        refine J.goto 207 dX2_play_203 (by decide) ?_
        refine I.pZ 4 rfl dX2_play_207 jcls fX2_94 (shS hm) (by decide) rfl (by first | exact Or.inl rfl | exact Or.inr rfl | exact bI_01 _ | omega) ?_
        exact I.vretQ dX2_play_210 rfl (by first | (exfalso; omega) | exact (by
          refine RM_play2 p0 p1 p2 ?_ ?_ ?_ ?_ ?_ ?_ ?_ ?_ ?_ ?_ ?_ ?_ ?_ ?_
          · intro q i g; (repeat (first | rw [up_ne (Or.inl (by omega))] | rw [up_ne (Or.inr (by omega))] | rw [upE_ne (by omega)]))
          · (repeat (first | rw [up_ne (Or.inl (by omega))] | rw [up_ne (Or.inr (by omega))] | rw [upE_ne (by omega)])); exact RM.round p0
          · (repeat (first | rw [up_ne (Or.inl (by omega))] | rw [up_ne (Or.inr (by omega))] | rw [upE_ne (by omega)])); exact RM.starter p0
          · exact up_eq _ _ _ _
          · (repeat (first | rw [up_ne (Or.inl (by omega))] | rw [up_ne (Or.inr (by omega))] | rw [upE_ne (by omega)]))
            first
              | (rw [up_eqq ⟨by omega, by omega⟩]; first | exact (if_pos (by assumption)).symm | exact (if_neg (by assumption)).symm)
              | rfl
          · (repeat (first | rw [up_ne (Or.inl (by omega))] | rw [up_ne (Or.inr (by omega))] | rw [upE_ne (by omega)])); exact up_eqq ⟨by omega, by omega⟩
          · intro i; (repeat (first | rw [up_ne (Or.inl (by omega))] | rw [up_ne (Or.inr (by omega))] | rw [upE_ne (by omega)])); first | (rw [if_neg (by omega)]) | (unfold upE; by_cases g : i = z / 2 ∧ z % 2 = 0 <;> first | rw [if_pos ⟨rfl, g.1, g.2⟩, if_pos (by omega)] | rw [if_neg (fun e => g ⟨e.2.1, e.2.2⟩), if_neg (by omega), if_neg (by omega)])
          · intro i; (repeat (first | rw [up_ne (Or.inl (by omega))] | rw [up_ne (Or.inr (by omega))] | rw [upE_ne (by omega)])); first | (rw [if_neg (by omega)]) | (unfold upE; by_cases g : i = z / 2 ∧ z % 2 = 1 <;> first | rw [if_neg (by omega), if_pos ⟨rfl, g.1, g.2⟩, if_pos (by omega)] | rw [if_neg (by omega), if_neg (fun e => g ⟨e.2.1, e.2.2⟩), if_neg (by omega)])
          · intro i; (repeat (first | rw [up_ne (Or.inl (by omega))] | rw [up_ne (Or.inr (by omega))] | rw [upE_ne (by omega)])); first | (rw [if_neg (by omega)]) | (rw [up_ext]; by_cases g : i = f 1 * 2 + f 2 <;> first | (rw [if_pos g, if_pos (by omega), g]) | rw [if_neg g, if_neg (by omega), upE_ne (by omega)])
          · intro i; (repeat (first | rw [up_ne (Or.inl (by omega))] | rw [up_ne (Or.inr (by omega))] | rw [upE_ne (by omega)])); first | (rw [if_neg (by omega)]) | (rw [up_ext]; by_cases g : i = f 2 <;> first | (rw [if_pos g, if_pos (by omega), g]) | (rw [if_neg g, if_neg (by omega)]; (repeat (first | rw [up_ne (Or.inl (by omega))] | rw [up_ne (Or.inr (by omega))] | rw [upE_ne (by omega)]))))
          · intro i; (repeat (first | rw [up_ne (Or.inl (by omega))] | rw [up_ne (Or.inr (by omega))] | rw [upE_ne (by omega)])); first | (rw [if_neg (by omega)]) | (rw [up_ext]; by_cases g : i = f 2 <;> first | (rw [if_pos g, if_pos (by omega), g]) | (rw [if_neg g, if_neg (by omega)]; (repeat (first | rw [up_ne (Or.inl (by omega))] | rw [up_ne (Or.inr (by omega))] | rw [upE_ne (by omega)]))))
          · intro i; (repeat (first | rw [up_ne (Or.inl (by omega))] | rw [up_ne (Or.inr (by omega))] | rw [upE_ne (by omega)])); change up _ (m + 13) _ _ _ _ = _; rw [up_ext]; by_cases g : i = f 5 <;> first | rw [if_pos g, if_pos g] | (rw [if_neg g, if_neg g]; (repeat (first | rw [up_ne (Or.inl (by omega))] | rw [up_ne (Or.inr (by omega))] | rw [upE_ne (by omega)])))
          · intro i; (repeat (first | rw [up_ne (Or.inl (by omega))] | rw [up_ne (Or.inr (by omega))] | rw [upE_ne (by omega)])); change up _ (m + 14) _ _ _ _ = _; rw [up_ext]; by_cases g : i = f 5 <;> first | rw [if_pos g, if_pos g] | (rw [if_neg g, if_neg g]; (repeat (first | rw [up_ne (Or.inl (by omega))] | rw [up_ne (Or.inr (by omega))] | rw [upE_ne (by omega)])))
          · first | exact (bI_t (Or.inl (by assumption))).symm | exact (bI_t (Or.inr (by assumption))).symm | exact (bI_f (by rintro (g | g); omega; contradiction)).symm))
