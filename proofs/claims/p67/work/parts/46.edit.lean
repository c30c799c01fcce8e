set_option maxHeartbeats 1000000 in
theorem c_X8_burn {Γ : jE} (hl : Γ.1.stackTraces = false) {s : Nat → Int → Int} {ε : jEps} {d : Nat} {c : Int} {b : Int} {a : AS} (hd : 3 ≤ d) (p0 : CI s a) (p1 : AI a) (p2 : -2147483648 ≤ c ∧ c < 2147483648) (p3 : 0 ≤ b ∧ b ≤ 1) : Con Γ (d, 2, 12) mX8_burn [.ref 0, .int (iI c), .int (iI b)] (jmem s ε) (RQ (fun w s' => ((0 ≤ c ∧ c < (aF a) (18 + (aF a) 1)) ∧ ¬ gOver (aF a) ∧ 1 < (aF a) (37 + c) - (aF a) (34 + c) + 1) ∧ gPt (aF a) (2 * c + (1 - b)) = w ∧ CI s' (aSet (aRec a) (gPlay (aF a) (2 * c + (1 - b)))) ∧ HiE s s') ε) ((fun E M => M = jmem s ε ∧ ((E = "java/lang/IndexOutOfBoundsException" ∧ ¬ (0 ≤ c ∧ c < (aF a) (18 + (aF a) 1))) ∨ (E = "java/lang/IllegalStateException" ∧ (0 ≤ c ∧ c < (aF a) (18 + (aF a) 1)) ∧ ¬ (¬ gOver (aF a) ∧ 1 < (aF a) (37 + c) - (aF a) (34 + c) + 1))))) := by
  refine Con.ofJ (by decide +kernel) (by simp [Value.category]) (Nat.le_of_ble_eq_true rfl) ?_ hl
  have hw := RM.w p0.m
  have fl := p1.1.1
  have fv := p1.1.2
  have n8 := p1.2.1
  have s3 := p0.2.2.1
  have f5 := p1.1.2.moves
  refine J.aload_n 0 dX8_burn_0 rfl rfl ?_
  refine J.iload_n 1 dX8_burn_1 rfl rfl ?_
  refine I.callV1wX (b' := (d - 1, 1, 6)) (mi' := mX8_needChain) dX8_burn_2 lX8_181 eX8_needChain rfl rfl (c_X8_needChain (d := d - 1) hl (by omega) p0.m (by first | omega | assumption)) (show d - 1 + 1 ≤ d ∧ 1 ≤ 2 ∧ 6 ≤ 12 from ⟨by omega, by decide, by decide⟩) (by rintro E M' ⟨rfl, hc, rfl⟩; exact ⟨rfl, Or.inl ⟨rfl, hc⟩⟩) (Nat.le_of_ble_eq_true rfl) ?_
  rintro _ ⟨rfl, ok2⟩
  refine J.aload_n 0 dX8_burn_5 rfl rfl ?_
  refine I.getR dX8_burn_6 jcls fX8_30 rfl (by decide) rfl rfl ?_
  refine I.getR dX8_burn_9 jcls fX8_129 rfl (by decide) rfl rfl ?_
  refine I.gI 4 rfl dX8_burn_12 jcls fX8_135 rfl (by decide) rfl ?_
  refine I.sx (RM.over p0.m) ?_
  refine I.if_neB 30 dX8_burn_15 (by decide) (fun h15 => ?_) (fun h15 => ?_)
  · skip
    exact I.throw75 (text := "nothing can be burnt there") rfl (by decide) (Or.inr ⟨dX8_burn_30, dX8_burn_33, dX8_burn_34, dX8_burn_37, dX8_burn_40⟩) (show 1 ≤ 1 ∧ 6 ≤ 6 from by decide) ⟨rfl, Or.inr ⟨rfl, ok2, fun h => by first | exact h.1 (by assumption) | (have := h.2; omega)⟩⟩
  · skip
    have e := RM.e p0.m c ok2.1 ok2.2
    refine J.aload_n 0 dX8_burn_18 rfl rfl ?_
    refine I.getR dX8_burn_19 jcls fX8_30 rfl (by decide) rfl rfl ?_
    refine J.iload_n 1 dX8_burn_22 rfl rfl ?_
    refine I.callV1i (d' := d - 1) (mi' := mX2_lengthNow) dX8_burn_23 lX8_184 eX2_lengthNow rfl rfl (c_X2_lengthNow (d := d - 1) hl (by omega) jm21 p0.m (by first | omega | assumption)) (show d - 1 + 1 ≤ d from by omega) (Nat.le_of_ble_eq_true rfl) ?_
    refine I.iconst dX8_burn_26 ?_
    refine I.icmp_ge 41 dX8_burn_27 (by decide) (by omega) (by omega) (fun h27 => ?_) (fun h27 => ?_)
    · skip
      have lg : gLegal (aF a) (2 * c + (1 - b)) := Or.inr ⟨by omega, by omega, by rw [show (2 * c + (1 - b)) / 2 = c by omega]; omega⟩
      have ly := gPlay_lay fl fv lg
      refine J.iload_n 1 dX8_burn_41 rfl rfl ?_
      refine J.iload_n 2 dX8_burn_42 rfl rfl ?_
      refine I.callS2i (d' := d - 1) (mi' := mX8_burnCode) dX8_burn_43 lX8_298 eX8_burnCode rfl (c_X8_burnCode (d := d - 1) hl (by omega) (by first | omega | assumption) (by first | omega | assumption)) (show d - 1 + 1 ≤ d from by omega) (Nat.le_of_ble_eq_true rfl) ?_
      refine J.istore_n 3 dX8_burn_46 rfl (by decide) rfl ?_
      refine J.aload_n 0 dX8_burn_47 rfl rfl ?_
      refine I.getR dX8_burn_48 jcls fX8_30 rfl (by decide) rfl rfl ?_
      refine J.iload_n 3 dX8_burn_51 rfl rfl ?_
      refine I.callV1i (d' := d - 1) (mi' := mX2_pointsOfCode) dX8_burn_52 lX8_218 eX2_pointsOfCode rfl rfl (c_X2_pointsOfCode (d := d - 1) hl (by omega) jm21 p0.m lg.ok) (show d - 1 + 1 ≤ d from by omega) (Nat.le_of_ble_eq_true rfl) ?_
      refine J.istore dX8_burn_55 (by decide) rfl ?_
      refine J.aload_n 0 dX8_burn_57 rfl rfl ?_
      refine I.getR dX8_burn_58 jcls fX8_47 rfl (by decide) rfl rfl ?_
      refine J.aload_n 0 dX8_burn_61 rfl rfl ?_
      refine I.getR dX8_burn_62 jcls fX8_30 rfl (by decide) rfl rfl ?_
      refine I.getR dX8_burn_65 jcls fX8_129 rfl (by decide) rfl rfl ?_
      refine I.callV1w (d' := d - 1) (mi' := mX0_remember) dX8_burn_68 lX8_302 eX0_remember rfl rfl (c_X0_remember (d := d - 1) hl (by omega) jt28 (by omega) ⟨s3.2.1, s3.2.2.1⟩ (by omega) (by rw [show s 28 4 = _ from RM.over p0.m]; exact bI_01 _)) (show d - 1 + 1 ≤ d from by omega) (Nat.le_of_ble_eq_true rfl) ?_
      rintro s68 ⟨a068, a168, a268, e068, e168, e268, e368, e468, e568, e668, e768⟩
      have hr68 : HRem (f := (aF a)) s s68 := ⟨a068, a168, a268, RT.copy (o := 28) p0.m.t f5.2.2 e068 e168 e268 e368 e468 e568 e668 e768⟩
      obtain ⟨ci68, hi68⟩ := p0.rec p1 hr68
      refine J.aload_n 0 dX8_burn_71 rfl rfl ?_
      refine I.getR dX8_burn_72 jcls fX8_30 rfl (by decide) rfl rfl ?_
      refine J.iload_n 3 dX8_burn_75 rfl rfl ?_
      refine I.callV1w (d' := d - 1) (mi' := mX2_play) dX8_burn_76 lX8_281 eX2_play rfl rfl (c_X2_play (d := d - 1) hl (by omega) jm21 ci68.m lg h15) (show d - 1 + 1 ≤ d from by omega) (Nat.le_of_ble_eq_true rfl) ?_
      rintro s76 ⟨r76, w76⟩
      refine J.iload dX8_burn_79 rfl ?_
      exact I.iretQ dX8_burn_81 rfl ⟨⟨ok2, h15, by omega⟩, rfl, ci68.set fl r76 ly (fun q i x _ => w76 q i x) (ci68.so.keep fun q j x => w76 q j (by omega)), fun q i x => (w76 q i (by omega)).trans (hi68 q i x)⟩
    · skip
      exact I.throw75 (text := "nothing can be burnt there") rfl (by decide) (Or.inr ⟨dX8_burn_30, dX8_burn_33, dX8_burn_34, dX8_burn_37, dX8_burn_40⟩) (show 1 ≤ 1 ∧ 6 ≤ 6 from by decide) ⟨rfl, Or.inr ⟨rfl, ok2, fun h => by first | exact h.1 (by assumption) | (have := h.2; omega)⟩⟩
set_option maxHeartbeats 1000000 in
theorem c_X8_pass {Γ : jE} (hl : Γ.1.stackTraces = false) {s : Nat → Int → Int} {ε : jEps} {d : Nat} {a : AS} (hd : 3 ≤ d) (p0 : CI s a) (p1 : AI a) : Con Γ (d, 1, 6) mX8_pass [.ref 0] (jmem s ε) (RQ (fun w s' => ¬ gOver (aF a) ∧ bI (gOver (gPlay (aF a) 6)) = w ∧ CI s' (aSet (aRec a) (gPlay (aF a) 6)) ∧ HiE s s') ε) (XT "java/lang/IllegalStateException" (¬ ¬ gOver (aF a)) s ε) := by
  refine Con.ofJ (by decide +kernel) (by simp [Value.category]) (Nat.le_of_ble_eq_true rfl) ?_ hl
  have hw := RM.w p0.m
  have fl := p1.1.1
  have fv := p1.1.2
  have n8 := p1.2.1
  have s3 := p0.2.2.1
  have f5 := p1.1.2.moves
  refine J.aload_n 0 dX8_pass_0 rfl rfl ?_
  refine I.getR dX8_pass_1 jcls fX8_30 rfl (by decide) rfl rfl ?_
  refine I.getR dX8_pass_4 jcls fX8_129 rfl (by decide) rfl rfl ?_
  refine I.gI 4 rfl dX8_pass_7 jcls fX8_135 rfl (by decide) rfl ?_
  refine I.sx (RM.over p0.m) ?_
  refine I.if_eqB 24 dX8_pass_10 (by decide) (fun h10 => ?_) (fun h10 => ?_)
  · skip
    have lg : gLegal (aF a) 6 := Or.inl rfl
    have ly := gPlay_lay fl fv lg
    refine J.aload_n 0 dX8_pass_24 rfl rfl ?_
    refine I.getR dX8_pass_25 jcls fX8_47 rfl (by decide) rfl rfl ?_
    refine J.aload_n 0 dX8_pass_28 rfl rfl ?_
    refine I.getR dX8_pass_29 jcls fX8_30 rfl (by decide) rfl rfl ?_
    refine I.getR dX8_pass_32 jcls fX8_129 rfl (by decide) rfl rfl ?_
    refine I.callV1w (d' := d - 1) (mi' := mX0_remember) dX8_pass_35 lX8_302 eX0_remember rfl rfl (c_X0_remember (d := d - 1) hl (by omega) jt28 (by omega) ⟨s3.2.1, s3.2.2.1⟩ (by omega) (by rw [show s 28 4 = _ from RM.over p0.m]; exact bI_01 _)) (show d - 1 + 1 ≤ d from by omega) (Nat.le_of_ble_eq_true rfl) ?_
    rintro s35 ⟨a035, a135, a235, e035, e135, e235, e335, e435, e535, e635, e735⟩
    have hr35 : HRem (f := (aF a)) s s35 := ⟨a035, a135, a235, RT.copy (o := 28) p0.m.t f5.2.2 e035 e135 e235 e335 e435 e535 e635 e735⟩
    obtain ⟨ci35, hi35⟩ := p0.rec p1 hr35
    refine J.aload_n 0 dX8_pass_38 rfl rfl ?_
    refine I.getR dX8_pass_39 jcls fX8_30 rfl (by decide) rfl rfl ?_
    refine I.bipush dX8_pass_42 (by decide) ?_
    refine I.callV1w (d' := d - 1) (mi' := mX2_play) dX8_pass_44 lX8_281 eX2_play rfl rfl (c_X2_play (d := d - 1) hl (by omega) jm21 ci35.m lg h10) (show d - 1 + 1 ≤ d from by omega) (Nat.le_of_ble_eq_true rfl) ?_
    rintro s44 ⟨r44, w44⟩
    refine J.aload_n 0 dX8_pass_47 rfl rfl ?_
    refine I.getR dX8_pass_48 jcls fX8_30 rfl (by decide) rfl rfl ?_
    refine I.getR dX8_pass_51 jcls fX8_129 rfl (by decide) rfl rfl ?_
    refine I.gI 4 rfl dX8_pass_54 jcls fX8_135 rfl (by decide) rfl ?_
    refine I.sx (RM.over r44) ?_
    exact I.zretQ dX8_pass_57 rfl (by first | exact Or.inl rfl | exact Or.inr rfl | exact bI_01 _ | omega) ⟨h10, rfl, ci35.set fl r44 ly (fun q i x _ => w44 q i x) (ci35.so.keep fun q j x => w44 q j (by omega)), fun q i x => (w44 q i (by omega)).trans (hi35 q i x)⟩
  · skip
    exact I.throw75 (text := "the round is over") rfl (by decide) (Or.inr ⟨dX8_pass_13, dX8_pass_16, dX8_pass_17, dX8_pass_20, dX8_pass_23⟩) (show 1 ≤ 1 ∧ 6 ≤ 6 from by decide) ⟨rfl, fun h => h h10, rfl⟩
