theorem MV.row {s : Nat → Int → Int} {f : Int → Int} (h : MV s f) (e : s 137 2 = 0) : ∀ k, 0 ≤ k → k < 232 → s 138 k = f k := fun k a b => by have := h.2 k a b; rw [e, Int.zero_add] at this; exact this
set_option maxHeartbeats 1000000 in
theorem c_X9_records {Γ : jE} (hl : Γ.1.stackTraces = false) {s : Nat → Int → Int} {ε : jEps} {d : Nat} (hd : 1 ≤ d) (p0 : 0 ≤ s 137 3 ∧ s 137 3 ≤ 8) (p1 : 0 ≤ s 137 4 ∧ s 137 4 < 8) : Con Γ (d, 0, 0) mX9_records [.ref 137] (jmem s ε) (RW (fun s' => MRem s s') ε) X0 := by
  refine Con.ofJ (by decide +kernel) (by simp [Value.category]) (Nat.le_of_ble_eq_true rfl) ?_ hl
  refine J.aload_n 0 dX9_records_0 rfl rfl ?_
  refine I.gI 4 rfl dX9_records_1 jcls fX9_50 rfl (by decide) rfl ?_
  refine J.aload_n 0 dX9_records_4 rfl rfl ?_
  refine I.gI 3 rfl dX9_records_5 jcls fX9_53 rfl (by decide) rfl ?_
  refine I.add dX9_records_8 ?_
  refine I.bipush dX9_records_9 (by decide) ?_
  refine I.rem dX9_records_11 (by omega) (by omega) ?_
  refine J.istore_n 1 dX9_records_12 rfl (by decide) rfl ?_
  refine J.aload_n 0 dX9_records_13 rfl rfl ?_
  refine I.gI 3 rfl dX9_records_14 jcls fX9_53 rfl (by decide) rfl ?_
  refine I.bipush dX9_records_17 (by decide) ?_
  refine I.icmp_ne 38 dX9_records_19 (by decide) (by omega) (by omega) (fun h19 => ?_) (fun h19 => ?_)
  · skip
    refine J.aload_n 0 dX9_records_38 rfl rfl ?_
    refine J.dupR dX9_records_39 ?_
    refine I.gI 3 rfl dX9_records_40 jcls fX9_53 rfl (by decide) rfl ?_
    refine I.iconst dX9_records_43 ?_
    refine I.add dX9_records_44 ?_
    refine I.pI 3 rfl dX9_records_45 jcls fX9_53 rfl (by decide) rfl ?_
    refine J.aload_n 0 dX9_records_48 rfl rfl ?_
    refine I.iconst dX9_records_49 ?_
    refine I.iconst dX9_records_50 ?_
    refine J.iload_n 1 dX9_records_51 rfl rfl ?_
    refine I.add dX9_records_52 ?_
    refine I.callV2w (d' := d - 1) (mi' := mX9_copies) dX9_records_53 lX9_56 eX9_copies rfl rfl (c_X9_copies (d := d - 1) hl (by omega) (by first | omega | assumption) (by first | omega | assumption) (by first | omega | assumption)) (show d - 1 + 1 ≤ d from by omega) (Nat.le_of_ble_eq_true rfl) ?_
    rintro s53 ⟨u53, v53, w53⟩
    exact I.vretQ dX9_records_56 rfl ⟨fun q i x y => (u53 q i x).trans (up_ne (by omega)), by rw [u53 _ _ (by decide), up_eq]; omega, by rw [u53 _ _ (by decide), up_ne (Or.inr (by decide)), if_neg h19], fun j x => (v53 j x).trans (up_ne (Or.inl (by decide))), fun j x y => by rw [w53 j x y, up_ne (Or.inl (by decide)), show (232 : Int) * 0 + j = j by omega]⟩
  · skip
    refine J.aload_n 0 dX9_records_22 rfl rfl ?_
    refine J.aload_n 0 dX9_records_23 rfl rfl ?_
    refine I.gI 4 rfl dX9_records_24 jcls fX9_50 rfl (by decide) rfl ?_
    refine I.iconst dX9_records_27 ?_
    refine I.add dX9_records_28 ?_
    refine I.bipush dX9_records_29 (by decide) ?_
    refine I.rem dX9_records_31 (by omega) (by omega) ?_
    refine I.pI 4 rfl dX9_records_32 jcls fX9_50 rfl (by decide) rfl ?_
    refine J.goto 48 dX9_records_35 (by decide) ?_
    refine J.aload_n 0 dX9_records_48 rfl rfl ?_
    refine I.iconst dX9_records_49 ?_
    refine I.iconst dX9_records_50 ?_
    refine J.iload_n 1 dX9_records_51 rfl rfl ?_
    refine I.add dX9_records_52 ?_
    refine I.callV2w (d' := d - 1) (mi' := mX9_copies) dX9_records_53 lX9_56 eX9_copies rfl rfl (c_X9_copies (d := d - 1) hl (by omega) (by first | omega | assumption) (by first | omega | assumption) (by first | omega | assumption)) (show d - 1 + 1 ≤ d from by omega) (Nat.le_of_ble_eq_true rfl) ?_
    rintro s53 ⟨u53, v53, w53⟩
    exact I.vretQ dX9_records_56 rfl ⟨fun q i x y => (u53 q i x).trans (up_ne (by omega)), by rw [u53 _ _ (by decide), up_ne (Or.inr (by decide))]; omega, by rw [u53 _ _ (by decide), up_eq, if_pos h19, Int.add_comm (s 137 4) 1, Int.add_comm 1 (s 137 4)], fun j x => (v53 j x).trans (up_ne (Or.inl (by decide))), fun j x y => by rw [w53 j x y, up_ne (Or.inl (by decide)), show (232 : Int) * 0 + j = j by omega]⟩
set_option maxHeartbeats 1000000 in
theorem c_X9_burn {Γ : jE} (hl : Γ.1.stackTraces = false) {s : Nat → Int → Int} {ε : jEps} {d : Nat} {c : Int} {b : Int} {a : AS} (hd : 5 ≤ d) (p0 : MI s a) (p1 : AI a) (p2 : -2147483648 ≤ c ∧ c < 2147483648) (p3 : 0 ≤ b ∧ b ≤ 1) : Con Γ (d, 0, 0) mX9_burn [.ref 137, .int (iI c), .int (iI b)] (jmem s ε) (RQ (fun w s' => (((0 ≤ c ∧ c < (aF a) (18 + (aF a) 1)) ∧ ¬ gOver (aF a) ∧ 1 < (aF a) (37 + c) - (aF a) (34 + c) + 1) ∧ gPt (aF a) (2 * c + (1 - b)) = w ∧ MI s' (aSet (aRec a) (gPlay (aF a) (2 * c + (1 - b)))) ∧ s' 137 0 = 0 ∧ LoE s s') ∨ (¬ (0 ≤ c ∧ c < (aF a) (18 + (aF a) 1)) ∧ s' = up s 137 0 1) ∨ (((0 ≤ c ∧ c < (aF a) (18 + (aF a) 1)) ∧ ¬ (¬ gOver (aF a) ∧ 1 < (aF a) (37 + c) - (aF a) (34 + c) + 1)) ∧ s' = up s 137 0 2)) ε) X0 := by
  refine Con.ofJ (by decide +kernel) (by simp [Value.category]) (Nat.le_of_ble_eq_true rfl) ?_ hl
  have mw := MI.w p0 p1
  have hw := mw.w
  have fl := p1.1.1
  have fv := p1.1.2
  have n8 := p1.2.1
  have m3 := p0.2.2.1
  have f5 := p1.1.2.moves
  refine J.aload_n 0 dX9_burn_0 rfl rfl ?_
  refine I.iconst dX9_burn_1 ?_
  refine I.pI 0 rfl dX9_burn_2 jcls fX9_40 rfl (by decide) rfl ?_
  refine J.aload_n 0 dX9_burn_5 rfl rfl ?_
  refine J.iload_n 1 dX9_burn_6 rfl rfl ?_
  refine I.callV1i (d' := d - 1) (mi' := mX9_isChain) dX9_burn_7 lX9_216 eX9_isChain rfl rfl (c_X9_isChain (d := d - 1) hl (by omega) (mw.th) (by first | omega | assumption)) (show d - 1 + 1 ≤ d from by omega) (Nat.le_of_ble_eq_true rfl) ?_
  refine I.if_neB 19 dX9_burn_10 (by decide) (fun h10 => ?_) (fun h10 => ?_)
  · skip
    refine J.aload_n 0 dX9_burn_19 rfl rfl ?_
    refine I.callV0i (d' := d - 1) (mi' := mX9_isOver) dX9_burn_20 lX9_88 eX9_isOver rfl rfl (c_X9_isOver (d := d - 1) hl (by omega) (mw.th)) (show d - 1 + 1 ≤ d from by omega) (Nat.le_of_ble_eq_true rfl) ?_
    refine I.if_neB 34 dX9_burn_23 (by decide) (fun h23 => ?_) (fun h23 => ?_)
    · skip
      refine J.aload_n 0 dX9_burn_34 rfl rfl ?_
      refine I.iconst dX9_burn_35 ?_
      refine I.callV1i (d' := d - 1) (mi' := mX9_fails) dX9_burn_36 lX9_219 eX9_fails rfl rfl (c_X9_fails (d := d - 1) hl (by omega) ) (show d - 1 + 1 ≤ d from by omega) (Nat.le_of_ble_eq_true rfl) ?_
      exact I.iretQ dX9_burn_39 rfl (Or.inr (Or.inr ⟨⟨h10, fun h => by first | exact h.1 (by assumption) | exact absurd h.2 (by assumption)⟩, up_up⟩))
    · skip
      have e := MW.e mw c h10.1 h10.2
      refine J.aload_n 0 dX9_burn_26 rfl rfl ?_
      refine J.iload_n 1 dX9_burn_27 rfl rfl ?_
      refine I.callV1i (d' := d - 1) (mi' := mX9_isBurnable) dX9_burn_28 lX9_81 eX9_isBurnable rfl rfl (c_X9_isBurnable (d := d - 1) hl (by omega) (mw.th) (by first | omega | assumption)) (show d - 1 + 1 ≤ d from by omega) (Nat.le_of_ble_eq_true rfl) ?_
      refine I.if_neB 40 dX9_burn_31 (by decide) (fun h31 => ?_) (fun h31 => ?_)
      · skip
        have lg : gLegal (aF a) (2 * c + (1 - b)) := Or.inr ⟨by omega, by omega, by rw [show (2 * c + (1 - b)) / 2 = c by omega]; omega⟩
        have ly := gPlay_lay fl fv lg
        have pv := gPlay_FS fl fv lg h23
        have pm := pv.moves
        have p5 : gPlay (aF a) (2 * c + (1 - b)) 5 = (aF a) 5 + 1 := gPlay_5
        refine J.aload_n 0 dX9_burn_40 rfl rfl ?_
        refine I.callV0w (d' := d - 1) (mi' := mX9_records) dX9_burn_41 lX9_292 eX9_records rfl rfl (c_X9_records (d := d - 1) hl (by omega) (by rw [up_ne (Or.inr (by decide)), m3.1]; exact n8) (by rw [up_ne (Or.inr (by decide))]; exact ⟨m3.2.1, m3.2.2.1⟩)) (show d - 1 + 1 ≤ d from by omega) (Nat.le_of_ble_eq_true rfl) ?_
        rintro s41 m41
        obtain ⟨mi41, lo41⟩ := (p0.th (z := 0)).rec p1 m41
        have mw41 := mi41.w p1.rec
        have th41 : s41 137 0 = 0 := (m41.1 _ _ (by decide) (by omega)).trans (up_eq _ _ _ _)
        have lu41 : LoE s s41 := fun q i x => (lo41 q i x).trans (up_ne (by omega))
        refine J.aload_n 0 dX9_burn_44 rfl rfl ?_
        refine I.iconst dX9_burn_45 ?_
        refine J.iload_n 1 dX9_burn_46 rfl rfl ?_
        refine I.mul dX9_burn_47 ?_
        refine J.iload_n 2 dX9_burn_48 rfl rfl ?_
        refine I.if_eq 56 dX9_burn_49 (by decide) (by omega) (fun h49 => ?_) (fun h49 => ?_)
        · skip
          refine I.iconst dX9_burn_56 ?_
          refine I.sx (show _ = 1 - b from by omega) ?_
          refine I.add dX9_burn_57 ?_
          refine I.callV1w (d' := d - 1) (mi' := mX9_makes) dX9_burn_58 lX9_144 eX9_makes rfl rfl (c_X9_makes (d := d - 1) hl (by omega) mw41 lg h23) (show d - 1 + 1 ≤ d from by omega) (Nat.le_of_ble_eq_true rfl) ?_
          rintro s58 ⟨v58, w58⟩
          refine J.aload_n 0 dX9_burn_61 rfl rfl ?_
          refine I.sipush dX9_burn_62 (by decide) ?_
          refine J.aload_n 0 dX9_burn_65 rfl rfl ?_
          refine I.iconst dX9_burn_66 ?_
          refine I.callV1i (d' := d - 1) (mi' := mX9_get) dX9_burn_67 lX9_46 eX9_get rfl rfl (c_X9_get (d := d - 1) hl (by omega) v58 (by first | omega | assumption)) (show d - 1 + 1 ≤ d from by omega) (Nat.le_of_ble_eq_true rfl) ?_
          refine I.sx p5 ?_
          refine I.add dX9_burn_70 ?_
          refine I.iconst dX9_burn_71 ?_
          refine I.sub dX9_burn_72 ?_
          refine I.callV1i (d' := d - 1) (mi' := mX9_get) dX9_burn_73 lX9_46 eX9_get rfl rfl (c_X9_get (d := d - 1) hl (by omega) v58 (by first | omega | assumption)) (show d - 1 + 1 ≤ d from by omega) (Nat.le_of_ble_eq_true rfl) ?_
          exact I.iretQ dX9_burn_76 rfl (Or.inl ⟨⟨h10, h23, h31⟩, (gPlay_log0 fl fv lg h23).symm.trans (congrArg _ (by omega)), mi41.set (MV.row v58 (by rw [w58.1 _ _ (by decide)]; exact mi41.1)) (fun q i x y z t => by by_cases e : q = 138; subst e; exact w58.2 i (by rw [mi41.1]; omega); exact w58.1 q i e), (w58.1 _ _ (by decide)).trans th41, fun q i x => (w58.1 q i (by omega)).trans (lu41 q i x)⟩)
        · skip
          refine I.iconst dX9_burn_52 ?_
          refine J.goto 57 dX9_burn_53 (by decide) ?_
          refine I.sx (show _ = 1 - b from by omega) ?_
          refine I.add dX9_burn_57 ?_
          refine I.callV1w (d' := d - 1) (mi' := mX9_makes) dX9_burn_58 lX9_144 eX9_makes rfl rfl (c_X9_makes (d := d - 1) hl (by omega) mw41 lg h23) (show d - 1 + 1 ≤ d from by omega) (Nat.le_of_ble_eq_true rfl) ?_
          rintro s58 ⟨v58, w58⟩
          refine J.aload_n 0 dX9_burn_61 rfl rfl ?_
          refine I.sipush dX9_burn_62 (by decide) ?_
          refine J.aload_n 0 dX9_burn_65 rfl rfl ?_
          refine I.iconst dX9_burn_66 ?_
          refine I.callV1i (d' := d - 1) (mi' := mX9_get) dX9_burn_67 lX9_46 eX9_get rfl rfl (c_X9_get (d := d - 1) hl (by omega) v58 (by first | omega | assumption)) (show d - 1 + 1 ≤ d from by omega) (Nat.le_of_ble_eq_true rfl) ?_
          refine I.sx p5 ?_
          refine I.add dX9_burn_70 ?_
          refine I.iconst dX9_burn_71 ?_
          refine I.sub dX9_burn_72 ?_
          refine I.callV1i (d' := d - 1) (mi' := mX9_get) dX9_burn_73 lX9_46 eX9_get rfl rfl (c_X9_get (d := d - 1) hl (by omega) v58 (by first | omega | assumption)) (show d - 1 + 1 ≤ d from by omega) (Nat.le_of_ble_eq_true rfl) ?_
          exact I.iretQ dX9_burn_76 rfl (Or.inl ⟨⟨h10, h23, h31⟩, (gPlay_log0 fl fv lg h23).symm.trans (congrArg _ (by omega)), mi41.set (MV.row v58 (by rw [w58.1 _ _ (by decide)]; exact mi41.1)) (fun q i x y z t => by by_cases e : q = 138; subst e; exact w58.2 i (by rw [mi41.1]; omega); exact w58.1 q i e), (w58.1 _ _ (by decide)).trans th41, fun q i x => (w58.1 q i (by omega)).trans (lu41 q i x)⟩)
      · skip
        refine J.aload_n 0 dX9_burn_34 rfl rfl ?_
        refine I.iconst dX9_burn_35 ?_
        refine I.callV1i (d' := d - 1) (mi' := mX9_fails) dX9_burn_36 lX9_219 eX9_fails rfl rfl (c_X9_fails (d := d - 1) hl (by omega) ) (show d - 1 + 1 ≤ d from by omega) (Nat.le_of_ble_eq_true rfl) ?_
        exact I.iretQ dX9_burn_39 rfl (Or.inr (Or.inr ⟨⟨h10, fun h => by first | exact h.1 (by assumption) | exact absurd h.2 (by assumption)⟩, up_up⟩))
  · skip
    refine J.aload_n 0 dX9_burn_13 rfl rfl ?_
    refine I.iconst dX9_burn_14 ?_
    refine I.callV1i (d' := d - 1) (mi' := mX9_fails) dX9_burn_15 lX9_219 eX9_fails rfl rfl (c_X9_fails (d := d - 1) hl (by omega) ) (show d - 1 + 1 ≤ d from by omega) (Nat.le_of_ble_eq_true rfl) ?_
    exact I.iretQ dX9_burn_18 rfl (Or.inr (Or.inl ⟨h10, up_up⟩))
set_option maxHeartbeats 1000000 in
theorem c_X9_pass {Γ : jE} (hl : Γ.1.stackTraces = false) {s : Nat → Int → Int} {ε : jEps} {d : Nat} {a : AS} (hd : 5 ≤ d) (p0 : MI s a) (p1 : AI a) : Con Γ (d, 0, 0) mX9_pass [.ref 137] (jmem s ε) (RQ (fun w s' => ((¬ gOver (aF a)) ∧ bI (gOver (gPlay (aF a) 6)) = w ∧ MI s' (aSet (aRec a) (gPlay (aF a) 6)) ∧ s' 137 0 = 0 ∧ LoE s s') ∨ (¬ (¬ gOver (aF a)) ∧ s' = up s 137 0 1)) ε) X0 := by
  refine Con.ofJ (by decide +kernel) (by simp [Value.category]) (Nat.le_of_ble_eq_true rfl) ?_ hl
  have mw := MI.w p0 p1
  have hw := mw.w
  have fl := p1.1.1
  have fv := p1.1.2
  have n8 := p1.2.1
  have m3 := p0.2.2.1
  have f5 := p1.1.2.moves
  refine J.aload_n 0 dX9_pass_0 rfl rfl ?_
  refine I.iconst dX9_pass_1 ?_
  refine I.pI 0 rfl dX9_pass_2 jcls fX9_40 rfl (by decide) rfl ?_
  refine J.aload_n 0 dX9_pass_5 rfl rfl ?_
  refine I.callV0i (d' := d - 1) (mi' := mX9_isOver) dX9_pass_6 lX9_88 eX9_isOver rfl rfl (c_X9_isOver (d := d - 1) hl (by omega) (mw.th)) (show d - 1 + 1 ≤ d from by omega) (Nat.le_of_ble_eq_true rfl) ?_
  refine I.if_eqB 27 dX9_pass_9 (by decide) (fun h9 => ?_) (fun h9 => ?_)
  · skip
    have lg : gLegal (aF a) 6 := Or.inl rfl
    have ly := gPlay_lay fl fv lg
    have pv := gPlay_FS fl fv lg h9
    refine J.aload_n 0 dX9_pass_27 rfl rfl ?_
    refine I.callV0w (d' := d - 1) (mi' := mX9_records) dX9_pass_28 lX9_292 eX9_records rfl rfl (c_X9_records (d := d - 1) hl (by omega) (by rw [up_ne (Or.inr (by decide)), m3.1]; exact n8) (by rw [up_ne (Or.inr (by decide))]; exact ⟨m3.2.1, m3.2.2.1⟩)) (show d - 1 + 1 ≤ d from by omega) (Nat.le_of_ble_eq_true rfl) ?_
    rintro s28 m28
    obtain ⟨mi28, lo28⟩ := (p0.th (z := 0)).rec p1 m28
    have mw28 := mi28.w p1.rec
    have th28 : s28 137 0 = 0 := (m28.1 _ _ (by decide) (by omega)).trans (up_eq _ _ _ _)
    have lu28 : LoE s s28 := fun q i x => (lo28 q i x).trans (up_ne (by omega))
    refine J.aload_n 0 dX9_pass_31 rfl rfl ?_
    refine I.bipush dX9_pass_32 (by decide) ?_
    refine I.callV1w (d' := d - 1) (mi' := mX9_makes) dX9_pass_34 lX9_144 eX9_makes rfl rfl (c_X9_makes (d := d - 1) hl (by omega) mw28 lg h9) (show d - 1 + 1 ≤ d from by omega) (Nat.le_of_ble_eq_true rfl) ?_
    rintro s34 ⟨v34, w34⟩
    refine J.aload_n 0 dX9_pass_37 rfl rfl ?_
    refine I.callV0i (d' := d - 1) (mi' := mX9_isOver) dX9_pass_38 lX9_88 eX9_isOver rfl rfl (c_X9_isOver (d := d - 1) hl (by omega) ⟨v34, fl.lay ly, pv⟩) (show d - 1 + 1 ≤ d from by omega) (Nat.le_of_ble_eq_true rfl) ?_
    exact I.zretQ dX9_pass_41 rfl (by first | exact Or.inl rfl | exact Or.inr rfl | exact bI_01 _ | omega) (Or.inl ⟨h9, rfl, mi28.set (MV.row v34 (by rw [w34.1 _ _ (by decide)]; exact mi28.1)) (fun q i x y z t => by by_cases e : q = 138; subst e; exact w34.2 i (by rw [mi28.1]; omega); exact w34.1 q i e), (w34.1 _ _ (by decide)).trans th28, fun q i x => (w34.1 q i (by omega)).trans (lu28 q i x)⟩)
  · skip
    refine J.aload_n 0 dX9_pass_12 rfl rfl ?_
    refine I.iconst dX9_pass_13 ?_
    refine I.callV1i (d' := d - 1) (mi' := mX9_fails) dX9_pass_14 lX9_219 eX9_fails rfl rfl (c_X9_fails (d := d - 1) hl (by omega) ) (show d - 1 + 1 ≤ d from by omega) (Nat.le_of_ble_eq_true rfl) ?_
    refine I.iconst dX9_pass_17 ?_
    refine I.icmp_ne 25 dX9_pass_18 (by decide) (by omega) (by omega) (fun h18 => ?_) (fun h18 => ?_)
    · skip
      refine I.iconst dX9_pass_25 ?_
      exact I.zretQ dX9_pass_26 rfl (by first | exact Or.inl rfl | exact Or.inr rfl | exact bI_01 _ | omega) (Or.inr ⟨fun h => h h9, up_up⟩)
    · skip
      refine I.iconst dX9_pass_21 ?_
      refine J.goto 26 dX9_pass_22 (by decide) ?_
      exact I.zretQ dX9_pass_26 rfl (by first | exact Or.inl rfl | exact Or.inr rfl | exact bI_01 _ | omega) (Or.inr ⟨fun h => h h9, up_up⟩)
set_option maxHeartbeats 1000000 in
theorem c_X9_playOptimally {Γ : jE} (hl : Γ.1.stackTraces = false) {s : Nat → Int → Int} {ε : jEps} {d : Nat} {n : Int} {a : AS} (hd : 129 ≤ d) (p0 : MI s a) (p1 : AI a) (p2 : -2147483648 ≤ n ∧ n < 2147483648) : Con Γ (d, 0, 0) mX9_playOptimally [.ref 137, .int (iI n)] (jmem s ε) (RQ (fun w s' => ((1 ≤ n ∧ n ≤ 30) ∧ gCnt n.toNat (aF a) = w ∧ MI s' (aSet (aRec a) (gRun n.toNat (aF a))) ∧ s' 137 0 = 0 ∧ LoE s s') ∨ (¬ (1 ≤ n ∧ n ≤ 30) ∧ s' = up s 137 0 1)) ε) X0 := by
  refine Con.ofJ (by decide +kernel) (by simp [Value.category]) (Nat.le_of_ble_eq_true rfl) ?_ hl
  have mw := MI.w p0 p1
  have hw := mw.w
  have fl := p1.1.1
  have fv := p1.1.2
  have n8 := p1.2.1
  have m3 := p0.2.2.1
  have f5 := p1.1.2.moves
  refine J.aload_n 0 dX9_playOptimally_0 rfl rfl ?_
  refine I.iconst dX9_playOptimally_1 ?_
  refine I.pI 0 rfl dX9_playOptimally_2 jcls fX9_40 rfl (by decide) rfl ?_
  refine J.iload_n 1 dX9_playOptimally_5 rfl rfl ?_
  refine I.iconst dX9_playOptimally_6 ?_
  refine I.icmp_lt 16 dX9_playOptimally_7 (by decide) (by omega) (by omega) (fun h7 => ?_) (fun h7 => ?_)
  · skip
    refine J.aload_n 0 dX9_playOptimally_16 rfl rfl ?_
    refine I.iconst dX9_playOptimally_17 ?_
    refine I.callV1i (d' := d - 1) (mi' := mX9_fails) dX9_playOptimally_18 lX9_219 eX9_fails rfl rfl (c_X9_fails (d := d - 1) hl (by omega) ) (show d - 1 + 1 ≤ d from by omega) (Nat.le_of_ble_eq_true rfl) ?_
    exact I.iretQ dX9_playOptimally_21 rfl (Or.inr ⟨by omega, up_up⟩)
  · skip
    refine J.iload_n 1 dX9_playOptimally_10 rfl rfl ?_
    refine I.bipush dX9_playOptimally_11 (by decide) ?_
    refine I.icmp_le 22 dX9_playOptimally_13 (by decide) (by omega) (by omega) (fun h13 => ?_) (fun h13 => ?_)
    · skip
      refine J.aload_n 0 dX9_playOptimally_22 rfl rfl ?_
      refine I.callV0w (d' := d - 1) (mi' := mX9_records) dX9_playOptimally_23 lX9_292 eX9_records rfl rfl (c_X9_records (d := d - 1) hl (by omega) (by rw [up_ne (Or.inr (by decide)), m3.1]; exact n8) (by rw [up_ne (Or.inr (by decide))]; exact ⟨m3.2.1, m3.2.2.1⟩)) (show d - 1 + 1 ≤ d from by omega) (Nat.le_of_ble_eq_true rfl) ?_
      rintro s23 m23
      obtain ⟨mi23, lo23⟩ := (p0.th (z := 0)).rec p1 m23
      have mw23 := mi23.w p1.rec
      have th23 : s23 137 0 = 0 := (m23.1 _ _ (by decide) (by omega)).trans (up_eq _ _ _ _)
      have lu23 : LoE s s23 := fun q i x => (lo23 q i x).trans (up_ne (by omega))
      refine J.aload_n 0 dX9_playOptimally_26 rfl rfl ?_
      refine I.callV0w (d' := d - 1) (mi' := mX9_forgets) dX9_playOptimally_27 lX9_138 eX9_forgets rfl rfl (c_X9_forgets (d := d - 1) hl (by omega) mw23) (show d - 1 + 1 ≤ d from by omega) (Nat.le_of_ble_eq_true rfl) ?_
      rintro s27 ⟨i27, v27⟩
      refine J.aload_n 0 dX9_playOptimally_30 rfl rfl ?_
      refine J.iload_n 1 dX9_playOptimally_31 rfl rfl ?_
      refine I.callV1q (d' := d - 1) (mi' := mX9_goesAlong) dX9_playOptimally_32 lX9_289 eX9_goesAlong rfl rfl (c_X9_goesAlong (d := d - 1) hl (by omega) (v27.m mw23) (VI.none fl fv i27) (by first | omega | assumption)) (show d - 1 + 1 ≤ d from by omega) (Nat.le_of_ble_eq_true rfl) ?_
      rintro _ s32 ⟨rfl, r32, i32, w32⟩
      exact I.iretQ dX9_playOptimally_35 rfl (Or.inl ⟨by omega, rfl, mi23.set (MV.row r32.m (by rw [w32.1 _ _ (by decide) (by decide), v27 _ _ (by decide)]; exact mi23.1)) (fun q i x y z t => by by_cases e : q = 138; subst e; rw [w32.2 i (by rw [v27 _ _ (by decide), mi23.1]; omega), v27 _ _ (by decide)]; rw [w32.1 q i e (by omega), v27 q i (by omega)]), (w32.1 _ _ (by decide) (by decide)).trans ((v27 _ _ (by decide)).trans th23), fun q i x => (w32.1 q i (by omega) (by omega)).trans ((v27 q i (by omega)).trans (lu23 q i x))⟩)
    · skip
      refine J.aload_n 0 dX9_playOptimally_16 rfl rfl ?_
      refine I.iconst dX9_playOptimally_17 ?_
      refine I.callV1i (d' := d - 1) (mi' := mX9_fails) dX9_playOptimally_18 lX9_219 eX9_fails rfl rfl (c_X9_fails (d := d - 1) hl (by omega) ) (show d - 1 + 1 ≤ d from by omega) (Nat.le_of_ble_eq_true rfl) ?_
      exact I.iretQ dX9_playOptimally_21 rfl (Or.inr ⟨by omega, up_up⟩)
set_option maxHeartbeats 1000000 in
theorem c_X9_startNextRound {Γ : jE} (hl : Γ.1.stackTraces = false) {s : Nat → Int → Int} {ε : jEps} {d : Nat} {a : AS} (hd : 5 ≤ d) (p0 : MI s a) (p1 : AI a) : Con Γ (d, 0, 0) mX9_startNextRound [.ref 137] (jmem s ε) (RQ (fun w s' => ((gOver (aF a) ∧ ¬ (aF a) 1 = (aF a) 0 - 1) ∧ (aF a) 1 + 1 = w ∧ MI s' (aSet (aRec a) (gNext (aF a))) ∧ s' 137 0 = 0 ∧ LoE s s') ∨ (¬ (gOver (aF a) ∧ ¬ (aF a) 1 = (aF a) 0 - 1) ∧ s' = up s 137 0 1)) ε) X0 := by
  refine Con.ofJ (by decide +kernel) (by simp [Value.category]) (Nat.le_of_ble_eq_true rfl) ?_ hl
  have mw := MI.w p0 p1
  have hw := mw.w
  have fl := p1.1.1
  have fv := p1.1.2
  have n8 := p1.2.1
  have m3 := p0.2.2.1
  have f5 := p1.1.2.moves
  refine J.aload_n 0 dX9_startNextRound_0 rfl rfl ?_
  refine I.iconst dX9_startNextRound_1 ?_
  refine I.pI 0 rfl dX9_startNextRound_2 jcls fX9_40 rfl (by decide) rfl ?_
  refine J.aload_n 0 dX9_startNextRound_5 rfl rfl ?_
  refine I.callV0i (d' := d - 1) (mi' := mX9_isOver) dX9_startNextRound_6 lX9_88 eX9_isOver rfl rfl (c_X9_isOver (d := d - 1) hl (by omega) (mw.th)) (show d - 1 + 1 ≤ d from by omega) (Nat.le_of_ble_eq_true rfl) ?_
  refine I.if_eqB 19 dX9_startNextRound_9 (by decide) (fun h9 => ?_) (fun h9 => ?_)
  · skip
    refine J.aload_n 0 dX9_startNextRound_19 rfl rfl ?_
    refine I.iconst dX9_startNextRound_20 ?_
    refine I.callV1i (d' := d - 1) (mi' := mX9_fails) dX9_startNextRound_21 lX9_219 eX9_fails rfl rfl (c_X9_fails (d := d - 1) hl (by omega) ) (show d - 1 + 1 ≤ d from by omega) (Nat.le_of_ble_eq_true rfl) ?_
    exact I.iretQ dX9_startNextRound_24 rfl (Or.inr ⟨fun h => by first | exact absurd h.1 (by assumption) | exact h.2 (by assumption), up_up⟩)
  · skip
    refine J.aload_n 0 dX9_startNextRound_12 rfl rfl ?_
    refine I.callV0i (d' := d - 1) (mi' := mX9_isLast) dX9_startNextRound_13 lX9_210 eX9_isLast rfl rfl (c_X9_isLast (d := d - 1) hl (by omega) (mw.th)) (show d - 1 + 1 ≤ d from by omega) (Nat.le_of_ble_eq_true rfl) ?_
    refine I.if_eqB 25 dX9_startNextRound_16 (by decide) (fun h16 => ?_) (fun h16 => ?_)
    · skip
      refine J.aload_n 0 dX9_startNextRound_25 rfl rfl ?_
      refine I.callV0w (d' := d - 1) (mi' := mX9_records) dX9_startNextRound_26 lX9_292 eX9_records rfl rfl (c_X9_records (d := d - 1) hl (by omega) (by rw [up_ne (Or.inr (by decide)), m3.1]; exact n8) (by rw [up_ne (Or.inr (by decide))]; exact ⟨m3.2.1, m3.2.2.1⟩)) (show d - 1 + 1 ≤ d from by omega) (Nat.le_of_ble_eq_true rfl) ?_
      rintro s26 m26
      obtain ⟨mi26, lo26⟩ := (p0.th (z := 0)).rec p1 m26
      have mw26 := mi26.w p1.rec
      have th26 : s26 137 0 = 0 := (m26.1 _ _ (by decide) (by omega)).trans (up_eq _ _ _ _)
      have lu26 : LoE s s26 := fun q i x => (lo26 q i x).trans (up_ne (by omega))
      refine J.aload_n 0 dX9_startNextRound_29 rfl rfl ?_
      refine I.callV0w (d' := d - 1) (mi' := mX9_goesOn) dX9_startNextRound_30 lX9_213 eX9_goesOn rfl rfl (c_X9_goesOn (d := d - 1) hl (by omega) mw26 (by show aF a 1 + 1 < aF a 0; omega)) (show d - 1 + 1 ≤ d from by omega) (Nat.le_of_ble_eq_true rfl) ?_
      rintro s30 ⟨v30, w30⟩
      refine J.aload_n 0 dX9_startNextRound_33 rfl rfl ?_
      refine I.iconst dX9_startNextRound_34 ?_
      refine I.callV1i (d' := d - 1) (mi' := mX9_get) dX9_startNextRound_35 lX9_46 eX9_get rfl rfl (c_X9_get (d := d - 1) hl (by omega) v30 (by first | omega | assumption)) (show d - 1 + 1 ≤ d from by omega) (Nat.le_of_ble_eq_true rfl) ?_
      refine I.sx (gDeal_1 : gNext (aF a) 1 = _) ?_
      exact I.iretQ dX9_startNextRound_38 rfl (Or.inl ⟨⟨by assumption, by assumption⟩, rfl, mi26.set (MV.row v30 (by rw [w30.1 _ _ (by decide)]; exact mi26.1)) (fun q i x y z t => by by_cases e : q = 138; subst e; exact w30.2 i (by rw [mi26.1]; omega); exact w30.1 q i e), (w30.1 _ _ (by decide)).trans th26, fun q i x => (w30.1 q i (by omega)).trans (lu26 q i x)⟩)
    · skip
      refine J.aload_n 0 dX9_startNextRound_19 rfl rfl ?_
      refine I.iconst dX9_startNextRound_20 ?_
      refine I.callV1i (d' := d - 1) (mi' := mX9_fails) dX9_startNextRound_21 lX9_219 eX9_fails rfl rfl (c_X9_fails (d := d - 1) hl (by omega) ) (show d - 1 + 1 ≤ d from by omega) (Nat.le_of_ble_eq_true rfl) ?_
      exact I.iretQ dX9_startNextRound_24 rfl (Or.inr ⟨fun h => by first | exact absurd h.1 (by assumption) | exact h.2 (by assumption), up_up⟩)
set_option maxHeartbeats 1000000 in
theorem c_X9_undo {Γ : jE} (hl : Γ.1.stackTraces = false) {s : Nat → Int → Int} {ε : jEps} {d : Nat} {a : AS} (hd : 1 ≤ d) (p0 : MI s a) (p1 : AI a) : Con Γ (d, 0, 0) mX9_undo [.ref 137] (jmem s ε) (RQ (fun w s' => ((0 < aN a) ∧ aN a - 1 = w ∧ MI s' (aUndo a) ∧ s' 137 0 = 0 ∧ LoE s s') ∨ (¬ (0 < aN a) ∧ s' = up s 137 0 1)) ε) X0 := by
  refine Con.ofJ (by decide +kernel) (by simp [Value.category]) (Nat.le_of_ble_eq_true rfl) ?_ hl
  have mw := MI.w p0 p1
  have hw := mw.w
  have fl := p1.1.1
  have fv := p1.1.2
  have n8 := p1.2.1
  have m3 := p0.2.2.1
  have f5 := p1.1.2.moves
  refine J.aload_n 0 dX9_undo_0 rfl rfl ?_
  refine I.iconst dX9_undo_1 ?_
  refine I.pI 0 rfl dX9_undo_2 jcls fX9_40 rfl (by decide) rfl ?_
  refine J.aload_n 0 dX9_undo_5 rfl rfl ?_
  refine I.gI 3 rfl dX9_undo_6 jcls fX9_53 rfl (by decide) rfl ?_
  refine I.sx ((up_ne (Or.inr (by decide))).trans m3.1) ?_
  refine I.if_ne 18 dX9_undo_9 (by decide) (by omega) (fun h9 => ?_) (fun h9 => ?_)
  · skip
    refine J.aload_n 0 dX9_undo_18 rfl rfl ?_
    refine J.dupR dX9_undo_19 ?_
    refine I.gI 3 rfl dX9_undo_20 jcls fX9_53 rfl (by decide) rfl ?_
    refine I.sx ((up_ne (Or.inr (by decide))).trans m3.1) ?_
    refine I.iconst dX9_undo_23 ?_
    refine I.sub dX9_undo_24 ?_
    refine I.pI 3 rfl dX9_undo_25 jcls fX9_53 rfl (by decide) rfl ?_
    refine J.aload_n 0 dX9_undo_28 rfl rfl ?_
    refine I.iconst dX9_undo_29 ?_
    refine J.aload_n 0 dX9_undo_30 rfl rfl ?_
    refine I.gI 4 rfl dX9_undo_31 jcls fX9_50 rfl (by decide) rfl ?_
    refine I.sx (show _ = s 137 4 from (up_ne (Or.inr (by decide))).trans (up_ne (Or.inr (by decide)))) ?_
    refine J.aload_n 0 dX9_undo_34 rfl rfl ?_
    refine I.gI 3 rfl dX9_undo_35 jcls fX9_53 rfl (by decide) rfl ?_
    refine I.sx (show up (up s 137 0 0) 137 3 (aN a - 1) 137 3 = aN a - 1 from up_eq _ _ _ _) ?_
    refine I.add dX9_undo_38 ?_
    refine I.bipush dX9_undo_39 (by decide) ?_
    refine I.rem dX9_undo_41 (by omega) (by omega) ?_
    refine I.add dX9_undo_42 ?_
    refine I.iconst dX9_undo_43 ?_
    refine I.callV2w (d' := d - 1) (mi' := mX9_copies) dX9_undo_44 lX9_56 eX9_copies rfl rfl (c_X9_copies (d := d - 1) hl (by omega) (by first | omega | assumption) (by first | omega | assumption) (by first | omega | assumption)) (show d - 1 + 1 ≤ d from by omega) (Nat.le_of_ble_eq_true rfl) ?_
    rintro s44 ⟨u44, v44, w44⟩
    refine J.aload_n 0 dX9_undo_47 rfl rfl ?_
    refine I.gI 3 rfl dX9_undo_48 jcls fX9_53 rfl (by decide) rfl ?_
    refine I.sx ((u44 _ _ (by decide)).trans (up_eq _ _ _ _)) ?_
    exact I.iretQ dX9_undo_51 rfl (Or.inl ⟨by omega, rfl, (p0.undo p1 (by omega) (fun q j x y => by rw [u44 q j x, up_ne (by omega), up_ne (by omega)]) (by rw [u44 _ _ (by decide), up_eq, m3.1]) (fun j x => by rw [v44 j (by omega), up_ne (Or.inl (by decide)), up_ne (Or.inl (by decide))]) (fun j x y => by have e := w44 j x y; rw [show (232 : Int) * 0 + j = j by omega] at e; rw [e, up_ne (Or.inl (by decide)), up_ne (Or.inl (by decide)), m3.1])).1, by rw [u44 _ _ (by decide), up_ne (Or.inr (by decide)), up_eq], fun q i x => by rw [u44 q i (by omega), up_ne (by omega), up_ne (by omega)]⟩)
  · skip
    refine J.aload_n 0 dX9_undo_12 rfl rfl ?_
    refine I.iconst dX9_undo_13 ?_
    refine I.callV1i (d' := d - 1) (mi' := mX9_fails) dX9_undo_14 lX9_219 eX9_fails rfl rfl (c_X9_fails (d := d - 1) hl (by omega) ) (show d - 1 + 1 ≤ d from by omega) (Nat.le_of_ble_eq_true rfl) ?_
    exact I.iretQ dX9_undo_17 rfl (Or.inr ⟨by omega, up_up⟩)
set_option maxHeartbeats 1000000 in
theorem c_X9_save {Γ : jE} (hl : Γ.1.stackTraces = false) {s : Nat → Int → Int} {ε : jEps} {d : Nat} {a : AS} (hd : 1 ≤ d) (p0 : MI s a) (p1 : AI a) : Con Γ (d, 0, 0) mX9_save [.ref 137] (jmem s ε) (RQ (fun w s' => (aF a) 5 = w ∧ MI s' (aSave a) ∧ s' 137 0 = 0 ∧ LoE s s') ε) X0 := by
  refine Con.ofJ (by decide +kernel) (by simp [Value.category]) (Nat.le_of_ble_eq_true rfl) ?_ hl
  have mw := MI.w p0 p1
  have hw := mw.w
  have fl := p1.1.1
  have fv := p1.1.2
  have n8 := p1.2.1
  have m3 := p0.2.2.1
  have f5 := p1.1.2.moves
  refine J.aload_n 0 dX9_save_0 rfl rfl ?_
  refine I.iconst dX9_save_1 ?_
  refine I.pI 0 rfl dX9_save_2 jcls fX9_40 rfl (by decide) rfl ?_
  refine J.aload_n 0 dX9_save_5 rfl rfl ?_
  refine I.iconst dX9_save_6 ?_
  refine I.bipush dX9_save_7 (by decide) ?_
  refine I.callV2w (d' := d - 1) (mi' := mX9_copies) dX9_save_9 lX9_56 eX9_copies rfl rfl (c_X9_copies (d := d - 1) hl (by omega) (by first | omega | assumption) (by first | omega | assumption) (by first | omega | assumption)) (show d - 1 + 1 ≤ d from by omega) (Nat.le_of_ble_eq_true rfl) ?_
  rintro s9 ⟨u9, v9, w9⟩
  refine J.aload_n 0 dX9_save_12 rfl rfl ?_
  refine I.iconst dX9_save_13 ?_
  refine I.pZ 5 rfl dX9_save_14 jcls fX9_231 rfl (by decide) rfl (by first | exact Or.inl rfl | exact Or.inr rfl | exact bI_01 _ | omega) ?_
  have ms := p0.save (s' := up s9 137 5 1) (fun q j x y => by rw [up_ne (by omega), u9 q j x, up_ne (by omega)]) (up_eq _ _ _ _) (fun j x => by rw [up_ne (Or.inl (by decide)), v9 j (by omega), up_ne (Or.inl (by decide))]) (fun j x y => by have e := w9 j x y; rw [show (232 : Int) * 9 + j = 2088 + j by omega, show (232 : Int) * 0 + j = j by omega] at e; rw [up_ne (Or.inl (by decide)), e, up_ne (Or.inl (by decide))])
  refine J.aload_n 0 dX9_save_17 rfl rfl ?_
  refine I.iconst dX9_save_18 ?_
  refine I.callV1i (d' := d - 1) (mi' := mX9_get) dX9_save_19 lX9_46 eX9_get rfl rfl (c_X9_get (d := d - 1) hl (f := aF a) (by omega) (ms.1.w p1.save).m (by first | omega | assumption)) (show d - 1 + 1 ≤ d from by omega) (Nat.le_of_ble_eq_true rfl) ?_
  exact I.iretQ dX9_save_22 rfl ⟨rfl, ms.1, by rw [up_ne (Or.inr (by decide)), u9 _ _ (by decide), up_eq], ms.2⟩
set_option maxHeartbeats 1000000 in
theorem c_X9_restore {Γ : jE} (hl : Γ.1.stackTraces = false) {s : Nat → Int → Int} {ε : jEps} {d : Nat} {a : AS} (hd : 2 ≤ d) (p0 : MI s a) (p1 : AI a) : Con Γ (d, 0, 0) mX9_restore [.ref 137] (jmem s ε) (RQ (fun w s' => ((aB a = 1) ∧ aG a 5 = w ∧ MI s' (aSet (aRec a) (aG a)) ∧ s' 137 0 = 0 ∧ LoE s s') ∨ (¬ (aB a = 1) ∧ s' = up s 137 0 1)) ε) X0 := by
  refine Con.ofJ (by decide +kernel) (by simp [Value.category]) (Nat.le_of_ble_eq_true rfl) ?_ hl
  have mw := MI.w p0 p1
  have hw := mw.w
  have fl := p1.1.1
  have fv := p1.1.2
  have n8 := p1.2.1
  have m3 := p0.2.2.1
  have f5 := p1.1.2.moves
  have b01 := p1.2.2.2.1
  refine J.aload_n 0 dX9_restore_0 rfl rfl ?_
  refine I.iconst dX9_restore_1 ?_
  refine I.pI 0 rfl dX9_restore_2 jcls fX9_40 rfl (by decide) rfl ?_
  refine J.aload_n 0 dX9_restore_5 rfl rfl ?_
  refine I.gI 5 rfl dX9_restore_6 jcls fX9_231 rfl (by decide) rfl ?_
  refine I.sx ((up_ne (Or.inr (by decide))).trans p0.2.2.2.1.1) ?_
  refine I.if_ne 18 dX9_restore_9 (by decide) (by omega) (fun h9 => ?_) (fun h9 => ?_)
  · skip
    have bb : aB a = 1 := by omega
    obtain ⟨gl, gv⟩ := p1.2.2.2.2.1 bb
    refine J.aload_n 0 dX9_restore_18 rfl rfl ?_
    refine I.callV0w (d' := d - 1) (mi' := mX9_records) dX9_restore_19 lX9_292 eX9_records rfl rfl (c_X9_records (d := d - 1) hl (by omega) (by rw [up_ne (Or.inr (by decide)), m3.1]; exact n8) (by rw [up_ne (Or.inr (by decide))]; exact ⟨m3.2.1, m3.2.2.1⟩)) (show d - 1 + 1 ≤ d from by omega) (Nat.le_of_ble_eq_true rfl) ?_
    rintro s19 m19
    obtain ⟨mi19, lo19⟩ := (p0.th (z := 0)).rec p1 m19
    have mw19 := mi19.w p1.rec
    have th19 : s19 137 0 = 0 := (m19.1 _ _ (by decide) (by omega)).trans (up_eq _ _ _ _)
    have lu19 : LoE s s19 := fun q i x => (lo19 q i x).trans (up_ne (by omega))
    refine J.aload_n 0 dX9_restore_22 rfl rfl ?_
    refine I.bipush dX9_restore_23 (by decide) ?_
    refine I.iconst dX9_restore_25 ?_
    refine I.callV2w (d' := d - 1) (mi' := mX9_copies) dX9_restore_26 lX9_56 eX9_copies rfl rfl (c_X9_copies (d := d - 1) hl (by omega) (by first | omega | assumption) (by first | omega | assumption) (by first | omega | assumption)) (show d - 1 + 1 ≤ d from by omega) (Nat.le_of_ble_eq_true rfl) ?_
    rintro s26 ⟨u26, v26, w26⟩
    have ro : ∀ k, 0 ≤ k → k < 232 → s26 138 k = aG a k := fun k x y => by have e := w26 k x y; rw [show (232 : Int) * 0 + k = k by omega, show (232 : Int) * 9 + k = 2088 + k by omega] at e; rw [e]; exact mi19.2.2.2.1.2 bb k x y
    have ms : MI s26 (aSet (aRec a) (aG a)) := mi19.set ro (fun q i x y z t => by by_cases e : q = 138; subst e; exact v26 i (by omega); exact u26 q i e)
    refine J.aload_n 0 dX9_restore_29 rfl rfl ?_
    refine I.iconst dX9_restore_30 ?_
    refine I.callV1i (d' := d - 1) (mi' := mX9_get) dX9_restore_31 lX9_46 eX9_get rfl rfl (c_X9_get (d := d - 1) hl (f := aG a) (by omega) (ms.w (p1.rec.set gl gv)).m (by first | omega | assumption)) (show d - 1 + 1 ≤ d from by omega) (Nat.le_of_ble_eq_true rfl) ?_
    exact I.iretQ dX9_restore_34 rfl (Or.inl ⟨bb, rfl, ms, (u26 _ _ (by decide)).trans th19, fun q i x => (u26 q i (by omega)).trans (lu19 q i x)⟩)
  · skip
    refine J.aload_n 0 dX9_restore_12 rfl rfl ?_
    refine I.iconst dX9_restore_13 ?_
    refine I.callV1i (d' := d - 1) (mi' := mX9_fails) dX9_restore_14 lX9_219 eX9_fails rfl rfl (c_X9_fails (d := d - 1) hl (by omega) ) (show d - 1 + 1 ≤ d from by omega) (Nat.le_of_ble_eq_true rfl) ?_
    exact I.iretQ dX9_restore_17 rfl (Or.inr ⟨by omega, up_up⟩)
