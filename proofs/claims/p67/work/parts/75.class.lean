set_option maxHeartbeats 4000000 in
set_option maxRecDepth 100000 in
theorem c_X8_init {Γ : jE} (hl : Γ.1.stackTraces = false) {d : Nat} (hd : 7 ≤ d) (h0 : CT 1 [] (fun _ _ => 0)) : Con Γ (d, 136, 143601) mX8_init [.ref 0] (jmT 1 [] (fun _ _ => 0)) (fun v M' => v = none ∧ ∃ s', M' = jmT 137 lA s' ∧ CT 137 lA s' ∧ CI s' iA0) X0 := by
  refine Con.ofJ (by decide +kernel) (by simp [Value.category]) (Nat.le_of_ble_eq_true rfl) ?_ hl
  refine J.aload_n 0 dX8_init_0 rfl rfl ?_
  refine J.objInit dX8_init_1 lX8_3 oi_1 oi_2 (Nat.le_of_ble_eq_true rfl) ?_
  refine J.aload_n 0 dX8_init_4 rfl rfl ?_
  refine I.sipush dX8_init_5 (by decide) ?_
  refine K.newI h0 (N' := 2) rfl 500 dX8_init_8 rfl rfl (by decide) (by decide) (show 1 ≤ 136 ∧ 500 ≤ 143601 from by decide) fun h1 => ?_
  refine K.putR h1 dX8_init_10 fX8_9 rfl (by decide) (by decide) rfl rfl rfl (fun _ => ⟨rfl, rfl⟩) (by decide) fun h2 => ?_
  refine J.aload_n 0 dX8_init_13 rfl rfl ?_
  refine I.iconst dX8_init_14 ?_
  refine K.pI h2 dX8_init_15 fX8_13 rfl (by decide) (by decide) rfl 2 rfl fun h3 => ?_
  refine J.aload_n 0 dX8_init_18 rfl rfl ?_
  refine I.iconst dX8_init_19 ?_
  refine K.pI h3 dX8_init_20 fX8_17 rfl (by decide) (by decide) rfl 3 rfl fun h4 => ?_
  refine J.aload_n 0 dX8_init_23 rfl rfl ?_
  refine K.new h4 (N' := 3) rfl dX8_init_24 (ci := 3) (n := 6) rfl kX8_20 iX3 iniX3 rfl (by decide) (show 1 ≤ 136 - 1 ∧ 6 ≤ 143601 - 500 from by decide) fun h5 => ?_
  refine J.dupR dX8_init_27 ?_
  refine K.initN (mi' := mX3_init) (b' := (d - 1, 18, 981)) dX8_init_28 nX8_22 eX3_init (show d - 1 + 1 ≤ d ∧ 18 ≤ 136 - 1 - 1 ∧ 981 ≤ 143601 - 500 - 6 from ⟨by omega, by decide, by decide⟩) (c_X3_init (d := d - 1) hl (by omega) h5) (Nat.le_of_ble_eq_true rfl) fun h6 => ?_
  refine K.putR h6 dX8_init_31 fX8_23 rfl (by decide) (by decide) rfl rfl rfl (fun _ => ⟨rfl, rfl⟩) (by decide) fun h7 => ?_
  refine J.aload_n 0 dX8_init_34 rfl rfl ?_
  refine K.new h7 (N' := 22) rfl dX8_init_35 (ci := 2) (n := 2) rfl kX8_27 iX2 iniX2 rfl (by decide) (show 1 ≤ 136 - 1 - 1 - 18 ∧ 2 ≤ 143601 - 500 - 6 - 981 from by decide) fun h8 => ?_
  refine J.dupR dX8_init_38 ?_
  refine K.initN (mi' := mX2_init) (b' := (d - 1, 14, 425)) dX8_init_39 nX8_29 eX2_init (show d - 1 + 1 ≤ d ∧ 14 ≤ 136 - 1 - 1 - 18 - 1 ∧ 425 ≤ 143601 - 500 - 6 - 981 - 2 from ⟨by omega, by decide, by decide⟩) (c_X2_init (d := d - 1) hl (q := 21) (N := 22) (by omega) (by decide) (by decide) rfl rfl rfl rfl rfl rfl rfl rfl rfl rfl rfl rfl rfl rfl rfl h8) (Nat.le_of_ble_eq_true rfl) fun h9 => ?_
  refine K.putR h9 dX8_init_42 fX8_30 rfl (by decide) (by decide) rfl rfl rfl (fun _ => ⟨rfl, rfl⟩) (by decide) fun h10 => ?_
  refine J.aload_n 0 dX8_init_45 rfl rfl ?_
  refine K.new h10 (N' := 37) rfl dX8_init_46 (ci := 2) (n := 2) rfl kX8_27 iX2 iniX2 rfl (by decide) (show 1 ≤ 136 - 1 - 1 - 18 - 1 - 14 ∧ 2 ≤ 143601 - 500 - 6 - 981 - 2 - 425 from by decide) fun h11 => ?_
  refine J.dupR dX8_init_49 ?_
  refine K.initN (mi' := mX2_init) (b' := (d - 1, 14, 425)) dX8_init_50 nX8_29 eX2_init (show d - 1 + 1 ≤ d ∧ 14 ≤ 136 - 1 - 1 - 18 - 1 - 14 - 1 ∧ 425 ≤ 143601 - 500 - 6 - 981 - 2 - 425 - 2 from ⟨by omega, by decide, by decide⟩) (c_X2_init (d := d - 1) hl (q := 36) (N := 37) (by omega) (by decide) (by decide) rfl rfl rfl rfl rfl rfl rfl rfl rfl rfl rfl rfl rfl rfl rfl h11) (Nat.le_of_ble_eq_true rfl) fun h12 => ?_
  refine K.putR h12 dX8_init_53 fX8_34 rfl (by decide) (by decide) rfl rfl rfl (fun _ => ⟨rfl, rfl⟩) (by decide) fun h13 => ?_
  refine J.aload_n 0 dX8_init_56 rfl rfl ?_
  refine K.new h13 (N' := 52) rfl dX8_init_57 (ci := 5) (n := 13) rfl kX8_37 iX5 iniX5 rfl (by decide) (show 1 ≤ 136 - 1 - 1 - 18 - 1 - 14 - 1 - 14 ∧ 13 ≤ 143601 - 500 - 6 - 981 - 2 - 425 - 2 - 425 from by decide) fun h14 => ?_
  refine J.dupR dX8_init_60 ?_
  refine K.initE (mi' := mX5_init) (b' := (d - 1, 9, 140073)) dX8_init_61 lX8_39 eX5_init (show d - 1 + 1 ≤ d ∧ 9 ≤ 136 - 1 - 1 - 18 - 1 - 14 - 1 - 14 - 1 ∧ 140073 ≤ 143601 - 500 - 6 - 981 - 2 - 425 - 2 - 425 - 13 from ⟨by omega, by decide, by decide⟩) (c_X5_init (d := d - 1) hl (by omega) h14) (Nat.le_of_ble_eq_true rfl) fun s5 h15 => ?_
  obtain ⟨h15, h15r⟩ := h15
  refine K.putR h15 dX8_init_64 fX8_40 rfl (by decide) (by decide) rfl rfl rfl (fun _ => ⟨rfl, rfl⟩) (by decide) fun h16 => ?_
  refine J.aload_n 0 dX8_init_67 rfl rfl ?_
  refine K.new h16 (N' := 62) rfl dX8_init_68 (ci := 0) (n := 3) rfl kX8_44 iX0 iniX0 rfl (by decide) (show 1 ≤ 136 - 1 - 1 - 18 - 1 - 14 - 1 - 14 - 1 - 9 ∧ 3 ≤ 143601 - 500 - 6 - 981 - 2 - 425 - 2 - 425 - 13 - 140073 from by decide) fun h17 => ?_
  refine J.dupR dX8_init_71 ?_
  refine K.init (mi' := mX0_init) (b' := (d - 1, 65, 928)) dX8_init_72 lX8_46 eX0_init (show d - 1 + 1 ≤ d ∧ 65 ≤ 136 - 1 - 1 - 18 - 1 - 14 - 1 - 14 - 1 - 9 - 1 ∧ 928 ≤ 143601 - 500 - 6 - 981 - 2 - 425 - 2 - 425 - 13 - 140073 - 3 from ⟨by omega, by decide, by decide⟩) (c_X0_init (d := d - 1) hl (by omega) h17) (Nat.le_of_ble_eq_true rfl) fun h18 => ?_
  refine K.putR h18 dX8_init_75 fX8_47 rfl (by decide) (by decide) rfl rfl rfl (fun _ => ⟨rfl, rfl⟩) (by decide) fun h19 => ?_
  refine J.aload_n 0 dX8_init_78 rfl rfl ?_
  refine K.new h19 (N' := 128) rfl dX8_init_79 (ci := 6) (n := 13) rfl kX8_51 iX6 iniX6 rfl (by decide) (show 1 ≤ 136 - 1 - 1 - 18 - 1 - 14 - 1 - 14 - 1 - 9 - 1 - 65 ∧ 13 ≤ 143601 - 500 - 6 - 981 - 2 - 425 - 2 - 425 - 13 - 140073 - 3 - 928 from by decide) fun h20 => ?_
  refine J.dupR dX8_init_82 ?_
  refine K.initN (mi' := mX6_init) (b' := (d - 1, 7, 102)) dX8_init_83 nX8_53 eX6_init (show d - 1 + 1 ≤ d ∧ 7 ≤ 136 - 1 - 1 - 18 - 1 - 14 - 1 - 14 - 1 - 9 - 1 - 65 - 1 ∧ 102 ≤ 143601 - 500 - 6 - 981 - 2 - 425 - 2 - 425 - 13 - 140073 - 3 - 928 - 13 from ⟨by omega, by decide, by decide⟩) (c_X6_init (d := d - 1) hl (q := 127) (N := 128) (by omega) (by decide) (by decide) rfl rfl rfl rfl rfl rfl rfl rfl h20) (Nat.le_of_ble_eq_true rfl) fun h21 => ?_
  refine K.putR h21 dX8_init_86 fX8_54 rfl (by decide) (by decide) rfl rfl rfl (fun _ => ⟨rfl, rfl⟩) (by decide) fun h22 => ?_
  refine J.aload_n 0 dX8_init_89 rfl rfl ?_
  refine K.new h22 (N' := 136) rfl dX8_init_90 (ci := 7) (n := 2) rfl kX8_58 iX7 iniX7 rfl (by decide) (show 1 ≤ 136 - 1 - 1 - 18 - 1 - 14 - 1 - 14 - 1 - 9 - 1 - 65 - 1 - 7 ∧ 2 ≤ 143601 - 500 - 6 - 981 - 2 - 425 - 2 - 425 - 13 - 140073 - 3 - 928 - 13 - 102 from by decide) fun h23 => ?_
  refine J.dupR dX8_init_93 ?_
  refine K.initN (mi' := mX7_init) (b' := (d - 1, 1, 126)) dX8_init_94 nX8_60 eX7_init (show d - 1 + 1 ≤ d ∧ 1 ≤ 136 - 1 - 1 - 18 - 1 - 14 - 1 - 14 - 1 - 9 - 1 - 65 - 1 - 7 - 1 ∧ 126 ≤ 143601 - 500 - 6 - 981 - 2 - 425 - 2 - 425 - 13 - 140073 - 3 - 928 - 13 - 102 - 2 from ⟨by omega, by decide, by decide⟩) (c_X7_init (d := d - 1) hl (by omega) h23) (Nat.le_of_ble_eq_true rfl) fun h24 => ?_
  refine K.putR h24 dX8_init_97 fX8_61 rfl (by decide) (by decide) rfl rfl rfl (fun _ => ⟨rfl, rfl⟩) (by decide) fun h25 => ?_
  refine J.mono (t_X8_initA (s := s5) (ε := (fun _ _ => 0, fun _ _ => 0)) hl (by omega) ⟨h15r.1, h15r.2.1⟩ ⟨⟨(h15r.2.2 51 11 (by decide) (by decide) (by decide)).trans rfl, (h15r.2.2 51 12 (by decide) (by decide) (by decide)).trans rfl⟩, ⟨(h15r.2.2 61 1 (by decide) (by decide) (by decide)).trans rfl, (h15r.2.2 61 2 (by decide) (by decide) (by decide)).trans rfl⟩, (h15r.2.2 0 10 (by decide) (by decide) (by decide)).trans rfl, (h15r.2.2 135 1 (by decide) (by decide) (by decide)).trans rfl, (h15r.2.2 0 1 (by decide) (by decide) (by decide)).trans rfl, (h15r.2.2 0 2 (by decide) (by decide) (by decide)).trans ((up_ne (by omega)).trans (up_eq _ _ _ _)), (h15r.2.2 0 3 (by decide) (by decide) (by decide)).trans (up_eq _ _ _ _)⟩) (fun v M' h => ?_) (fun _ _ h => h) ⟨show d ≤ d from Nat.le_refl d, Nat.zero_le _, Nat.zero_le _⟩
  obtain ⟨s', rfl, rfl, t, f⟩ := h
  exact ⟨rfl, s', rfl, ⟨h25.1, h25.2.1, fun q i hq => (f q i (by omega)).trans (h25.2.2 q i hq)⟩, t⟩
