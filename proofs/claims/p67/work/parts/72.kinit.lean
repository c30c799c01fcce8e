set_option maxHeartbeats 1000000 in
theorem c_X6_init {Γ : jE} (hl : Γ.1.stackTraces = false) {d : Nat} {l : List (Nat × Nat × Nat)} {s : Nat → Int → Int} {q N : Nat} (hd : 0 ≤ d) (hN : N + 7 ≤ 137) (hq : q < N) (gq : jsh[q]? = some (6, 13)) (g0 : jsh[N]? = some (100, 3)) (g1 : jsh[(N + 1)]? = some (100, 3)) (g2 : jsh[(N + 2)]? = some (100, 8)) (g3 : jsh[(N + 3)]? = some (100, 2)) (g4 : jsh[(N + 4)]? = some (100, 2)) (g5 : jsh[(N + 5)]? = some (100, 42)) (g6 : jsh[(N + 6)]? = some (100, 42)) (h0 : CT N l s) : Con Γ (d, 7, 102) mX6_init [.ref q] (jmT N l s) (fun v M' => v = none ∧ M' = jmT (N + 7) ((q, 12, (N + 6)) :: (q, 11, (N + 5)) :: (q, 10, (N + 4)) :: (q, 9, (N + 3)) :: (q, 8, (N + 2)) :: (q, 7, (N + 1)) :: (q, 6, N) :: l) s ∧ CT (N + 7) ((q, 12, (N + 6)) :: (q, 11, (N + 5)) :: (q, 10, (N + 4)) :: (q, 9, (N + 3)) :: (q, 8, (N + 2)) :: (q, 7, (N + 1)) :: (q, 6, N) :: l) s) X0 := by
  refine Con.ofJ (by decide +kernel) (by simp [Value.category]) (Nat.le_of_ble_eq_true rfl) ?_ hl
  refine J.aload_n 0 dX6_init_0 rfl rfl ?_
  refine J.objInit dX6_init_1 lX6_3 oi_1 oi_2 (Nat.le_of_ble_eq_true rfl) ?_
  refine J.aload_n 0 dX6_init_4 rfl rfl ?_
  refine I.iconst dX6_init_5 ?_
  refine K.newI h0 (N' := (N + 1)) rfl 3 dX6_init_6 g0 rfl (by decide) (by omega) (show 1 ≤ 7 ∧ 3 ≤ 102 from by decide) fun h1 => ?_
  refine K.putR h1 dX6_init_8 fX6_9 gq (by omega) (by decide) rfl rfl rfl (fun _ => ⟨rfl, rfl⟩) (by omega) fun h2 => ?_
  refine J.aload_n 0 dX6_init_11 rfl rfl ?_
  refine I.iconst dX6_init_12 ?_
  refine K.newI h2 (N' := (N + 2)) rfl 3 dX6_init_13 g1 rfl (by decide) (by omega) (show 1 ≤ 7 - 1 ∧ 3 ≤ 102 - 3 from by decide) fun h3 => ?_
  refine K.putR h3 dX6_init_15 fX6_15 gq (by omega) (by decide) rfl rfl rfl (fun _ => ⟨rfl, rfl⟩) (by omega) fun h4 => ?_
  refine J.aload_n 0 dX6_init_18 rfl rfl ?_
  refine I.bipush dX6_init_19 (by decide) ?_
  refine K.newI h4 (N' := (N + 3)) rfl 8 dX6_init_21 g2 rfl (by decide) (by omega) (show 1 ≤ 7 - 1 - 1 ∧ 8 ≤ 102 - 3 - 3 from by decide) fun h5 => ?_
  refine K.putR h5 dX6_init_23 fX6_18 gq (by omega) (by decide) rfl rfl rfl (fun _ => ⟨rfl, rfl⟩) (by omega) fun h6 => ?_
  refine J.aload_n 0 dX6_init_26 rfl rfl ?_
  refine I.iconst dX6_init_27 ?_
  refine K.newI h6 (N' := (N + 4)) rfl 2 dX6_init_28 g3 rfl (by decide) (by omega) (show 1 ≤ 7 - 1 - 1 - 1 ∧ 2 ≤ 102 - 3 - 3 - 8 from by decide) fun h7 => ?_
  refine K.putR h7 dX6_init_30 fX6_21 gq (by omega) (by decide) rfl rfl rfl (fun _ => ⟨rfl, rfl⟩) (by omega) fun h8 => ?_
  refine J.aload_n 0 dX6_init_33 rfl rfl ?_
  refine I.iconst dX6_init_34 ?_
  refine K.newI h8 (N' := (N + 5)) rfl 2 dX6_init_35 g4 rfl (by decide) (by omega) (show 1 ≤ 7 - 1 - 1 - 1 - 1 ∧ 2 ≤ 102 - 3 - 3 - 8 - 2 from by decide) fun h9 => ?_
  refine K.putR h9 dX6_init_37 fX6_24 gq (by omega) (by decide) rfl rfl rfl (fun _ => ⟨rfl, rfl⟩) (by omega) fun h10 => ?_
  refine J.aload_n 0 dX6_init_40 rfl rfl ?_
  refine I.bipush dX6_init_41 (by decide) ?_
  refine K.newI h10 (N' := (N + 6)) rfl 42 dX6_init_43 g5 rfl (by decide) (by omega) (show 1 ≤ 7 - 1 - 1 - 1 - 1 - 1 ∧ 42 ≤ 102 - 3 - 3 - 8 - 2 - 2 from by decide) fun h11 => ?_
  refine K.putR h11 dX6_init_45 fX6_27 gq (by omega) (by decide) rfl rfl rfl (fun _ => ⟨rfl, rfl⟩) (by omega) fun h12 => ?_
  refine J.aload_n 0 dX6_init_48 rfl rfl ?_
  refine I.bipush dX6_init_49 (by decide) ?_
  refine K.newI h12 (N' := (N + 7)) rfl 42 dX6_init_51 g6 rfl (by decide) (by omega) (show 1 ≤ 7 - 1 - 1 - 1 - 1 - 1 - 1 ∧ 42 ≤ 102 - 3 - 3 - 8 - 2 - 2 - 42 from by decide) fun h13 => ?_
  refine K.putR h13 dX6_init_53 fX6_30 gq (by omega) (by decide) rfl rfl rfl (fun _ => ⟨rfl, rfl⟩) (by omega) fun h14 => ?_
  exact J.vret rfl dX6_init_56 ⟨rfl, rfl, h14⟩
set_option maxHeartbeats 1000000 in
theorem c_X1_init {Γ : jE} (hl : Γ.1.stackTraces = false) {d : Nat} {l : List (Nat × Nat × Nat)} {s : Nat → Int → Int} {q N : Nat} (hd : 0 ≤ d) (hN : N + 5 ≤ 137) (hq : q < N) (gq : jsh[q]? = some (1, 6)) (g0 : jsh[N]? = some (100, 4)) (g1 : jsh[(N + 1)]? = some (100, 12)) (g2 : jsh[(N + 2)]? = some (100, 96)) (g3 : jsh[(N + 3)]? = some (100, 96)) (g4 : jsh[(N + 4)]? = some (100, 96)) (h0 : CT N l s) : Con Γ (d, 5, 304) mX1_init [.ref q] (jmT N l s) (fun v M' => v = none ∧ M' = jmT (N + 5) ((q, 5, (N + 4)) :: (q, 4, (N + 3)) :: (q, 3, (N + 2)) :: (q, 2, (N + 1)) :: (q, 1, N) :: l) s ∧ CT (N + 5) ((q, 5, (N + 4)) :: (q, 4, (N + 3)) :: (q, 3, (N + 2)) :: (q, 2, (N + 1)) :: (q, 1, N) :: l) s) X0 := by
  refine Con.ofJ (by decide +kernel) (by simp [Value.category]) (Nat.le_of_ble_eq_true rfl) ?_ hl
  refine J.aload_n 0 dX1_init_0 rfl rfl ?_
  refine J.objInit dX1_init_1 lX1_3 oi_1 oi_2 (Nat.le_of_ble_eq_true rfl) ?_
  refine J.aload_n 0 dX1_init_4 rfl rfl ?_
  refine I.iconst dX1_init_5 ?_
  refine K.newI h0 (N' := (N + 1)) rfl 4 dX1_init_6 g0 rfl (by decide) (by omega) (show 1 ≤ 5 ∧ 4 ≤ 304 from by decide) fun h1 => ?_
  refine K.putR h1 dX1_init_8 fX1_9 gq (by omega) (by decide) rfl rfl rfl (fun _ => ⟨rfl, rfl⟩) (by omega) fun h2 => ?_
  refine J.aload_n 0 dX1_init_11 rfl rfl ?_
  refine I.bipush dX1_init_12 (by decide) ?_
  refine K.newI h2 (N' := (N + 2)) rfl 12 dX1_init_14 g1 rfl (by decide) (by omega) (show 1 ≤ 5 - 1 ∧ 12 ≤ 304 - 4 from by decide) fun h3 => ?_
  refine K.putR h3 dX1_init_16 fX1_15 gq (by omega) (by decide) rfl rfl rfl (fun _ => ⟨rfl, rfl⟩) (by omega) fun h4 => ?_
  refine J.aload_n 0 dX1_init_19 rfl rfl ?_
  refine I.bipush dX1_init_20 (by decide) ?_
  refine K.newI h4 (N' := (N + 3)) rfl 96 dX1_init_22 g2 rfl (by decide) (by omega) (show 1 ≤ 5 - 1 - 1 ∧ 96 ≤ 304 - 4 - 12 from by decide) fun h5 => ?_
  refine K.putR h5 dX1_init_24 fX1_18 gq (by omega) (by decide) rfl rfl rfl (fun _ => ⟨rfl, rfl⟩) (by omega) fun h6 => ?_
  refine J.aload_n 0 dX1_init_27 rfl rfl ?_
  refine I.bipush dX1_init_28 (by decide) ?_
  refine K.newI h6 (N' := (N + 4)) rfl 96 dX1_init_30 g3 rfl (by decide) (by omega) (show 1 ≤ 5 - 1 - 1 - 1 ∧ 96 ≤ 304 - 4 - 12 - 96 from by decide) fun h7 => ?_
  refine K.putR h7 dX1_init_32 fX1_21 gq (by omega) (by decide) rfl rfl rfl (fun _ => ⟨rfl, rfl⟩) (by omega) fun h8 => ?_
  refine J.aload_n 0 dX1_init_35 rfl rfl ?_
  refine I.bipush dX1_init_36 (by decide) ?_
  refine K.newI h8 (N' := (N + 5)) rfl 96 dX1_init_38 g4 rfl (by decide) (by omega) (show 1 ≤ 5 - 1 - 1 - 1 - 1 ∧ 96 ≤ 304 - 4 - 12 - 96 - 96 from by decide) fun h9 => ?_
  refine K.putR h9 dX1_init_40 fX1_24 gq (by omega) (by decide) rfl rfl rfl (fun _ => ⟨rfl, rfl⟩) (by omega) fun h10 => ?_
  exact J.vret rfl dX1_init_43 ⟨rfl, rfl, h10⟩
set_option maxHeartbeats 1000000 in
theorem c_X2_init {Γ : jE} (hl : Γ.1.stackTraces = false) {d : Nat} {l : List (Nat × Nat × Nat)} {s : Nat → Int → Int} {q N : Nat} (hd : 1 ≤ d) (hN : N + 14 ≤ 137) (hq : q < N) (gq : jsh[q]? = some (2, 2)) (g0 : jsh[N]? = some (1, 6)) (g1 : jsh[(N + 1)]? = some (100, 4)) (g2 : jsh[(N + 2)]? = some (100, 12)) (g3 : jsh[(N + 3)]? = some (100, 96)) (g4 : jsh[(N + 4)]? = some (100, 96)) (g5 : jsh[(N + 5)]? = some (100, 96)) (g6 : jsh[(N + 6)]? = some (6, 13)) (g7 : jsh[(N + 7)]? = some (100, 3)) (g8 : jsh[(N + 8)]? = some (100, 3)) (g9 : jsh[(N + 9)]? = some (100, 8)) (g10 : jsh[(N + 10)]? = some (100, 2)) (g11 : jsh[(N + 11)]? = some (100, 2)) (g12 : jsh[(N + 12)]? = some (100, 42)) (g13 : jsh[(N + 13)]? = some (100, 42)) (h0 : CT N l s) : Con Γ (d, 14, 425) mX2_init [.ref q] (jmT N l s) (fun v M' => v = none ∧ M' = jmT (N + 14) ((q, 1, (N + 6)) :: ((N + 6), 12, (N + 13)) :: ((N + 6), 11, (N + 12)) :: ((N + 6), 10, (N + 11)) :: ((N + 6), 9, (N + 10)) :: ((N + 6), 8, (N + 9)) :: ((N + 6), 7, (N + 8)) :: ((N + 6), 6, (N + 7)) :: (q, 0, N) :: (N, 5, (N + 5)) :: (N, 4, (N + 4)) :: (N, 3, (N + 3)) :: (N, 2, (N + 2)) :: (N, 1, (N + 1)) :: l) s ∧ CT (N + 14) ((q, 1, (N + 6)) :: ((N + 6), 12, (N + 13)) :: ((N + 6), 11, (N + 12)) :: ((N + 6), 10, (N + 11)) :: ((N + 6), 9, (N + 10)) :: ((N + 6), 8, (N + 9)) :: ((N + 6), 7, (N + 8)) :: ((N + 6), 6, (N + 7)) :: (q, 0, N) :: (N, 5, (N + 5)) :: (N, 4, (N + 4)) :: (N, 3, (N + 3)) :: (N, 2, (N + 2)) :: (N, 1, (N + 1)) :: l) s) X0 := by
  refine Con.ofJ (by decide +kernel) (by simp [Value.category]) (Nat.le_of_ble_eq_true rfl) ?_ hl
  refine J.aload_n 0 dX2_init_0 rfl rfl ?_
  refine J.objInit dX2_init_1 lX2_3 oi_1 oi_2 (Nat.le_of_ble_eq_true rfl) ?_
  refine J.aload_n 0 dX2_init_4 rfl rfl ?_
  refine K.new h0 (N' := (N + 1)) rfl dX2_init_5 (ci := 1) (n := 6) rfl kX2_9 iX1 iniX1 g0 (by omega) (show 1 ≤ 14 ∧ 6 ≤ 425 from by decide) fun h1 => ?_
  refine J.dupR dX2_init_8 ?_
  refine K.initN (mi' := mX1_init) (b' := (d - 1, 5, 304)) dX2_init_9 nX2_11 eX1_init (show d - 1 + 1 ≤ d ∧ 5 ≤ 14 - 1 ∧ 304 ≤ 425 - 6 from ⟨by omega, by decide, by decide⟩) (c_X1_init (d := d - 1) hl (q := N) (N := (N + 1)) (by omega) (by omega) (by omega) g0 g1 g2 g3 g4 g5 h1) (Nat.le_of_ble_eq_true rfl) fun h2 => ?_
  refine K.putR h2 dX2_init_12 fX2_12 gq (by omega) (by decide) rfl rfl rfl (fun _ => ⟨rfl, rfl⟩) (by omega) fun h3 => ?_
  refine J.aload_n 0 dX2_init_15 rfl rfl ?_
  refine K.new h3 (N' := (N + 7)) rfl dX2_init_16 (ci := 6) (n := 13) rfl kX2_18 iX6 iniX6 g6 (by omega) (show 1 ≤ 14 - 1 - 5 ∧ 13 ≤ 425 - 6 - 304 from by decide) fun h4 => ?_
  refine J.dupR dX2_init_19 ?_
  refine K.initN (mi' := mX6_init) (b' := (d - 1, 7, 102)) dX2_init_20 nX2_20 eX6_init (show d - 1 + 1 ≤ d ∧ 7 ≤ 14 - 1 - 5 - 1 ∧ 102 ≤ 425 - 6 - 304 - 13 from ⟨by omega, by decide, by decide⟩) (c_X6_init (d := d - 1) hl (q := (N + 6)) (N := (N + 7)) (by omega) (by omega) (by omega) g6 g7 g8 g9 g10 g11 g12 g13 h4) (Nat.le_of_ble_eq_true rfl) fun h5 => ?_
  refine K.putR h5 dX2_init_23 fX2_21 gq (by omega) (by decide) rfl rfl rfl (fun _ => ⟨rfl, rfl⟩) (by omega) fun h6 => ?_
  exact J.vret rfl dX2_init_26 ⟨rfl, rfl, h6⟩
set_option maxHeartbeats 4000000 in
set_option maxRecDepth 8000 in
theorem c_X4_init {Γ : jE} (hl : Γ.1.stackTraces = false) {d : Nat} {l : List (Nat × Nat × Nat)} {s : Nat → Int → Int} (hd : 0 ≤ d) (h0 : CT 19 l s) : Con Γ (d, 1, 500) mX4_init [.ref 18] (jmT 19 l s) (fun v M' => v = none ∧ M' = jmT 20 ((18, 0, 19) :: l) s ∧ CT 20 ((18, 0, 19) :: l) s) X0 := by
  refine Con.ofJ (by decide +kernel) (by simp [Value.category]) (Nat.le_of_ble_eq_true rfl) ?_ hl
  refine J.aload_n 0 dX4_init_0 rfl rfl ?_
  refine J.objInit dX4_init_1 lX4_3 oi_1 oi_2 (Nat.le_of_ble_eq_true rfl) ?_
  refine J.aload_n 0 dX4_init_4 rfl rfl ?_
  refine I.sipush dX4_init_5 (by decide) ?_
  refine K.newI h0 (N' := 20) rfl 500 dX4_init_8 rfl rfl (by decide) (by decide) (show 1 ≤ 1 ∧ 500 ≤ 500 from by decide) fun h1 => ?_
  refine K.putR h1 dX4_init_10 fX4_9 rfl (by decide) (by decide) rfl rfl rfl (fun _ => ⟨rfl, rfl⟩) (by decide) fun h2 => ?_
  exact J.vret rfl dX4_init_13 ⟨rfl, rfl, h2⟩
set_option maxHeartbeats 4000000 in
set_option maxRecDepth 8000 in
theorem c_X3_init {Γ : jE} (hl : Γ.1.stackTraces = false) {d : Nat} {l : List (Nat × Nat × Nat)} {s : Nat → Int → Int} (hd : 2 ≤ d) (h0 : CT 3 l s) : Con Γ (d, 18, 981) mX3_init [.ref 2] (jmT 3 l s) (fun v M' => v = none ∧ M' = jmT 21 ((2, 2, 20) :: (2, 1, 18) :: (18, 0, 19) :: (2, 0, 3) :: (3, 1, 10) :: (10, 12, 17) :: (10, 11, 16) :: (10, 10, 15) :: (10, 9, 14) :: (10, 8, 13) :: (10, 7, 12) :: (10, 6, 11) :: (3, 0, 4) :: (4, 5, 9) :: (4, 4, 8) :: (4, 3, 7) :: (4, 2, 6) :: (4, 1, 5) :: l) s ∧ CT 21 ((2, 2, 20) :: (2, 1, 18) :: (18, 0, 19) :: (2, 0, 3) :: (3, 1, 10) :: (10, 12, 17) :: (10, 11, 16) :: (10, 10, 15) :: (10, 9, 14) :: (10, 8, 13) :: (10, 7, 12) :: (10, 6, 11) :: (3, 0, 4) :: (4, 5, 9) :: (4, 4, 8) :: (4, 3, 7) :: (4, 2, 6) :: (4, 1, 5) :: l) s) X0 := by
  refine Con.ofJ (by decide +kernel) (by simp [Value.category]) (Nat.le_of_ble_eq_true rfl) ?_ hl
  refine J.aload_n 0 dX3_init_0 rfl rfl ?_
  refine J.objInit dX3_init_1 lX3_3 oi_1 oi_2 (Nat.le_of_ble_eq_true rfl) ?_
  refine J.aload_n 0 dX3_init_4 rfl rfl ?_
  refine K.new h0 (N' := 4) rfl dX3_init_5 (ci := 2) (n := 2) rfl kX3_9 iX2 iniX2 rfl (by decide) (show 1 ≤ 18 ∧ 2 ≤ 981 from by decide) fun h1 => ?_
  refine J.dupR dX3_init_8 ?_
  refine K.initN (mi' := mX2_init) (b' := (d - 1, 14, 425)) dX3_init_9 nX3_11 eX2_init (show d - 1 + 1 ≤ d ∧ 14 ≤ 18 - 1 ∧ 425 ≤ 981 - 2 from ⟨by omega, by decide, by decide⟩) (c_X2_init (d := d - 1) hl (q := 3) (N := 4) (by omega) (by decide) (by decide) rfl rfl rfl rfl rfl rfl rfl rfl rfl rfl rfl rfl rfl rfl rfl h1) (Nat.le_of_ble_eq_true rfl) fun h2 => ?_
  refine K.putR h2 dX3_init_12 fX3_12 rfl (by decide) (by decide) rfl rfl rfl (fun _ => ⟨rfl, rfl⟩) (by decide) fun h3 => ?_
  refine J.aload_n 0 dX3_init_15 rfl rfl ?_
  refine K.new h3 (N' := 19) rfl dX3_init_16 (ci := 4) (n := 5) rfl kX3_18 iX4 iniX4 rfl (by decide) (show 1 ≤ 18 - 1 - 14 ∧ 5 ≤ 981 - 2 - 425 from by decide) fun h4 => ?_
  refine J.dupR dX3_init_19 ?_
  refine K.initN (mi' := mX4_init) (b' := (d - 1, 1, 500)) dX3_init_20 nX3_20 eX4_init (show d - 1 + 1 ≤ d ∧ 1 ≤ 18 - 1 - 14 - 1 ∧ 500 ≤ 981 - 2 - 425 - 5 from ⟨by omega, by decide, by decide⟩) (c_X4_init (d := d - 1) hl (by omega) h4) (Nat.le_of_ble_eq_true rfl) fun h5 => ?_
  refine K.putR h5 dX3_init_23 fX3_21 rfl (by decide) (by decide) rfl rfl rfl (fun _ => ⟨rfl, rfl⟩) (by decide) fun h6 => ?_
  refine J.aload_n 0 dX3_init_26 rfl rfl ?_
  refine I.bipush dX3_init_27 (by decide) ?_
  refine K.newI h6 (N' := 21) rfl 49 dX3_init_29 rfl rfl (by decide) (by decide) (show 1 ≤ 18 - 1 - 14 - 1 - 1 ∧ 49 ≤ 981 - 2 - 425 - 5 - 500 from by decide) fun h7 => ?_
  refine K.putR h7 dX3_init_31 fX3_25 rfl (by decide) (by decide) rfl rfl rfl (fun _ => ⟨rfl, rfl⟩) (by decide) fun h8 => ?_
  exact J.vret rfl dX3_init_34 ⟨rfl, rfl, h8⟩
set_option maxHeartbeats 4000000 in
set_option maxRecDepth 8000 in
theorem c_X0_init {Γ : jE} (hl : Γ.1.stackTraces = false) {d : Nat} {l : List (Nat × Nat × Nat)} {s : Nat → Int → Int} (hd : 1 ≤ d) (h0 : CT 62 l s) : Con Γ (d, 65, 928) mX0_init [.ref 61] (jmT 62 l s) (fun v M' => v = none ∧ M' = jmT 127 ((62, 7, 119) :: (119, 12, 126) :: (119, 11, 125) :: (119, 10, 124) :: (119, 9, 123) :: (119, 8, 122) :: (119, 7, 121) :: (119, 6, 120) :: (62, 6, 111) :: (111, 12, 118) :: (111, 11, 117) :: (111, 10, 116) :: (111, 9, 115) :: (111, 8, 114) :: (111, 7, 113) :: (111, 6, 112) :: (62, 5, 103) :: (103, 12, 110) :: (103, 11, 109) :: (103, 10, 108) :: (103, 9, 107) :: (103, 8, 106) :: (103, 7, 105) :: (103, 6, 104) :: (62, 4, 95) :: (95, 12, 102) :: (95, 11, 101) :: (95, 10, 100) :: (95, 9, 99) :: (95, 8, 98) :: (95, 7, 97) :: (95, 6, 96) :: (62, 3, 87) :: (87, 12, 94) :: (87, 11, 93) :: (87, 10, 92) :: (87, 9, 91) :: (87, 8, 90) :: (87, 7, 89) :: (87, 6, 88) :: (62, 2, 79) :: (79, 12, 86) :: (79, 11, 85) :: (79, 10, 84) :: (79, 9, 83) :: (79, 8, 82) :: (79, 7, 81) :: (79, 6, 80) :: (62, 1, 71) :: (71, 12, 78) :: (71, 11, 77) :: (71, 10, 76) :: (71, 9, 75) :: (71, 8, 74) :: (71, 7, 73) :: (71, 6, 72) :: (62, 0, 63) :: (63, 12, 70) :: (63, 11, 69) :: (63, 10, 68) :: (63, 9, 67) :: (63, 8, 66) :: (63, 7, 65) :: (63, 6, 64) :: (61, 0, 62) :: l) s ∧ CT 127 ((62, 7, 119) :: (119, 12, 126) :: (119, 11, 125) :: (119, 10, 124) :: (119, 9, 123) :: (119, 8, 122) :: (119, 7, 121) :: (119, 6, 120) :: (62, 6, 111) :: (111, 12, 118) :: (111, 11, 117) :: (111, 10, 116) :: (111, 9, 115) :: (111, 8, 114) :: (111, 7, 113) :: (111, 6, 112) :: (62, 5, 103) :: (103, 12, 110) :: (103, 11, 109) :: (103, 10, 108) :: (103, 9, 107) :: (103, 8, 106) :: (103, 7, 105) :: (103, 6, 104) :: (62, 4, 95) :: (95, 12, 102) :: (95, 11, 101) :: (95, 10, 100) :: (95, 9, 99) :: (95, 8, 98) :: (95, 7, 97) :: (95, 6, 96) :: (62, 3, 87) :: (87, 12, 94) :: (87, 11, 93) :: (87, 10, 92) :: (87, 9, 91) :: (87, 8, 90) :: (87, 7, 89) :: (87, 6, 88) :: (62, 2, 79) :: (79, 12, 86) :: (79, 11, 85) :: (79, 10, 84) :: (79, 9, 83) :: (79, 8, 82) :: (79, 7, 81) :: (79, 6, 80) :: (62, 1, 71) :: (71, 12, 78) :: (71, 11, 77) :: (71, 10, 76) :: (71, 9, 75) :: (71, 8, 74) :: (71, 7, 73) :: (71, 6, 72) :: (62, 0, 63) :: (63, 12, 70) :: (63, 11, 69) :: (63, 10, 68) :: (63, 9, 67) :: (63, 8, 66) :: (63, 7, 65) :: (63, 6, 64) :: (61, 0, 62) :: l) s) X0 := by
  refine Con.ofJ (by decide +kernel) (by simp [Value.category]) (Nat.le_of_ble_eq_true rfl) ?_ hl
  refine J.aload_n 0 dX0_init_0 rfl rfl ?_
  refine J.objInit dX0_init_1 lX0_3 oi_1 oi_2 (Nat.le_of_ble_eq_true rfl) ?_
  refine J.aload_n 0 dX0_init_4 rfl rfl ?_
  refine I.bipush dX0_init_5 (by decide) ?_
  refine K.newA h0 (N' := 63) rfl 8 dX0_init_7 kX0_9 rfl rfl (by decide) (by decide) (show 1 ≤ 65 ∧ 8 ≤ 928 from by decide) fun h1 => ?_
  refine K.putR h1 dX0_init_10 fX0_11 rfl (by decide) (by decide) rfl rfl rfl (fun _ => ⟨rfl, rfl⟩) (by decide) fun h2 => ?_
  refine I.iconst dX0_init_13 ?_
  refine J.istore_n 1 dX0_init_14 rfl (by decide) rfl ?_
  refine J.iload_n 1 dX0_init_15 rfl rfl ?_
  refine J.aload_n 0 dX0_init_16 rfl rfl ?_
  refine K.gR dX0_init_17 fX0_11 rfl (by decide) (by decide) rfl rfl ?_
  refine K.alen dX0_init_20 rfl (by decide) (by decide) ?_
  refine I.icmp_ge 43 dX0_init_21 (by decide) (by decide) (by decide) (fun h => absurd h (by decide)) (fun _ => ?_)
  refine J.aload_n 0 dX0_init_24 rfl rfl ?_
  refine K.gR dX0_init_25 fX0_11 rfl (by decide) (by decide) rfl rfl ?_
  refine J.iload_n 1 dX0_init_28 rfl rfl ?_
  refine K.new h2 (N' := 64) rfl dX0_init_29 (ci := 6) (n := 13) rfl kX0_9 iX6 iniX6 rfl (by decide) (show 1 ≤ 65 - 1 ∧ 13 ≤ 928 - 8 from by decide) fun h3 => ?_
  refine J.dupR dX0_init_32 ?_
  refine K.initN (mi' := mX6_init) (b' := (d - 1, 7, 102)) dX0_init_33 nX0_17 eX6_init (show d - 1 + 1 ≤ d ∧ 7 ≤ 65 - 1 - 1 ∧ 102 ≤ 928 - 8 - 13 from ⟨by omega, by decide, by decide⟩) (c_X6_init (d := d - 1) hl (q := 63) (N := 64) (by omega) (by decide) (by decide) rfl rfl rfl rfl rfl rfl rfl rfl h3) (Nat.le_of_ble_eq_true rfl) fun h4 => ?_
  refine K.aast h4 dX0_init_36 rfl (by decide) (by decide) 0 rfl (by decide) rfl (by decide) fun h5 => ?_
  refine I.iinc dX0_init_37 rfl rfl ?_
  refine J.goto 15 dX0_init_40 (by decide) ?_
  refine J.iload_n 1 dX0_init_15 rfl rfl ?_
  refine J.aload_n 0 dX0_init_16 rfl rfl ?_
  refine K.gR dX0_init_17 fX0_11 rfl (by decide) (by decide) rfl rfl ?_
  refine K.alen dX0_init_20 rfl (by decide) (by decide) ?_
  refine I.icmp_ge 43 dX0_init_21 (by decide) (by decide) (by decide) (fun h => absurd h (by decide)) (fun _ => ?_)
  refine J.aload_n 0 dX0_init_24 rfl rfl ?_
  refine K.gR dX0_init_25 fX0_11 rfl (by decide) (by decide) rfl rfl ?_
  refine J.iload_n 1 dX0_init_28 rfl rfl ?_
  refine K.new h5 (N' := 72) rfl dX0_init_29 (ci := 6) (n := 13) rfl kX0_9 iX6 iniX6 rfl (by decide) (show 1 ≤ 65 - 1 - 1 - 7 ∧ 13 ≤ 928 - 8 - 13 - 102 from by decide) fun h6 => ?_
  refine J.dupR dX0_init_32 ?_
  refine K.initN (mi' := mX6_init) (b' := (d - 1, 7, 102)) dX0_init_33 nX0_17 eX6_init (show d - 1 + 1 ≤ d ∧ 7 ≤ 65 - 1 - 1 - 7 - 1 ∧ 102 ≤ 928 - 8 - 13 - 102 - 13 from ⟨by omega, by decide, by decide⟩) (c_X6_init (d := d - 1) hl (q := 71) (N := 72) (by omega) (by decide) (by decide) rfl rfl rfl rfl rfl rfl rfl rfl h6) (Nat.le_of_ble_eq_true rfl) fun h7 => ?_
  refine K.aast h7 dX0_init_36 rfl (by decide) (by decide) 1 rfl (by decide) rfl (by decide) fun h8 => ?_
  refine I.iinc dX0_init_37 rfl rfl ?_
  refine J.goto 15 dX0_init_40 (by decide) ?_
  refine J.iload_n 1 dX0_init_15 rfl rfl ?_
  refine J.aload_n 0 dX0_init_16 rfl rfl ?_
  refine K.gR dX0_init_17 fX0_11 rfl (by decide) (by decide) rfl rfl ?_
  refine K.alen dX0_init_20 rfl (by decide) (by decide) ?_
  refine I.icmp_ge 43 dX0_init_21 (by decide) (by decide) (by decide) (fun h => absurd h (by decide)) (fun _ => ?_)
  refine J.aload_n 0 dX0_init_24 rfl rfl ?_
  refine K.gR dX0_init_25 fX0_11 rfl (by decide) (by decide) rfl rfl ?_
  refine J.iload_n 1 dX0_init_28 rfl rfl ?_
  refine K.new h8 (N' := 80) rfl dX0_init_29 (ci := 6) (n := 13) rfl kX0_9 iX6 iniX6 rfl (by decide) (show 1 ≤ 65 - 1 - 1 - 7 - 1 - 7 ∧ 13 ≤ 928 - 8 - 13 - 102 - 13 - 102 from by decide) fun h9 => ?_
  refine J.dupR dX0_init_32 ?_
  refine K.initN (mi' := mX6_init) (b' := (d - 1, 7, 102)) dX0_init_33 nX0_17 eX6_init (show d - 1 + 1 ≤ d ∧ 7 ≤ 65 - 1 - 1 - 7 - 1 - 7 - 1 ∧ 102 ≤ 928 - 8 - 13 - 102 - 13 - 102 - 13 from ⟨by omega, by decide, by decide⟩) (c_X6_init (d := d - 1) hl (q := 79) (N := 80) (by omega) (by decide) (by decide) rfl rfl rfl rfl rfl rfl rfl rfl h9) (Nat.le_of_ble_eq_true rfl) fun h10 => ?_
  refine K.aast h10 dX0_init_36 rfl (by decide) (by decide) 2 rfl (by decide) rfl (by decide) fun h11 => ?_
  refine I.iinc dX0_init_37 rfl rfl ?_
  refine J.goto 15 dX0_init_40 (by decide) ?_
  refine J.iload_n 1 dX0_init_15 rfl rfl ?_
  refine J.aload_n 0 dX0_init_16 rfl rfl ?_
  refine K.gR dX0_init_17 fX0_11 rfl (by decide) (by decide) rfl rfl ?_
  refine K.alen dX0_init_20 rfl (by decide) (by decide) ?_
  refine I.icmp_ge 43 dX0_init_21 (by decide) (by decide) (by decide) (fun h => absurd h (by decide)) (fun _ => ?_)
  refine J.aload_n 0 dX0_init_24 rfl rfl ?_
  refine K.gR dX0_init_25 fX0_11 rfl (by decide) (by decide) rfl rfl ?_
  refine J.iload_n 1 dX0_init_28 rfl rfl ?_
  refine K.new h11 (N' := 88) rfl dX0_init_29 (ci := 6) (n := 13) rfl kX0_9 iX6 iniX6 rfl (by decide) (show 1 ≤ 65 - 1 - 1 - 7 - 1 - 7 - 1 - 7 ∧ 13 ≤ 928 - 8 - 13 - 102 - 13 - 102 - 13 - 102 from by decide) fun h12 => ?_
  refine J.dupR dX0_init_32 ?_
  refine K.initN (mi' := mX6_init) (b' := (d - 1, 7, 102)) dX0_init_33 nX0_17 eX6_init (show d - 1 + 1 ≤ d ∧ 7 ≤ 65 - 1 - 1 - 7 - 1 - 7 - 1 - 7 - 1 ∧ 102 ≤ 928 - 8 - 13 - 102 - 13 - 102 - 13 - 102 - 13 from ⟨by omega, by decide, by decide⟩) (c_X6_init (d := d - 1) hl (q := 87) (N := 88) (by omega) (by decide) (by decide) rfl rfl rfl rfl rfl rfl rfl rfl h12) (Nat.le_of_ble_eq_true rfl) fun h13 => ?_
  refine K.aast h13 dX0_init_36 rfl (by decide) (by decide) 3 rfl (by decide) rfl (by decide) fun h14 => ?_
  refine I.iinc dX0_init_37 rfl rfl ?_
  refine J.goto 15 dX0_init_40 (by decide) ?_
  refine J.iload_n 1 dX0_init_15 rfl rfl ?_
  refine J.aload_n 0 dX0_init_16 rfl rfl ?_
  refine K.gR dX0_init_17 fX0_11 rfl (by decide) (by decide) rfl rfl ?_
  refine K.alen dX0_init_20 rfl (by decide) (by decide) ?_
  refine I.icmp_ge 43 dX0_init_21 (by decide) (by decide) (by decide) (fun h => absurd h (by decide)) (fun _ => ?_)
  refine J.aload_n 0 dX0_init_24 rfl rfl ?_
  refine K.gR dX0_init_25 fX0_11 rfl (by decide) (by decide) rfl rfl ?_
  refine J.iload_n 1 dX0_init_28 rfl rfl ?_
  refine K.new h14 (N' := 96) rfl dX0_init_29 (ci := 6) (n := 13) rfl kX0_9 iX6 iniX6 rfl (by decide) (show 1 ≤ 65 - 1 - 1 - 7 - 1 - 7 - 1 - 7 - 1 - 7 ∧ 13 ≤ 928 - 8 - 13 - 102 - 13 - 102 - 13 - 102 - 13 - 102 from by decide) fun h15 => ?_
  refine J.dupR dX0_init_32 ?_
  refine K.initN (mi' := mX6_init) (b' := (d - 1, 7, 102)) dX0_init_33 nX0_17 eX6_init (show d - 1 + 1 ≤ d ∧ 7 ≤ 65 - 1 - 1 - 7 - 1 - 7 - 1 - 7 - 1 - 7 - 1 ∧ 102 ≤ 928 - 8 - 13 - 102 - 13 - 102 - 13 - 102 - 13 - 102 - 13 from ⟨by omega, by decide, by decide⟩) (c_X6_init (d := d - 1) hl (q := 95) (N := 96) (by omega) (by decide) (by decide) rfl rfl rfl rfl rfl rfl rfl rfl h15) (Nat.le_of_ble_eq_true rfl) fun h16 => ?_
  refine K.aast h16 dX0_init_36 rfl (by decide) (by decide) 4 rfl (by decide) rfl (by decide) fun h17 => ?_
  refine I.iinc dX0_init_37 rfl rfl ?_
  refine J.goto 15 dX0_init_40 (by decide) ?_
  refine J.iload_n 1 dX0_init_15 rfl rfl ?_
  refine J.aload_n 0 dX0_init_16 rfl rfl ?_
  refine K.gR dX0_init_17 fX0_11 rfl (by decide) (by decide) rfl rfl ?_
  refine K.alen dX0_init_20 rfl (by decide) (by decide) ?_
  refine I.icmp_ge 43 dX0_init_21 (by decide) (by decide) (by decide) (fun h => absurd h (by decide)) (fun _ => ?_)
  refine J.aload_n 0 dX0_init_24 rfl rfl ?_
  refine K.gR dX0_init_25 fX0_11 rfl (by decide) (by decide) rfl rfl ?_
  refine J.iload_n 1 dX0_init_28 rfl rfl ?_
  refine K.new h17 (N' := 104) rfl dX0_init_29 (ci := 6) (n := 13) rfl kX0_9 iX6 iniX6 rfl (by decide) (show 1 ≤ 65 - 1 - 1 - 7 - 1 - 7 - 1 - 7 - 1 - 7 - 1 - 7 ∧ 13 ≤ 928 - 8 - 13 - 102 - 13 - 102 - 13 - 102 - 13 - 102 - 13 - 102 from by decide) fun h18 => ?_
  refine J.dupR dX0_init_32 ?_
  refine K.initN (mi' := mX6_init) (b' := (d - 1, 7, 102)) dX0_init_33 nX0_17 eX6_init (show d - 1 + 1 ≤ d ∧ 7 ≤ 65 - 1 - 1 - 7 - 1 - 7 - 1 - 7 - 1 - 7 - 1 - 7 - 1 ∧ 102 ≤ 928 - 8 - 13 - 102 - 13 - 102 - 13 - 102 - 13 - 102 - 13 - 102 - 13 from ⟨by omega, by decide, by decide⟩) (c_X6_init (d := d - 1) hl (q := 103) (N := 104) (by omega) (by decide) (by decide) rfl rfl rfl rfl rfl rfl rfl rfl h18) (Nat.le_of_ble_eq_true rfl) fun h19 => ?_
  refine K.aast h19 dX0_init_36 rfl (by decide) (by decide) 5 rfl (by decide) rfl (by decide) fun h20 => ?_
  refine I.iinc dX0_init_37 rfl rfl ?_
  refine J.goto 15 dX0_init_40 (by decide) ?_
  refine J.iload_n 1 dX0_init_15 rfl rfl ?_
  refine J.aload_n 0 dX0_init_16 rfl rfl ?_
  refine K.gR dX0_init_17 fX0_11 rfl (by decide) (by decide) rfl rfl ?_
  refine K.alen dX0_init_20 rfl (by decide) (by decide) ?_
  refine I.icmp_ge 43 dX0_init_21 (by decide) (by decide) (by decide) (fun h => absurd h (by decide)) (fun _ => ?_)
  refine J.aload_n 0 dX0_init_24 rfl rfl ?_
  refine K.gR dX0_init_25 fX0_11 rfl (by decide) (by decide) rfl rfl ?_
  refine J.iload_n 1 dX0_init_28 rfl rfl ?_
  refine K.new h20 (N' := 112) rfl dX0_init_29 (ci := 6) (n := 13) rfl kX0_9 iX6 iniX6 rfl (by decide) (show 1 ≤ 65 - 1 - 1 - 7 - 1 - 7 - 1 - 7 - 1 - 7 - 1 - 7 - 1 - 7 ∧ 13 ≤ 928 - 8 - 13 - 102 - 13 - 102 - 13 - 102 - 13 - 102 - 13 - 102 - 13 - 102 from by decide) fun h21 => ?_
  refine J.dupR dX0_init_32 ?_
  refine K.initN (mi' := mX6_init) (b' := (d - 1, 7, 102)) dX0_init_33 nX0_17 eX6_init (show d - 1 + 1 ≤ d ∧ 7 ≤ 65 - 1 - 1 - 7 - 1 - 7 - 1 - 7 - 1 - 7 - 1 - 7 - 1 - 7 - 1 ∧ 102 ≤ 928 - 8 - 13 - 102 - 13 - 102 - 13 - 102 - 13 - 102 - 13 - 102 - 13 - 102 - 13 from ⟨by omega, by decide, by decide⟩) (c_X6_init (d := d - 1) hl (q := 111) (N := 112) (by omega) (by decide) (by decide) rfl rfl rfl rfl rfl rfl rfl rfl h21) (Nat.le_of_ble_eq_true rfl) fun h22 => ?_
  refine K.aast h22 dX0_init_36 rfl (by decide) (by decide) 6 rfl (by decide) rfl (by decide) fun h23 => ?_
  refine I.iinc dX0_init_37 rfl rfl ?_
  refine J.goto 15 dX0_init_40 (by decide) ?_
  refine J.iload_n 1 dX0_init_15 rfl rfl ?_
  refine J.aload_n 0 dX0_init_16 rfl rfl ?_
  refine K.gR dX0_init_17 fX0_11 rfl (by decide) (by decide) rfl rfl ?_
  refine K.alen dX0_init_20 rfl (by decide) (by decide) ?_
  refine I.icmp_ge 43 dX0_init_21 (by decide) (by decide) (by decide) (fun h => absurd h (by decide)) (fun _ => ?_)
  refine J.aload_n 0 dX0_init_24 rfl rfl ?_
  refine K.gR dX0_init_25 fX0_11 rfl (by decide) (by decide) rfl rfl ?_
  refine J.iload_n 1 dX0_init_28 rfl rfl ?_
  refine K.new h23 (N' := 120) rfl dX0_init_29 (ci := 6) (n := 13) rfl kX0_9 iX6 iniX6 rfl (by decide) (show 1 ≤ 65 - 1 - 1 - 7 - 1 - 7 - 1 - 7 - 1 - 7 - 1 - 7 - 1 - 7 - 1 - 7 ∧ 13 ≤ 928 - 8 - 13 - 102 - 13 - 102 - 13 - 102 - 13 - 102 - 13 - 102 - 13 - 102 - 13 - 102 from by decide) fun h24 => ?_
  refine J.dupR dX0_init_32 ?_
  refine K.initN (mi' := mX6_init) (b' := (d - 1, 7, 102)) dX0_init_33 nX0_17 eX6_init (show d - 1 + 1 ≤ d ∧ 7 ≤ 65 - 1 - 1 - 7 - 1 - 7 - 1 - 7 - 1 - 7 - 1 - 7 - 1 - 7 - 1 - 7 - 1 ∧ 102 ≤ 928 - 8 - 13 - 102 - 13 - 102 - 13 - 102 - 13 - 102 - 13 - 102 - 13 - 102 - 13 - 102 - 13 from ⟨by omega, by decide, by decide⟩) (c_X6_init (d := d - 1) hl (q := 119) (N := 120) (by omega) (by decide) (by decide) rfl rfl rfl rfl rfl rfl rfl rfl h24) (Nat.le_of_ble_eq_true rfl) fun h25 => ?_
  refine K.aast h25 dX0_init_36 rfl (by decide) (by decide) 7 rfl (by decide) rfl (by decide) fun h26 => ?_
  refine I.iinc dX0_init_37 rfl rfl ?_
  refine J.goto 15 dX0_init_40 (by decide) ?_
  refine J.iload_n 1 dX0_init_15 rfl rfl ?_
  refine J.aload_n 0 dX0_init_16 rfl rfl ?_
  refine K.gR dX0_init_17 fX0_11 rfl (by decide) (by decide) rfl rfl ?_
  refine K.alen dX0_init_20 rfl (by decide) (by decide) ?_
  refine I.icmp_ge 43 dX0_init_21 (by decide) (by decide) (by decide) (fun _ => ?_) (fun h => absurd h (by decide))
  exact J.vret rfl dX0_init_43 ⟨rfl, rfl, h26⟩
set_option maxHeartbeats 4000000 in
set_option maxRecDepth 8000 in
theorem c_X7_init {Γ : jE} (hl : Γ.1.stackTraces = false) {d : Nat} {l : List (Nat × Nat × Nat)} {s : Nat → Int → Int} (hd : 0 ≤ d) (h0 : CT 136 l s) : Con Γ (d, 1, 126) mX7_init [.ref 135] (jmT 136 l s) (fun v M' => v = none ∧ M' = jmT 137 ((135, 0, 136) :: l) s ∧ CT 137 ((135, 0, 136) :: l) s) X0 := by
  refine Con.ofJ (by decide +kernel) (by simp [Value.category]) (Nat.le_of_ble_eq_true rfl) ?_ hl
  refine J.aload_n 0 dX7_init_0 rfl rfl ?_
  refine J.objInit dX7_init_1 lX7_3 oi_1 oi_2 (Nat.le_of_ble_eq_true rfl) ?_
  refine J.aload_n 0 dX7_init_4 rfl rfl ?_
  refine I.bipush dX7_init_5 (by decide) ?_
  refine K.newI h0 (N' := 137) rfl 126 dX7_init_7 rfl rfl (by decide) (by decide) (show 1 ≤ 1 ∧ 126 ≤ 126 from by decide) fun h1 => ?_
  refine K.putR h1 dX7_init_9 fX7_9 rfl (by decide) (by decide) rfl rfl rfl (fun _ => ⟨rfl, rfl⟩) (by decide) fun h2 => ?_
  exact J.vret rfl dX7_init_12 ⟨rfl, rfl, h2⟩
