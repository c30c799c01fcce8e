theorem MW.tx {s z : Nat → Int → Int} {f : Int → Int} (h : MW s f) (k : ∀ q j, q ≠ 140 → (q ≠ 137 ∨ j ≠ 0 ∧ j ≠ 11) → z q j = s q j) : MW z f :=
  ⟨⟨by rw [k 137 2 (by omega) (by omega)]; exact h.1.1, fun j a b => by rw [k 137 2 (by omega) (by omega), k _ _ (by omega) (by omega)]; exact h.1.2 j a b⟩, h.2⟩
set_option maxHeartbeats 1000000 in
theorem c_X9_feeds {Γ : jE} (hl : Γ.1.stackTraces = false) {s : Nat → Int → Int} {ε : jEps} {d : Nat} {z : Int} (hd : 0 ≤ d) (p0 : 0 ≤ s 137 7 ∧ s 137 7 + 4 ≤ 500) (p1 : -2147483648 ≤ z ∧ z < 2147483648) : Con Γ (d, 0, 0) mX9_feeds [.ref 137, .int (iI z)] (jmem s ε) (RW (fun s' => (∀ q i, q ≠ 139 → (q ≠ 137 ∨ i ≠ 7) → s' q i = s q i) ∧ s' 137 7 = s 137 7 + 4 ∧ ∀ i, s' 139 i = gFdM (s 139) (s 137 7) z i) ε) X0 := by
  refine Con.ofJ (by decide +kernel) (by simp [Value.category]) (Nat.le_of_ble_eq_true rfl) ?_ hl
  refine I.bipush dX9_feeds_0 (by decide) ?_
  refine J.istore_n 2 dX9_feeds_2 rfl (by decide) rfl ?_
  refine J.iload_n 2 dX9_feeds_3 rfl rfl ?_
  refine I.if_lt 36 dX9_feeds_4 (by decide) (by omega) (fun h4 => ?_) (fun h4 => ?_)
  · exact absurd h4 (by omega)
  · skip
    refine J.aload_n 0 dX9_feeds_7 rfl rfl ?_
    refine I.getR dX9_feeds_8 jcls fX9_13 rfl (by decide) rfl rfl ?_
    refine J.aload_n 0 dX9_feeds_11 rfl rfl ?_
    refine I.gI 7 rfl dX9_feeds_12 jcls fX9_156 rfl (by decide) rfl ?_
    refine I.sx (by first | exact up_eq _ _ _ _ | rfl) ?_
    refine J.iload_n 1 dX9_feeds_15 rfl rfl ?_
    refine J.iload_n 2 dX9_feeds_16 rfl rfl ?_
    refine I.shrB 24 0 dX9_feeds_17 dX9_feeds_18 (by decide) (by decide) (by omega) ?_
    refine I.bast dX9_feeds_19 rfl (by omega) (by omega) (nar_byte (gSg_rng (gB4_rng _ _))) ?_
    refine J.aload_n 0 dX9_feeds_20 rfl rfl ?_
    refine J.dupR dX9_feeds_21 ?_
    refine I.gI 7 rfl dX9_feeds_22 jcls fX9_156 rfl (by decide) rfl ?_
    refine I.sx ((up_ne (Or.inl (by decide))).trans (by first | exact up_eq _ _ _ _ | rfl)) ?_
    refine I.iconst dX9_feeds_25 ?_
    refine I.add dX9_feeds_26 ?_
    refine I.pI 7 rfl dX9_feeds_27 jcls fX9_156 rfl (by decide) rfl ?_
    refine I.iinc dX9_feeds_30 rfl rfl ?_
    refine J.goto 3 dX9_feeds_33 (by decide) ?_
    refine J.iload_n 2 dX9_feeds_3 rfl rfl ?_
    refine I.if_lt 36 dX9_feeds_4 (by decide) (by omega) (fun h4 => ?_) (fun h4 => ?_)
    · exact absurd h4 (by omega)
    · skip
      refine J.aload_n 0 dX9_feeds_7 rfl rfl ?_
      refine I.getR dX9_feeds_8 jcls fX9_13 rfl (by decide) rfl rfl ?_
      refine J.aload_n 0 dX9_feeds_11 rfl rfl ?_
      refine I.gI 7 rfl dX9_feeds_12 jcls fX9_156 rfl (by decide) rfl ?_
      refine I.sx (by first | exact up_eq _ _ _ _ | rfl) ?_
      refine J.iload_n 1 dX9_feeds_15 rfl rfl ?_
      refine J.iload_n 2 dX9_feeds_16 rfl rfl ?_
      refine I.shrB 16 1 dX9_feeds_17 dX9_feeds_18 (by decide) (by decide) (by omega) ?_
      refine I.bast dX9_feeds_19 rfl (by omega) (by omega) (nar_byte (gSg_rng (gB4_rng _ _))) ?_
      refine J.aload_n 0 dX9_feeds_20 rfl rfl ?_
      refine J.dupR dX9_feeds_21 ?_
      refine I.gI 7 rfl dX9_feeds_22 jcls fX9_156 rfl (by decide) rfl ?_
      refine I.sx ((up_ne (Or.inl (by decide))).trans (by first | exact up_eq _ _ _ _ | rfl)) ?_
      refine I.iconst dX9_feeds_25 ?_
      refine I.add dX9_feeds_26 ?_
      refine I.pI 7 rfl dX9_feeds_27 jcls fX9_156 rfl (by decide) rfl ?_
      refine I.iinc dX9_feeds_30 rfl rfl ?_
      refine J.goto 3 dX9_feeds_33 (by decide) ?_
      refine J.iload_n 2 dX9_feeds_3 rfl rfl ?_
      refine I.if_lt 36 dX9_feeds_4 (by decide) (by omega) (fun h4 => ?_) (fun h4 => ?_)
      · exact absurd h4 (by omega)
      · skip
        refine J.aload_n 0 dX9_feeds_7 rfl rfl ?_
        refine I.getR dX9_feeds_8 jcls fX9_13 rfl (by decide) rfl rfl ?_
        refine J.aload_n 0 dX9_feeds_11 rfl rfl ?_
        refine I.gI 7 rfl dX9_feeds_12 jcls fX9_156 rfl (by decide) rfl ?_
        refine I.sx (by first | exact up_eq _ _ _ _ | rfl) ?_
        refine J.iload_n 1 dX9_feeds_15 rfl rfl ?_
        refine J.iload_n 2 dX9_feeds_16 rfl rfl ?_
        refine I.shrB 8 2 dX9_feeds_17 dX9_feeds_18 (by decide) (by decide) (by omega) ?_
        refine I.bast dX9_feeds_19 rfl (by omega) (by omega) (nar_byte (gSg_rng (gB4_rng _ _))) ?_
        refine J.aload_n 0 dX9_feeds_20 rfl rfl ?_
        refine J.dupR dX9_feeds_21 ?_
        refine I.gI 7 rfl dX9_feeds_22 jcls fX9_156 rfl (by decide) rfl ?_
        refine I.sx ((up_ne (Or.inl (by decide))).trans (by first | exact up_eq _ _ _ _ | rfl)) ?_
        refine I.iconst dX9_feeds_25 ?_
        refine I.add dX9_feeds_26 ?_
        refine I.pI 7 rfl dX9_feeds_27 jcls fX9_156 rfl (by decide) rfl ?_
        refine I.iinc dX9_feeds_30 rfl rfl ?_
        refine J.goto 3 dX9_feeds_33 (by decide) ?_
        refine J.iload_n 2 dX9_feeds_3 rfl rfl ?_
        refine I.if_lt 36 dX9_feeds_4 (by decide) (by omega) (fun h4 => ?_) (fun h4 => ?_)
        · exact absurd h4 (by omega)
        · skip
          refine J.aload_n 0 dX9_feeds_7 rfl rfl ?_
          refine I.getR dX9_feeds_8 jcls fX9_13 rfl (by decide) rfl rfl ?_
          refine J.aload_n 0 dX9_feeds_11 rfl rfl ?_
          refine I.gI 7 rfl dX9_feeds_12 jcls fX9_156 rfl (by decide) rfl ?_
          refine I.sx (by first | exact up_eq _ _ _ _ | rfl) ?_
          refine J.iload_n 1 dX9_feeds_15 rfl rfl ?_
          refine J.iload_n 2 dX9_feeds_16 rfl rfl ?_
          refine I.shrB 0 3 dX9_feeds_17 dX9_feeds_18 (by decide) (by decide) (by omega) ?_
          refine I.bast dX9_feeds_19 rfl (by omega) (by omega) (nar_byte (gSg_rng (gB4_rng _ _))) ?_
          refine J.aload_n 0 dX9_feeds_20 rfl rfl ?_
          refine J.dupR dX9_feeds_21 ?_
          refine I.gI 7 rfl dX9_feeds_22 jcls fX9_156 rfl (by decide) rfl ?_
          refine I.sx ((up_ne (Or.inl (by decide))).trans (by first | exact up_eq _ _ _ _ | rfl)) ?_
          refine I.iconst dX9_feeds_25 ?_
          refine I.add dX9_feeds_26 ?_
          refine I.pI 7 rfl dX9_feeds_27 jcls fX9_156 rfl (by decide) rfl ?_
          refine I.iinc dX9_feeds_30 rfl rfl ?_
          refine J.goto 3 dX9_feeds_33 (by decide) ?_
          refine J.iload_n 2 dX9_feeds_3 rfl rfl ?_
          refine I.if_lt 36 dX9_feeds_4 (by decide) (by omega) (fun h4 => ?_) (fun h4 => ?_)
          · skip
            exact I.vretQ dX9_feeds_36 rfl ⟨fun q i x y => by (repeat rw [up_ne (by omega)]), (up_eq _ _ _ _).trans (by omega), fun i => feed_up (by decide) i⟩
          · exact absurd h4 (by omega)
set_option maxHeartbeats 1000000 in
theorem c_X9_append {Γ : jE} (hl : Γ.1.stackTraces = false) {s : Nat → Int → Int} {ε : jEps} {d : Nat} {w0 : Int} {w1 : Int} {w2 : Int} {w3 : Int} {w4 : Int} {a : AS} (hd : 1 ≤ d) (p0 : MI s a) (p1 : AI a) (p2 : -2147483648 ≤ w0 ∧ w0 < 2147483648) (p3 : -2147483648 ≤ w1 ∧ w1 < 2147483648) (p4 : -2147483648 ≤ w2 ∧ w2 < 2147483648) (p5 : -2147483648 ≤ w3 ∧ w3 < 2147483648) (p6 : -2147483648 ≤ w4 ∧ w4 < 2147483648) : Con Γ (d, 0, 0) mX9_append [.ref 137, .int (iI w0), .int (iI w1), .int (iI w2), .int (iI w3), .int (iI w4)] (jmem s ε) (RQ (fun w s' => (aL a + 20 ≤ 500 ∧ aL a + 20 = w ∧ MI s' (aApp a w0 w1 w2 w3 w4) ∧ s' 137 0 = 0 ∧ LoE s s') ∨ (¬ aL a + 20 ≤ 500 ∧ s' = up s 137 0 1)) ε) X0 := by
  refine Con.ofJ (by decide +kernel) (by simp [Value.category]) (Nat.le_of_ble_eq_true rfl) ?_ hl
  have l0 := p1.2.2.2.2.2.2.1
  have t0 := p0.2.2.2.2.2.1
  have z7 : up s 137 0 0 137 7 = aL a := (up_ne (Or.inr (by decide))).trans t0.1
  have z9 : ∀ i, 0 ≤ i → i < aL a → up s 137 0 0 139 i = gSg (aT a i) := fun i x y => (up_ne (Or.inl (by decide))).trans (t0.2 i x y)
  refine J.aload_n 0 dX9_append_0 rfl rfl ?_
  refine I.iconst dX9_append_1 ?_
  refine I.pI 0 rfl dX9_append_2 jcls fX9_40 rfl (by decide) rfl ?_
  refine J.aload_n 0 dX9_append_5 rfl rfl ?_
  refine I.gI 7 rfl dX9_append_6 jcls fX9_156 rfl (by decide) rfl ?_
  refine I.sx z7 ?_
  refine I.bipush dX9_append_9 (by decide) ?_
  refine I.add dX9_append_11 ?_
  refine I.sipush dX9_append_12 (by decide) ?_
  refine I.icmp_le 24 dX9_append_15 (by decide) (by omega) (by omega) (fun h15 => ?_) (fun h15 => ?_)
  · skip
    refine J.aload_n 0 dX9_append_24 rfl rfl ?_
    refine J.iload_n 1 dX9_append_25 rfl rfl ?_
    refine I.callV1w (d' := d - 1) (mi' := mX9_feeds) dX9_append_26 lX9_222 eX9_feeds rfl rfl (c_X9_feeds (d := d - 1) hl (by omega) (by rw [z7]; omega) (by first | omega | assumption)) (show d - 1 + 1 ≤ d from by omega) (Nat.le_of_ble_eq_true rfl) ?_
    rintro s26 ⟨k26, l26, t26⟩
    have e26 : s26 137 7 = aL a + 4 := l26.trans (by rw [z7] <;> omega)
    have f26 : ∀ i, 0 ≤ i → i < aL a + 4 → s26 139 i = gSg ((gFd (aT a) (aL a) w0) i) := fun i x y => by rw [t26 i, z7]; exact gFdM_eq (l := aL a) z9 i x (by omega)
    refine J.aload_n 0 dX9_append_29 rfl rfl ?_
    refine J.iload_n 2 dX9_append_30 rfl rfl ?_
    refine I.callV1w (d' := d - 1) (mi' := mX9_feeds) dX9_append_31 lX9_222 eX9_feeds rfl rfl (c_X9_feeds (d := d - 1) hl (by omega) (by rw [e26]; omega) (by first | omega | assumption)) (show d - 1 + 1 ≤ d from by omega) (Nat.le_of_ble_eq_true rfl) ?_
    rintro s31 ⟨k31, l31, t31⟩
    have e31 : s31 137 7 = aL a + 8 := l31.trans (by rw [e26] <;> omega)
    have f31 : ∀ i, 0 ≤ i → i < aL a + 8 → s31 139 i = gSg ((gFd (gFd (aT a) (aL a) w0) (aL a + 4) w1) i) := fun i x y => by rw [t31 i, e26]; exact gFdM_eq (l := aL a + 4) f26 i x (by omega)
    refine J.aload_n 0 dX9_append_34 rfl rfl ?_
    refine J.iload_n 3 dX9_append_35 rfl rfl ?_
    refine I.callV1w (d' := d - 1) (mi' := mX9_feeds) dX9_append_36 lX9_222 eX9_feeds rfl rfl (c_X9_feeds (d := d - 1) hl (by omega) (by rw [e31]; omega) (by first | omega | assumption)) (show d - 1 + 1 ≤ d from by omega) (Nat.le_of_ble_eq_true rfl) ?_
    rintro s36 ⟨k36, l36, t36⟩
    have e36 : s36 137 7 = aL a + 12 := l36.trans (by rw [e31] <;> omega)
    have f36 : ∀ i, 0 ≤ i → i < aL a + 12 → s36 139 i = gSg ((gFd (gFd (gFd (aT a) (aL a) w0) (aL a + 4) w1) (aL a + 8) w2) i) := fun i x y => by rw [t36 i, e31]; exact gFdM_eq (l := aL a + 8) f31 i x (by omega)
    refine J.aload_n 0 dX9_append_39 rfl rfl ?_
    refine J.iload dX9_append_40 rfl ?_
    refine I.callV1w (d' := d - 1) (mi' := mX9_feeds) dX9_append_42 lX9_222 eX9_feeds rfl rfl (c_X9_feeds (d := d - 1) hl (by omega) (by rw [e36]; omega) (by first | omega | assumption)) (show d - 1 + 1 ≤ d from by omega) (Nat.le_of_ble_eq_true rfl) ?_
    rintro s42 ⟨k42, l42, t42⟩
    have e42 : s42 137 7 = aL a + 16 := l42.trans (by rw [e36] <;> omega)
    have f42 : ∀ i, 0 ≤ i → i < aL a + 16 → s42 139 i = gSg ((gFd (gFd (gFd (gFd (aT a) (aL a) w0) (aL a + 4) w1) (aL a + 8) w2) (aL a + 12) w3) i) := fun i x y => by rw [t42 i, e36]; exact gFdM_eq (l := aL a + 12) f36 i x (by omega)
    refine J.aload_n 0 dX9_append_45 rfl rfl ?_
    refine J.iload dX9_append_46 rfl ?_
    refine I.callV1w (d' := d - 1) (mi' := mX9_feeds) dX9_append_48 lX9_222 eX9_feeds rfl rfl (c_X9_feeds (d := d - 1) hl (by omega) (by rw [e42]; omega) (by first | omega | assumption)) (show d - 1 + 1 ≤ d from by omega) (Nat.le_of_ble_eq_true rfl) ?_
    rintro s48 ⟨k48, l48, t48⟩
    have e48 : s48 137 7 = aL a + 20 := l48.trans (by rw [e42] <;> omega)
    have f48 : ∀ i, 0 ≤ i → i < aL a + 20 → s48 139 i = gSg ((gFd (gFd (gFd (gFd (gFd (aT a) (aL a) w0) (aL a + 4) w1) (aL a + 8) w2) (aL a + 12) w3) (aL a + 16) w4) i) := fun i x y => by rw [t48 i, e42]; exact gFdM_eq (l := aL a + 16) f42 i x (by omega)
    refine J.aload_n 0 dX9_append_51 rfl rfl ?_
    refine I.gI 7 rfl dX9_append_52 jcls fX9_156 rfl (by decide) rfl ?_
    refine I.sx e48 ?_
    exact I.iretQ dX9_append_55 rfl (Or.inl ⟨by omega, rfl, p0.inp (fun q i x y => (((k48 q i x (by omega)).trans ((k42 q i x (by omega)).trans ((k36 q i x (by omega)).trans ((k31 q i x (by omega)).trans (k26 q i x (by omega))))))).trans (up_ne (by omega))) e48 f48, (fun (q : Nat) (i : Int) (x : q ≠ 139) (y : q ≠ 137 ∨ i ≠ 7) => ((k48 q i x y).trans ((k42 q i x y).trans ((k36 q i x y).trans ((k31 q i x y).trans (k26 q i x y)))))) 137 0 (by decide) (by decide) |>.trans (up_eq _ _ _ _), fun q i z => (((k48 q i (by omega) (by omega)).trans ((k42 q i (by omega) (by omega)).trans ((k36 q i (by omega) (by omega)).trans ((k31 q i (by omega) (by omega)).trans (k26 q i (by omega) (by omega))))))).trans (up_ne (by omega))⟩)
  · skip
    refine J.aload_n 0 dX9_append_18 rfl rfl ?_
    refine I.iconst dX9_append_19 ?_
    refine I.callV1i (d' := d - 1) (mi' := mX9_fails) dX9_append_20 lX9_219 eX9_fails rfl rfl (c_X9_fails (d := d - 1) hl (by omega) ) (show d - 1 + 1 ≤ d from by omega) (Nat.le_of_ble_eq_true rfl) ?_
    exact I.iretQ dX9_append_23 rfl (Or.inr ⟨by omega, up_up⟩)
set_option maxHeartbeats 1000000 in
theorem c_X9_truncate {Γ : jE} (hl : Γ.1.stackTraces = false) {s : Nat → Int → Int} {ε : jEps} {d : Nat} {n : Int} {a : AS} (hd : 0 ≤ d) (p0 : MI s a) (p1 : AI a) (p2 : -2147483648 ≤ n ∧ n < 2147483648) : Con Γ (d, 0, 0) mX9_truncate [.ref 137, .int (iI n)] (jmem s ε) (RW (fun s' => ((0 ≤ n ∧ n ≤ aL a) ∧ MI s' (aIn a (aT a) n) ∧ s' 137 0 = 0 ∧ LoE s s') ∨ (¬ (0 ≤ n ∧ n ≤ aL a) ∧ s' = up s 137 0 1)) ε) X0 := by
  refine Con.ofJ (by decide +kernel) (by simp [Value.category]) (Nat.le_of_ble_eq_true rfl) ?_ hl
  have l0 := p1.2.2.2.2.2.2.1
  have t0 := p0.2.2.2.2.2.1
  have z7 : up s 137 0 0 137 7 = aL a := (up_ne (Or.inr (by decide))).trans t0.1
  have z9 : ∀ i, 0 ≤ i → i < aL a → up s 137 0 0 139 i = gSg (aT a i) := fun i x y => (up_ne (Or.inl (by decide))).trans (t0.2 i x y)
  refine J.aload_n 0 dX9_truncate_0 rfl rfl ?_
  refine I.iconst dX9_truncate_1 ?_
  refine I.pI 0 rfl dX9_truncate_2 jcls fX9_40 rfl (by decide) rfl ?_
  refine J.iload_n 1 dX9_truncate_5 rfl rfl ?_
  refine I.if_lt 17 dX9_truncate_6 (by decide) (by omega) (fun h6 => ?_) (fun h6 => ?_)
  · skip
    refine J.aload_n 0 dX9_truncate_17 rfl rfl ?_
    refine I.iconst dX9_truncate_18 ?_
    refine I.pI 0 rfl dX9_truncate_19 jcls fX9_40 rfl (by decide) rfl ?_
    refine J.goto 30 dX9_truncate_22 (by decide) ?_
    exact I.vretQ dX9_truncate_30 rfl (Or.inr ⟨by omega, up_up⟩)
  · skip
    refine J.iload_n 1 dX9_truncate_9 rfl rfl ?_
    refine J.aload_n 0 dX9_truncate_10 rfl rfl ?_
    refine I.gI 7 rfl dX9_truncate_11 jcls fX9_156 rfl (by decide) rfl ?_
    refine I.sx z7 ?_
    refine I.icmp_le 25 dX9_truncate_14 (by decide) (by omega) (by omega) (fun h14 => ?_) (fun h14 => ?_)
    · skip
      refine J.aload_n 0 dX9_truncate_25 rfl rfl ?_
      refine J.iload_n 1 dX9_truncate_26 rfl rfl ?_
      refine I.pI 7 rfl dX9_truncate_27 jcls fX9_156 rfl (by decide) rfl ?_
      exact I.vretQ dX9_truncate_30 rfl (Or.inl ⟨by omega, p0.inp (fun q i x y => (up_ne (by omega)).trans (up_ne (by omega))) (up_eq _ _ _ _) (fun i x y => by rw [up_ne (by omega), up_ne (by omega)]; exact t0.2 i x (by omega)), (up_ne (by omega)).trans (up_eq _ _ _ _), fun q i x => (up_ne (by omega)).trans (up_ne (by omega))⟩)
    · skip
      refine J.aload_n 0 dX9_truncate_17 rfl rfl ?_
      refine I.iconst dX9_truncate_18 ?_
      refine I.pI 0 rfl dX9_truncate_19 jcls fX9_40 rfl (by decide) rfl ?_
      refine J.goto 30 dX9_truncate_22 (by decide) ?_
      exact I.vretQ dX9_truncate_30 rfl (Or.inr ⟨by omega, up_up⟩)
set_option maxHeartbeats 1000000 in
theorem c_X9_errorKind {Γ : jE} (hl : Γ.1.stackTraces = false) {s : Nat → Int → Int} {ε : jEps} {d : Nat} {a : AS} (hd : 0 ≤ d) (p0 : MI s a) : Con Γ (d, 0, 0) mX9_errorKind [.ref 137] (jmem s ε) (RI (aK a) (up s 137 0 0) ε) X0 := by
  refine Con.ofJ (by decide +kernel) (by simp [Value.category]) (Nat.le_of_ble_eq_true rfl) ?_ hl
  refine J.aload_n 0 dX9_errorKind_0 rfl rfl ?_
  refine I.iconst dX9_errorKind_1 ?_
  refine I.pI 0 rfl dX9_errorKind_2 jcls fX9_40 rfl (by decide) rfl ?_
  refine J.aload_n 0 dX9_errorKind_5 rfl rfl ?_
  refine I.gI 8 rfl dX9_errorKind_6 jcls fX9_228 rfl (by decide) rfl ?_
  refine I.sx ((up_ne (Or.inr (by decide))).trans p0.2.2.2.2.2.2.1) ?_
  exact I.iretI dX9_errorKind_9 rfl (by first | rfl | omega) rfl
set_option maxHeartbeats 1000000 in
theorem c_X9_errorPosition {Γ : jE} (hl : Γ.1.stackTraces = false) {s : Nat → Int → Int} {ε : jEps} {d : Nat} {a : AS} (hd : 0 ≤ d) (p0 : MI s a) : Con Γ (d, 0, 0) mX9_errorPosition [.ref 137] (jmem s ε) (RI (aP a) (up s 137 0 0) ε) X0 := by
  refine Con.ofJ (by decide +kernel) (by simp [Value.category]) (Nat.le_of_ble_eq_true rfl) ?_ hl
  refine J.aload_n 0 dX9_errorPosition_0 rfl rfl ?_
  refine I.iconst dX9_errorPosition_1 ?_
  refine I.pI 0 rfl dX9_errorPosition_2 jcls fX9_40 rfl (by decide) rfl ?_
  refine J.aload_n 0 dX9_errorPosition_5 rfl rfl ?_
  refine I.gI 9 rfl dX9_errorPosition_6 jcls fX9_25 rfl (by decide) rfl ?_
  refine I.sx ((up_ne (Or.inr (by decide))).trans p0.2.2.2.2.2.2.2) ?_
  exact I.iretI dX9_errorPosition_9 rfl (by first | rfl | omega) rfl
set_option maxHeartbeats 1000000 in
theorem k_X9_formatChain_26 {Γ : jE} (hl : Γ.1.stackTraces = false) {s : Nat → Int → Int} {ε : jEps} {d : Nat} {c : Int} {a : AS} (hd : 3 ≤ d) (p0 : MI s a) (p1 : AI a) (p2 : -2147483648 ≤ c ∧ c < 2147483648) {mc ms : Nat} {P : Option Value → jM → Prop} {X : String → jM → Prop} : ∀ (k : Nat) {z : Nat → Int → Int} {t : Int} {x : List Int} (q0 : ((k : Nat) : Int) = (aF a) (37 + c) - (aF a) (34 + c) + 1 - t) (q1 : 0 ≤ t) (q2 : TX z 140 137 11 x) (q3 : ∀ q j, q ≠ 140 → (q ≠ 137 ∨ j ≠ 0 ∧ j ≠ 11) → z q j = s q j) (q4 : (x.length : Int) ≤ 3 * t) (qc : 0 ≤ c ∧ c < (aF a) (18 + (aF a) 1)) (qt : z 137 0 = 0) (kx : ∀ s', (TX s' 140 137 11 (foldF (gChS (aF a) c) k t x) ∧ (∀ q j, q ≠ 140 → (q ≠ 137 ∨ j ≠ 0 ∧ j ≠ 11) → s' q j = s q j) ∧ s' 137 0 = 0) → J Γ (d, mc, ms) mX9_formatChain 83 [some (.ref 137), some (.int (iI c)), none] [] (jmem s' ε) P X), J Γ (d, mc, ms) mX9_formatChain 26 [some (.ref 137), some (.int (iI c)), some (.int (iI (t)))] [] (jmem z ε) P X := by
  have mw := MI.w p0 p1
  have hw := mw.w
  have fl := p1.1.1
  have fv := p1.1.2
  have n8 := p1.2.1
  have m3 := p0.2.2.1
  have f5 := p1.1.2.moves
  intro k
  induction k with
  | zero =>
    intro z t x q0 q1 q2 q3 q4 qc qt kx
    have e := MW.e mw c qc.1 qc.2
    have rz : MW z (aF a) := mw.tx q3
    refine J.iload_n 2 dX9_formatChain_26 rfl rfl ?_
    refine J.aload_n 0 dX9_formatChain_27 rfl rfl ?_
    refine J.iload_n 1 dX9_formatChain_28 rfl rfl ?_
    refine I.callV1i (d' := d - 1) (mi' := mX9_lengthOf) dX9_formatChain_29 lX9_71 eX9_lengthOf rfl rfl (c_X9_lengthOf (d := d - 1) hl (by omega) rz (by first | omega | assumption)) (show d - 1 + 1 ≤ d from by omega) (Nat.le_of_ble_eq_true rfl) ?_
    refine I.icmp_ge 83 dX9_formatChain_32 (by decide) (by omega) (by omega) (fun h32 => ?_) (fun h32 => ?_)
    · skip
      exact J.fgt (by exact ⟨Or.inr rfl, Or.inr rfl, Or.inl rfl, trivial⟩) (kx _ ⟨q2, q3, qt⟩)
    · exact absurd h32 (by omega)
  | succ k ih =>
    intro z t x q0 q1 q2 q3 q4 qc qt kx
    have e := MW.e mw c qc.1 qc.2
    have rz : MW z (aF a) := mw.tx q3
    refine J.iload_n 2 dX9_formatChain_26 rfl rfl ?_
    refine J.aload_n 0 dX9_formatChain_27 rfl rfl ?_
    refine J.iload_n 1 dX9_formatChain_28 rfl rfl ?_
    refine I.callV1i (d' := d - 1) (mi' := mX9_lengthOf) dX9_formatChain_29 lX9_71 eX9_lengthOf rfl rfl (c_X9_lengthOf (d := d - 1) hl (by omega) rz (by first | omega | assumption)) (show d - 1 + 1 ≤ d from by omega) (Nat.le_of_ble_eq_true rfl) ?_
    refine I.icmp_ge 83 dX9_formatChain_32 (by decide) (by omega) (by omega) (fun h32 => ?_) (fun h32 => ?_)
    · exact absurd h32 (by omega)
    · skip
      have tg := gT_rng fl fv qc.1 qc.2 q1 (by omega)
      have q21 := q2.1
      refine J.iload_n 2 dX9_formatChain_35 rfl rfl ?_
      refine I.if_le 45 dX9_formatChain_36 (by decide) (by omega) (fun h36 => ?_) (fun h36 => ?_)
      · skip
        have eA : (if 0 < t then x ++ [45] else x) = x := if_neg (by omega)
        refine J.aload_n 0 dX9_formatChain_45 rfl rfl ?_
        refine I.bipush dX9_formatChain_46 (by decide) ?_
        refine J.aload_n 0 dX9_formatChain_48 rfl rfl ?_
        refine J.iload_n 1 dX9_formatChain_49 rfl rfl ?_
        refine J.iload_n 2 dX9_formatChain_50 rfl rfl ?_
        refine I.callV2i (d' := d - 1) (mi' := mX9_tileOf) dX9_formatChain_51 lX9_256 eX9_tileOf rfl rfl (c_X9_tileOf (d := d - 1) hl (by omega) (by first | exact rz | exact rz.tx fun q j x y => by (repeat rw [up_ne (by omega)])) (by first | omega | assumption) (by first | omega | assumption)) (show d - 1 + 1 ≤ d from by omega) (Nat.le_of_ble_eq_true rfl) ?_
        refine I.bipush dX9_formatChain_54 (by decide) ?_
        refine I.div dX9_formatChain_56 (by omega) (by omega) ?_
        refine I.add dX9_formatChain_57 ?_
        refine I.callV1v (d' := d - 1) (mi' := mX9_writes) dX9_formatChain_58 lX9_298 eX9_writes rfl rfl (c_X9_writes (d := d - 1) hl (by omega) (by (repeat rw [up_eq]); omega) (by first | omega | assumption)) (show d - 1 + 1 ≤ d from by omega) (Nat.le_of_ble_eq_true rfl) ?_
        refine J.aload_n 0 dX9_formatChain_61 rfl rfl ?_
        refine I.bipush dX9_formatChain_62 (by decide) ?_
        refine J.aload_n 0 dX9_formatChain_64 rfl rfl ?_
        refine J.iload_n 1 dX9_formatChain_65 rfl rfl ?_
        refine J.iload_n 2 dX9_formatChain_66 rfl rfl ?_
        refine I.callV2i (d' := d - 1) (mi' := mX9_tileOf) dX9_formatChain_67 lX9_256 eX9_tileOf rfl rfl (c_X9_tileOf (d := d - 1) hl (by omega) (rz.tx fun q j x y => by (repeat rw [up_ne (by omega)])) (by first | omega | assumption) (by first | omega | assumption)) (show d - 1 + 1 ≤ d from by omega) (Nat.le_of_ble_eq_true rfl) ?_
        refine I.bipush dX9_formatChain_70 (by decide) ?_
        refine I.rem dX9_formatChain_72 (by omega) (by omega) ?_
        refine I.add dX9_formatChain_73 ?_
        refine I.callV1v (d' := d - 1) (mi' := mX9_writes) dX9_formatChain_74 lX9_298 eX9_writes rfl rfl (c_X9_writes (d := d - 1) hl (by omega) (by (repeat rw [up_eq]); omega) (by first | omega | assumption)) (show d - 1 + 1 ≤ d from by omega) (Nat.le_of_ble_eq_true rfl) ?_
        refine I.iinc dX9_formatChain_77 rfl rfl ?_
        refine J.goto 26 dX9_formatChain_80 (by decide) ?_
        exact J.fgt (by exact ⟨Or.inr rfl, Or.inr rfl, Or.inr rfl, trivial⟩) (ih (x := gChS (aF a) c t x) (by omega) (by omega) (by unfold gChS; rw [eA]; first | exact TX.add (by decide) (TX.add (by decide) q2) | exact TX.add (by decide) (TX.add (by decide) (TX.add (by decide) q2))) (fun q j h1 h2 => by (repeat rw [up_ne (by omega)]); exact q3 q j h1 h2) (by have := @gChS_len (aF a) c t x; omega) qc (by (repeat rw [up_ne (by omega)]); exact qt) kx)
      · skip
        have eA : (if 0 < t then x ++ [45] else x) = x ++ [45] := if_pos h36
        refine J.aload_n 0 dX9_formatChain_39 rfl rfl ?_
        refine I.bipush dX9_formatChain_40 (by decide) ?_
        refine I.callV1v (d' := d - 1) (mi' := mX9_writes) dX9_formatChain_42 lX9_298 eX9_writes rfl rfl (c_X9_writes (d := d - 1) hl (by omega) (by (repeat rw [up_eq]); omega) (by first | omega | assumption)) (show d - 1 + 1 ≤ d from by omega) (Nat.le_of_ble_eq_true rfl) ?_
        refine J.aload_n 0 dX9_formatChain_45 rfl rfl ?_
        refine I.bipush dX9_formatChain_46 (by decide) ?_
        refine J.aload_n 0 dX9_formatChain_48 rfl rfl ?_
        refine J.iload_n 1 dX9_formatChain_49 rfl rfl ?_
        refine J.iload_n 2 dX9_formatChain_50 rfl rfl ?_
        refine I.callV2i (d' := d - 1) (mi' := mX9_tileOf) dX9_formatChain_51 lX9_256 eX9_tileOf rfl rfl (c_X9_tileOf (d := d - 1) hl (by omega) (by first | exact rz | exact rz.tx fun q j x y => by (repeat rw [up_ne (by omega)])) (by first | omega | assumption) (by first | omega | assumption)) (show d - 1 + 1 ≤ d from by omega) (Nat.le_of_ble_eq_true rfl) ?_
        refine I.bipush dX9_formatChain_54 (by decide) ?_
        refine I.div dX9_formatChain_56 (by omega) (by omega) ?_
        refine I.add dX9_formatChain_57 ?_
        refine I.callV1v (d' := d - 1) (mi' := mX9_writes) dX9_formatChain_58 lX9_298 eX9_writes rfl rfl (c_X9_writes (d := d - 1) hl (by omega) (by (repeat rw [up_eq]); omega) (by first | omega | assumption)) (show d - 1 + 1 ≤ d from by omega) (Nat.le_of_ble_eq_true rfl) ?_
        refine J.aload_n 0 dX9_formatChain_61 rfl rfl ?_
        refine I.bipush dX9_formatChain_62 (by decide) ?_
        refine J.aload_n 0 dX9_formatChain_64 rfl rfl ?_
        refine J.iload_n 1 dX9_formatChain_65 rfl rfl ?_
        refine J.iload_n 2 dX9_formatChain_66 rfl rfl ?_
        refine I.callV2i (d' := d - 1) (mi' := mX9_tileOf) dX9_formatChain_67 lX9_256 eX9_tileOf rfl rfl (c_X9_tileOf (d := d - 1) hl (by omega) (rz.tx fun q j x y => by (repeat rw [up_ne (by omega)])) (by first | omega | assumption) (by first | omega | assumption)) (show d - 1 + 1 ≤ d from by omega) (Nat.le_of_ble_eq_true rfl) ?_
        refine I.bipush dX9_formatChain_70 (by decide) ?_
        refine I.rem dX9_formatChain_72 (by omega) (by omega) ?_
        refine I.add dX9_formatChain_73 ?_
        refine I.callV1v (d' := d - 1) (mi' := mX9_writes) dX9_formatChain_74 lX9_298 eX9_writes rfl rfl (c_X9_writes (d := d - 1) hl (by omega) (by (repeat rw [up_eq]); omega) (by first | omega | assumption)) (show d - 1 + 1 ≤ d from by omega) (Nat.le_of_ble_eq_true rfl) ?_
        refine I.iinc dX9_formatChain_77 rfl rfl ?_
        refine J.goto 26 dX9_formatChain_80 (by decide) ?_
        exact J.fgt (by exact ⟨Or.inr rfl, Or.inr rfl, Or.inr rfl, trivial⟩) (ih (x := gChS (aF a) c t x) (by omega) (by omega) (by unfold gChS; rw [eA]; first | exact TX.add (by decide) (TX.add (by decide) q2) | exact TX.add (by decide) (TX.add (by decide) (TX.add (by decide) q2))) (fun q j h1 h2 => by (repeat rw [up_ne (by omega)]); exact q3 q j h1 h2) (by have := @gChS_len (aF a) c t x; omega) qc (by (repeat rw [up_ne (by omega)]); exact qt) kx)
set_option maxHeartbeats 1000000 in
theorem c_X9_formatChain {Γ : jE} (hl : Γ.1.stackTraces = false) {s : Nat → Int → Int} {ε : jEps} {d : Nat} {c : Int} {a : AS} (hd : 3 ≤ d) (p0 : MI s a) (p1 : AI a) (p2 : -2147483648 ≤ c ∧ c < 2147483648) : Con Γ (d, 0, 0) mX9_formatChain [.ref 137, .int (iI c)] (jmem s ε) (RQ (fun w s' => ((0 ≤ c ∧ c < (aF a) (18 + (aF a) 1)) ∧ ((gChT (aF a) c).length : Int) = w ∧ MI s' (aTxt a (gChT (aF a) c)) ∧ s' 137 0 = 0 ∧ LoE s s') ∨ (¬ (0 ≤ c ∧ c < (aF a) (18 + (aF a) 1)) ∧ s' = up s 137 0 1)) ε) X0 := by
  refine Con.ofJ (by decide +kernel) (by simp [Value.category]) (Nat.le_of_ble_eq_true rfl) ?_ hl
  have mw := MI.w p0 p1
  have hw := mw.w
  have fl := p1.1.1
  have fv := p1.1.2
  have n8 := p1.2.1
  have m3 := p0.2.2.1
  have f5 := p1.1.2.moves
  refine J.aload_n 0 dX9_formatChain_0 rfl rfl ?_
  refine I.iconst dX9_formatChain_1 ?_
  refine I.pI 0 rfl dX9_formatChain_2 jcls fX9_40 rfl (by decide) rfl ?_
  refine J.aload_n 0 dX9_formatChain_5 rfl rfl ?_
  refine J.iload_n 1 dX9_formatChain_6 rfl rfl ?_
  refine I.callV1i (d' := d - 1) (mi' := mX9_isChain) dX9_formatChain_7 lX9_216 eX9_isChain rfl rfl (c_X9_isChain (d := d - 1) hl (by omega) (mw.th) (by first | omega | assumption)) (show d - 1 + 1 ≤ d from by omega) (Nat.le_of_ble_eq_true rfl) ?_
  refine I.if_neB 19 dX9_formatChain_10 (by decide) (fun h10 => ?_) (fun h10 => ?_)
  · skip
    have e := MW.e mw c h10.1 h10.2
    refine J.aload_n 0 dX9_formatChain_19 rfl rfl ?_
    refine I.iconst dX9_formatChain_20 ?_
    refine I.pI 11 rfl dX9_formatChain_21 jcls fX9_295 rfl (by decide) rfl ?_
    refine I.iconst dX9_formatChain_24 ?_
    refine J.istore_n 2 dX9_formatChain_25 rfl (by decide) rfl ?_
    refine J.fgt (by exact ⟨Or.inr rfl, Or.inr rfl, Or.inr rfl, trivial⟩) (k_X9_formatChain_26 hl (by omega) p0 p1 p2 (((aF a) (37 + c) - (aF a) (34 + c) + 1).toNat) (by omega) (by omega) (TX.nil (up_eq _ _ _ _)) (fun q j h1 h2 => (up_ne (by omega)).trans (up_ne (by omega))) (by simp) h10 ((up_ne (by omega)).trans (up_eq _ _ _ _)) ?_)
    rintro s26 h26
    refine J.aload_n 0 dX9_formatChain_83 rfl rfl ?_
    refine I.gI 11 rfl dX9_formatChain_84 jcls fX9_295 rfl (by decide) rfl ?_
    refine I.sx h26.1.1 ?_
    exact I.iretQ dX9_formatChain_87 rfl (Or.inl ⟨h10, rfl, p0.txt (fun q j x y z u v => h26.2.1 q j y (by omega)) h26.1, h26.2.2, fun q j x => h26.2.1 q j (by omega) (by omega)⟩)
  · skip
    refine J.aload_n 0 dX9_formatChain_13 rfl rfl ?_
    refine I.iconst dX9_formatChain_14 ?_
    refine I.callV1i (d' := d - 1) (mi' := mX9_fails) dX9_formatChain_15 lX9_219 eX9_fails rfl rfl (c_X9_fails (d := d - 1) hl (by omega) ) (show d - 1 + 1 ≤ d from by omega) (Nat.le_of_ble_eq_true rfl) ?_
    exact I.iretQ dX9_formatChain_18 rfl (Or.inr ⟨h10, up_up⟩)
set_option maxHeartbeats 1000000 in
theorem c_X9_formatLog {Γ : jE} (hl : Γ.1.stackTraces = false) {s : Nat → Int → Int} {ε : jEps} {d : Nat} {a : AS} (hd : 2 ≤ d) (p0 : MI s a) (p1 : AI a) : Con Γ (d, 0, 0) mX9_formatLog [.ref 137] (jmem s ε) (RQ (fun w s' => ((gLogT (aF a) 0).length : Int) = w ∧ MI s' (aTxt a (gLogT (aF a) 0)) ∧ s' 137 0 = 0 ∧ LoE s s') ε) X0 := by
  refine Con.ofJ (by decide +kernel) (by simp [Value.category]) (Nat.le_of_ble_eq_true rfl) ?_ hl
  have mw := MI.w p0 p1
  have hw := mw.w
  have fl := p1.1.1
  have fv := p1.1.2
  have n8 := p1.2.1
  have m3 := p0.2.2.1
  have f5 := p1.1.2.moves
  refine J.aload_n 0 dX9_formatLog_0 rfl rfl ?_
  refine I.iconst dX9_formatLog_1 ?_
  refine I.pI 0 rfl dX9_formatLog_2 jcls fX9_40 rfl (by decide) rfl ?_
  refine J.aload_n 0 dX9_formatLog_5 rfl rfl ?_
  refine I.iconst dX9_formatLog_6 ?_
  refine I.callV1w (d' := d - 1) (mi' := mX9_writesLog) dX9_formatLog_7 lX9_301 eX9_writesLog rfl rfl (c_X9_writesLog (d := d - 1) hl (by omega) (mw.th) (by first | omega | assumption)) (show d - 1 + 1 ≤ d from by omega) (Nat.le_of_ble_eq_true rfl) ?_
  rintro s7 ⟨t7, w7⟩
  refine J.aload_n 0 dX9_formatLog_10 rfl rfl ?_
  refine I.gI 11 rfl dX9_formatLog_11 jcls fX9_295 rfl (by decide) rfl ?_
  refine I.sx t7.1 ?_
  exact I.iretQ dX9_formatLog_14 rfl ⟨rfl, p0.txt (fun q j x y z u v => (w7 q j y (by omega)).trans (up_ne (by omega))) t7, (w7 _ _ (by decide) (by decide)).trans (up_eq _ _ _ _), fun q j x => (w7 q j (by omega) (by omega)).trans (up_ne (by omega))⟩
set_option maxHeartbeats 1000000 in
theorem c_X9_formatOptimalLine {Γ : jE} (hl : Γ.1.stackTraces = false) {s : Nat → Int → Int} {ε : jEps} {d : Nat} {a : AS} (hd : 129 ≤ d) (p0 : MI s a) (p1 : AI a) : Con Γ (d, 0, 0) mX9_formatOptimalLine [.ref 137] (jmem s ε) (RQ (fun w s' => ((gLogT (gRun 42 (aF a)) ((aF a) 5)).length : Int) = w ∧ MI s' (aTxt a (gLogT (gRun 42 (aF a)) ((aF a) 5))) ∧ s' 137 0 = 0 ∧ LoE s s') ε) X0 := by
  refine Con.ofJ (by decide +kernel) (by simp [Value.category]) (Nat.le_of_ble_eq_true rfl) ?_ hl
  have mw := MI.w p0 p1
  have hw := mw.w
  have fl := p1.1.1
  have fv := p1.1.2
  have n8 := p1.2.1
  have m3 := p0.2.2.1
  have f5 := p1.1.2.moves
  have gr := @gRun_5 48 (aF a)
  have cr := @gCnt_rng 48 (aF a)
  have g48 := (gRun_48 fl fv).1
  refine J.aload_n 0 dX9_formatOptimalLine_0 rfl rfl ?_
  refine I.iconst dX9_formatOptimalLine_1 ?_
  refine I.pI 0 rfl dX9_formatOptimalLine_2 jcls fX9_40 rfl (by decide) rfl ?_
  refine J.aload_n 0 dX9_formatOptimalLine_5 rfl rfl ?_
  refine I.iconst dX9_formatOptimalLine_6 ?_
  refine I.callV1i (d' := d - 1) (mi' := mX9_get) dX9_formatOptimalLine_7 lX9_46 eX9_get rfl rfl (c_X9_get (d := d - 1) hl (by omega) (MW.th mw).m (by first | omega | assumption)) (show d - 1 + 1 ≤ d from by omega) (Nat.le_of_ble_eq_true rfl) ?_
  refine J.istore_n 1 dX9_formatOptimalLine_10 rfl (by decide) rfl ?_
  refine J.aload_n 0 dX9_formatOptimalLine_11 rfl rfl ?_
  refine I.callV0w (d' := d - 1) (mi' := mX9_tries) dX9_formatOptimalLine_12 lX9_286 eX9_tries rfl rfl (c_X9_tries (d := d - 1) hl (by omega) (mw.th) ((up_ne (by omega)).trans p0.1) (up_eq _ _ _ _)) (show d - 1 + 1 ≤ d from by omega) (Nat.le_of_ble_eq_true rfl) ?_
  rintro s12 ⟨t12, r12, i12⟩
  refine J.aload_n 0 dX9_formatOptimalLine_15 rfl rfl ?_
  refine I.bipush dX9_formatOptimalLine_16 (by decide) ?_
  refine I.callV1q (d' := d - 1) (mi' := mX9_goesAlong) dX9_formatOptimalLine_18 lX9_289 eX9_goesAlong rfl rfl (c_X9_goesAlong (d := d - 1) hl (by omega) r12 i12 (by first | omega | assumption)) (show d - 1 + 1 ≤ d from by omega) (Nat.le_of_ble_eq_true rfl) ?_
  rintro _ s18 ⟨rfl, r18, i18, w18⟩
  refine J.pop dX9_formatOptimalLine_21 ?_
  refine J.aload_n 0 dX9_formatOptimalLine_22 rfl rfl ?_
  refine J.iload_n 1 dX9_formatOptimalLine_23 rfl rfl ?_
  refine I.callV1w (d' := d - 1) (mi' := mX9_writesLog) dX9_formatOptimalLine_24 lX9_301 eX9_writesLog rfl rfl (c_X9_writesLog (d := d - 1) hl (by omega) r18 (by show 0 ≤ aF a 5 ∧ aF a 5 ≤ gRun 48 (aF a) 5; omega)) (show d - 1 + 1 ≤ d from by omega) (Nat.le_of_ble_eq_true rfl) ?_
  rintro s24 ⟨t24, w24⟩
  have tf := t12.run w18
  have tx : TX (up s24 137 2 0) 140 137 11 (gLogT (gRun 42 (aF a)) ((aF a) 5)) := by rw [← g48]; exact t24.congr (up_ne (by omega)) (fun i => up_ne (by omega))
  have fr : ∀ q j, q ≠ 138 → q ≠ 140 → q ≠ 141 → (q ≠ 137 ∨ j ≠ 0 ∧ j ≠ 2 ∧ j ≠ 11) → up s24 137 2 0 q j = s q j := fun q j x y z u => by
    rw [up_ne (by omega), w24 q j y (by omega)]
    by_cases e : q = 137
    · subst e; rw [tf.2.1 j (by omega) (by omega)]; exact up_ne (by omega)
    · rw [tf.1 q j e x z]; exact up_ne (by omega)
  refine J.aload_n 0 dX9_formatOptimalLine_27 rfl rfl ?_
  refine I.iconst dX9_formatOptimalLine_28 ?_
  refine I.pI 2 rfl dX9_formatOptimalLine_29 jcls fX9_43 rfl (by decide) rfl ?_
  refine J.aload_n 0 dX9_formatOptimalLine_32 rfl rfl ?_
  refine I.gI 11 rfl dX9_formatOptimalLine_33 jcls fX9_295 rfl (by decide) rfl ?_
  refine I.sx tx.1 ?_
  exact I.iretQ dX9_formatOptimalLine_36 rfl ⟨rfl, p0.txt (fun q j x y z u v => by by_cases e : q = 138; subst e; rw [up_ne (by omega), w24 _ _ (by decide) (Or.inl (by decide)), tf.2.2.2.2 j (by omega)]; exact up_ne (by omega); by_cases e2 : q = 137 ∧ j = 2; rw [up_eqq e2, e2.1, e2.2]; exact p0.1.symm; exact fr q j e y (by omega) (by omega)) tx, (up_ne (by omega)).trans ((w24 _ _ (by decide) (by decide)).trans tf.2.2.2.1), fun q j x => fr q j (by omega) (by omega) (by omega) (by omega)⟩
set_option maxHeartbeats 1000000 in
theorem c_X9_formattedCharacter {Γ : jE} (hl : Γ.1.stackTraces = false) {s : Nat → Int → Int} {ε : jEps} {d : Nat} {i : Int} {a : AS} (hd : 1 ≤ d) (p0 : MI s a) (p1 : AI a) (p2 : -2147483648 ≤ i ∧ i < 2147483648) : Con Γ (d, 0, 0) mX9_formattedCharacter [.ref 137, .int (iI i)] (jmem s ε) (RQ (fun w s' => ((0 ≤ i ∧ i < ((aX a).length : Int)) ∧ (aX a).getD i.toNat 0 = w ∧ s' = up s 137 0 0) ∨ (¬ (0 ≤ i ∧ i < ((aX a).length : Int)) ∧ s' = up s 137 0 1)) ε) X0 := by
  refine Con.ofJ (by decide +kernel) (by simp [Value.category]) (Nat.le_of_ble_eq_true rfl) ?_ hl
  have xx := p1.2.2.2.2.2.1
  have tx := p0.2.2.2.2.1
  refine J.aload_n 0 dX9_formattedCharacter_0 rfl rfl ?_
  refine I.iconst dX9_formattedCharacter_1 ?_
  refine I.pI 0 rfl dX9_formattedCharacter_2 jcls fX9_40 rfl (by decide) rfl ?_
  refine J.iload_n 1 dX9_formattedCharacter_5 rfl rfl ?_
  refine I.if_lt 17 dX9_formattedCharacter_6 (by decide) (by omega) (fun h6 => ?_) (fun h6 => ?_)
  · skip
    refine J.aload_n 0 dX9_formattedCharacter_17 rfl rfl ?_
    refine I.iconst dX9_formattedCharacter_18 ?_
    refine I.callV1i (d' := d - 1) (mi' := mX9_fails) dX9_formattedCharacter_19 lX9_219 eX9_fails rfl rfl (c_X9_fails (d := d - 1) hl (by omega) ) (show d - 1 + 1 ≤ d from by omega) (Nat.le_of_ble_eq_true rfl) ?_
    refine I.i2c dX9_formattedCharacter_22 (by omega) ?_
    refine J.goto 32 dX9_formattedCharacter_23 (by decide) ?_
    exact I.cretQ dX9_formattedCharacter_32 rfl (by first | exact gr | omega) (Or.inr ⟨by omega, up_up⟩)
  · skip
    refine J.iload_n 1 dX9_formattedCharacter_9 rfl rfl ?_
    refine J.aload_n 0 dX9_formattedCharacter_10 rfl rfl ?_
    refine I.gI 11 rfl dX9_formattedCharacter_11 jcls fX9_295 rfl (by decide) rfl ?_
    refine I.sx ((up_ne (Or.inr (by decide))).trans tx.1) ?_
    refine I.icmp_lt 26 dX9_formattedCharacter_14 (by decide) (by omega) (by omega) (fun h14 => ?_) (fun h14 => ?_)
    · skip
      have gi := tx.2 i.toNat (by omega)
      rw [Int.toNat_of_nonneg h6] at gi
      have gr := xx.2 _ (getD_mem (show i.toNat < (aX a).length by omega))
      refine J.aload_n 0 dX9_formattedCharacter_26 rfl rfl ?_
      refine I.getR dX9_formattedCharacter_27 jcls fX9_17 rfl (by decide) rfl rfl ?_
      refine J.iload_n 1 dX9_formattedCharacter_30 rfl rfl ?_
      refine I.cald dX9_formattedCharacter_31 rfl (by omega) (by omega) ?_
      refine I.sx ((up_ne (Or.inl (by decide))).trans gi) ?_
      exact I.cretQ dX9_formattedCharacter_32 rfl (by first | exact gr | omega) (Or.inl ⟨by omega, rfl, rfl⟩)
    · skip
      refine J.aload_n 0 dX9_formattedCharacter_17 rfl rfl ?_
      refine I.iconst dX9_formattedCharacter_18 ?_
      refine I.callV1i (d' := d - 1) (mi' := mX9_fails) dX9_formattedCharacter_19 lX9_219 eX9_fails rfl rfl (c_X9_fails (d := d - 1) hl (by omega) ) (show d - 1 + 1 ≤ d from by omega) (Nat.le_of_ble_eq_true rfl) ?_
      refine I.i2c dX9_formattedCharacter_22 (by omega) ?_
      refine J.goto 32 dX9_formattedCharacter_23 (by decide) ?_
      exact I.cretQ dX9_formattedCharacter_32 rfl (by first | exact gr | omega) (Or.inr ⟨by omega, up_up⟩)
