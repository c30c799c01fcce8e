set_option maxHeartbeats 1000000 in
theorem c_X8_addWord {Γ : jE} (hl : Γ.1.stackTraces = false) {s : Nat → Int → Int} {ε : jEps} {d : Nat} {z : Int} (hd : 1 ≤ d) (p0 : 0 ≤ s 0 1 ∧ s 0 1 + 4 ≤ 500) (p1 : -2147483648 ≤ z ∧ z < 2147483648) : Con Γ (d, 0, 0) mX8_addWord [.ref 0, .int (iI z)] (jmem s ε) (RW (fun s' => (∀ q i, q ≠ 1 → (q ≠ 0 ∨ i ≠ 1) → s' q i = s q i) ∧ s' 0 1 = s 0 1 + 4 ∧ ∀ i, s' 1 i = gFd (s 1) (s 0 1) z i) ε) X0 := by
  refine Con.ofJ (by decide +kernel) (by simp [Value.category]) (Nat.le_of_ble_eq_true rfl) ?_ hl
  refine I.bipush dX8_addWord_0 (by decide) ?_
  refine J.istore_n 2 dX8_addWord_2 rfl (by decide) rfl ?_
  refine J.iload_n 2 dX8_addWord_3 rfl rfl ?_
  refine I.if_lt 41 dX8_addWord_4 (by decide) (by omega) (fun h4 => ?_) (fun h4 => ?_)
  · exact absurd h4 (by omega)
  · skip
    refine J.aload_n 0 dX8_addWord_7 rfl rfl ?_
    refine I.getR dX8_addWord_8 jcls fX8_9 rfl (by decide) rfl rfl ?_
    refine J.aload_n 0 dX8_addWord_11 rfl rfl ?_
    refine I.gI 1 rfl dX8_addWord_12 jcls fX8_68 rfl (by decide) rfl ?_
    refine I.sx (by first | exact up_eq _ _ _ _ | rfl) ?_
    refine J.iload_n 1 dX8_addWord_15 rfl rfl ?_
    refine J.iload_n 2 dX8_addWord_16 rfl rfl ?_
    refine I.ushrB 24 0 dX8_addWord_17 dX8_addWord_18 dX8_addWord_21 (by decide) (by decide) (by omega) ?_
    refine I.callS3v (d' := d - 1) (mi' := mX8_put) dX8_addWord_22 lX8_82 eX8_put rfl (c_X8_put (d := d - 1) hl (by omega) rfl (by first | omega | assumption) (by first | omega | assumption)) (show d - 1 + 1 ≤ d from by omega) (Nat.le_of_ble_eq_true rfl) ?_
    refine J.aload_n 0 dX8_addWord_25 rfl rfl ?_
    refine J.dupR dX8_addWord_26 ?_
    refine I.gI 1 rfl dX8_addWord_27 jcls fX8_68 rfl (by decide) rfl ?_
    refine I.sx ((up_ne (Or.inl (by decide))).trans (by first | exact up_eq _ _ _ _ | rfl)) ?_
    refine I.iconst dX8_addWord_30 ?_
    refine I.add dX8_addWord_31 ?_
    refine I.pI 1 rfl dX8_addWord_32 jcls fX8_68 rfl (by decide) rfl ?_
    refine I.iinc dX8_addWord_35 rfl rfl ?_
    refine J.goto 3 dX8_addWord_38 (by decide) ?_
    refine J.iload_n 2 dX8_addWord_3 rfl rfl ?_
    refine I.if_lt 41 dX8_addWord_4 (by decide) (by omega) (fun h4 => ?_) (fun h4 => ?_)
    · exact absurd h4 (by omega)
    · skip
      refine J.aload_n 0 dX8_addWord_7 rfl rfl ?_
      refine I.getR dX8_addWord_8 jcls fX8_9 rfl (by decide) rfl rfl ?_
      refine J.aload_n 0 dX8_addWord_11 rfl rfl ?_
      refine I.gI 1 rfl dX8_addWord_12 jcls fX8_68 rfl (by decide) rfl ?_
      refine I.sx (by first | exact up_eq _ _ _ _ | rfl) ?_
      refine J.iload_n 1 dX8_addWord_15 rfl rfl ?_
      refine J.iload_n 2 dX8_addWord_16 rfl rfl ?_
      refine I.ushrB 16 1 dX8_addWord_17 dX8_addWord_18 dX8_addWord_21 (by decide) (by decide) (by omega) ?_
      refine I.callS3v (d' := d - 1) (mi' := mX8_put) dX8_addWord_22 lX8_82 eX8_put rfl (c_X8_put (d := d - 1) hl (by omega) rfl (by first | omega | assumption) (by first | omega | assumption)) (show d - 1 + 1 ≤ d from by omega) (Nat.le_of_ble_eq_true rfl) ?_
      refine J.aload_n 0 dX8_addWord_25 rfl rfl ?_
      refine J.dupR dX8_addWord_26 ?_
      refine I.gI 1 rfl dX8_addWord_27 jcls fX8_68 rfl (by decide) rfl ?_
      refine I.sx ((up_ne (Or.inl (by decide))).trans (by first | exact up_eq _ _ _ _ | rfl)) ?_
      refine I.iconst dX8_addWord_30 ?_
      refine I.add dX8_addWord_31 ?_
      refine I.pI 1 rfl dX8_addWord_32 jcls fX8_68 rfl (by decide) rfl ?_
      refine I.iinc dX8_addWord_35 rfl rfl ?_
      refine J.goto 3 dX8_addWord_38 (by decide) ?_
      refine J.iload_n 2 dX8_addWord_3 rfl rfl ?_
      refine I.if_lt 41 dX8_addWord_4 (by decide) (by omega) (fun h4 => ?_) (fun h4 => ?_)
      · exact absurd h4 (by omega)
      · skip
        refine J.aload_n 0 dX8_addWord_7 rfl rfl ?_
        refine I.getR dX8_addWord_8 jcls fX8_9 rfl (by decide) rfl rfl ?_
        refine J.aload_n 0 dX8_addWord_11 rfl rfl ?_
        refine I.gI 1 rfl dX8_addWord_12 jcls fX8_68 rfl (by decide) rfl ?_
        refine I.sx (by first | exact up_eq _ _ _ _ | rfl) ?_
        refine J.iload_n 1 dX8_addWord_15 rfl rfl ?_
        refine J.iload_n 2 dX8_addWord_16 rfl rfl ?_
        refine I.ushrB 8 2 dX8_addWord_17 dX8_addWord_18 dX8_addWord_21 (by decide) (by decide) (by omega) ?_
        refine I.callS3v (d' := d - 1) (mi' := mX8_put) dX8_addWord_22 lX8_82 eX8_put rfl (c_X8_put (d := d - 1) hl (by omega) rfl (by first | omega | assumption) (by first | omega | assumption)) (show d - 1 + 1 ≤ d from by omega) (Nat.le_of_ble_eq_true rfl) ?_
        refine J.aload_n 0 dX8_addWord_25 rfl rfl ?_
        refine J.dupR dX8_addWord_26 ?_
        refine I.gI 1 rfl dX8_addWord_27 jcls fX8_68 rfl (by decide) rfl ?_
        refine I.sx ((up_ne (Or.inl (by decide))).trans (by first | exact up_eq _ _ _ _ | rfl)) ?_
        refine I.iconst dX8_addWord_30 ?_
        refine I.add dX8_addWord_31 ?_
        refine I.pI 1 rfl dX8_addWord_32 jcls fX8_68 rfl (by decide) rfl ?_
        refine I.iinc dX8_addWord_35 rfl rfl ?_
        refine J.goto 3 dX8_addWord_38 (by decide) ?_
        refine J.iload_n 2 dX8_addWord_3 rfl rfl ?_
        refine I.if_lt 41 dX8_addWord_4 (by decide) (by omega) (fun h4 => ?_) (fun h4 => ?_)
        · exact absurd h4 (by omega)
        · skip
          refine J.aload_n 0 dX8_addWord_7 rfl rfl ?_
          refine I.getR dX8_addWord_8 jcls fX8_9 rfl (by decide) rfl rfl ?_
          refine J.aload_n 0 dX8_addWord_11 rfl rfl ?_
          refine I.gI 1 rfl dX8_addWord_12 jcls fX8_68 rfl (by decide) rfl ?_
          refine I.sx (by first | exact up_eq _ _ _ _ | rfl) ?_
          refine J.iload_n 1 dX8_addWord_15 rfl rfl ?_
          refine J.iload_n 2 dX8_addWord_16 rfl rfl ?_
          refine I.ushrB 0 3 dX8_addWord_17 dX8_addWord_18 dX8_addWord_21 (by decide) (by decide) (by omega) ?_
          refine I.callS3v (d' := d - 1) (mi' := mX8_put) dX8_addWord_22 lX8_82 eX8_put rfl (c_X8_put (d := d - 1) hl (by omega) rfl (by first | omega | assumption) (by first | omega | assumption)) (show d - 1 + 1 ≤ d from by omega) (Nat.le_of_ble_eq_true rfl) ?_
          refine J.aload_n 0 dX8_addWord_25 rfl rfl ?_
          refine J.dupR dX8_addWord_26 ?_
          refine I.gI 1 rfl dX8_addWord_27 jcls fX8_68 rfl (by decide) rfl ?_
          refine I.sx ((up_ne (Or.inl (by decide))).trans (by first | exact up_eq _ _ _ _ | rfl)) ?_
          refine I.iconst dX8_addWord_30 ?_
          refine I.add dX8_addWord_31 ?_
          refine I.pI 1 rfl dX8_addWord_32 jcls fX8_68 rfl (by decide) rfl ?_
          refine I.iinc dX8_addWord_35 rfl rfl ?_
          refine J.goto 3 dX8_addWord_38 (by decide) ?_
          refine J.iload_n 2 dX8_addWord_3 rfl rfl ?_
          refine I.if_lt 41 dX8_addWord_4 (by decide) (by omega) (fun h4 => ?_) (fun h4 => ?_)
          · skip
            exact I.vretQ dX8_addWord_41 rfl ⟨fun q i x y => by (repeat rw [up_ne (by omega)]), (up_eq _ _ _ _).trans (by omega), fun i => feed_up (by decide) i⟩
          · exact absurd h4 (by omega)
def aApp (a : AS) (w0 w1 w2 w3 w4 : Int) : AS := aIn a (gFd (gFd (gFd (gFd (gFd (aT a) (aL a) w0) (aL a + 4) w1) (aL a + 8) w2) (aL a + 12) w3) (aL a + 16) w4) (aL a + 20)
set_option maxHeartbeats 1000000 in
theorem c_X8_append {Γ : jE} (hl : Γ.1.stackTraces = false) {s : Nat → Int → Int} {ε : jEps} {d : Nat} {w0 : Int} {w1 : Int} {w2 : Int} {w3 : Int} {w4 : Int} {a : AS} (hd : 2 ≤ d) (p0 : CI s a) (p1 : AI a) (p2 : -2147483648 ≤ w0 ∧ w0 < 2147483648) (p3 : -2147483648 ≤ w1 ∧ w1 < 2147483648) (p4 : -2147483648 ≤ w2 ∧ w2 < 2147483648) (p5 : -2147483648 ≤ w3 ∧ w3 < 2147483648) (p6 : -2147483648 ≤ w4 ∧ w4 < 2147483648) : Con Γ (d, 1, 6) mX8_append [.ref 0, .int (iI w0), .int (iI w1), .int (iI w2), .int (iI w3), .int (iI w4)] (jmem s ε) (RQ (fun w s' => aL a + 20 ≤ 500 ∧ aL a + 20 = w ∧ CI s' (aApp a w0 w1 w2 w3 w4) ∧ HiE s s') ε) (XT "java/lang/IllegalStateException" (¬ aL a + 20 ≤ 500) s ε) := by
  refine Con.ofJ (by decide +kernel) (by simp [Value.category]) (Nat.le_of_ble_eq_true rfl) ?_ hl
  have hw := RM.w p0.m
  have l0 := p1.2.2.2.2.2.2.1
  have t0 := p0.2.2.2.2.2.1
  refine J.aload_n 0 dX8_append_0 rfl rfl ?_
  refine I.gI 1 rfl dX8_append_1 jcls fX8_68 rfl (by decide) rfl ?_
  refine I.sx t0.1 ?_
  refine I.bipush dX8_append_4 (by decide) ?_
  refine I.add dX8_append_6 ?_
  refine I.sipush dX8_append_7 (by decide) ?_
  refine I.icmp_le 23 dX8_append_10 (by decide) (by omega) (by omega) (fun h10 => ?_) (fun h10 => ?_)
  · skip
    refine J.aload_n 0 dX8_append_23 rfl rfl ?_
    refine J.iload_n 1 dX8_append_24 rfl rfl ?_
    refine I.callV1w (d' := d - 1) (mi' := mX8_addWord) dX8_append_25 lX8_78 eX8_addWord rfl rfl (c_X8_addWord (d := d - 1) hl (by omega) (by rw [t0.1]; omega) (by first | omega | assumption)) (show d - 1 + 1 ≤ d from by omega) (Nat.le_of_ble_eq_true rfl) ?_
    rintro s25 ⟨k25, l25, t25⟩
    have e25 : s25 0 1 = aL a + 4 := l25.trans (by rw [t0.1] <;> omega)
    have f25 : ∀ i, 0 ≤ i → i < aL a + 4 → s25 1 i = (gFd (aT a) (aL a) w0) i := fun i x y => by rw [t25 i, t0.1]; exact gFd_eq (l := aL a) t0.2 i x (by omega)
    refine J.aload_n 0 dX8_append_28 rfl rfl ?_
    refine J.iload_n 2 dX8_append_29 rfl rfl ?_
    refine I.callV1w (d' := d - 1) (mi' := mX8_addWord) dX8_append_30 lX8_78 eX8_addWord rfl rfl (c_X8_addWord (d := d - 1) hl (by omega) (by rw [e25]; omega) (by first | omega | assumption)) (show d - 1 + 1 ≤ d from by omega) (Nat.le_of_ble_eq_true rfl) ?_
    rintro s30 ⟨k30, l30, t30⟩
    have e30 : s30 0 1 = aL a + 8 := l30.trans (by rw [e25] <;> omega)
    have f30 : ∀ i, 0 ≤ i → i < aL a + 8 → s30 1 i = (gFd (gFd (aT a) (aL a) w0) (aL a + 4) w1) i := fun i x y => by rw [t30 i, e25]; exact gFd_eq (l := aL a + 4) f25 i x (by omega)
    refine J.aload_n 0 dX8_append_33 rfl rfl ?_
    refine J.iload_n 3 dX8_append_34 rfl rfl ?_
    refine I.callV1w (d' := d - 1) (mi' := mX8_addWord) dX8_append_35 lX8_78 eX8_addWord rfl rfl (c_X8_addWord (d := d - 1) hl (by omega) (by rw [e30]; omega) (by first | omega | assumption)) (show d - 1 + 1 ≤ d from by omega) (Nat.le_of_ble_eq_true rfl) ?_
    rintro s35 ⟨k35, l35, t35⟩
    have e35 : s35 0 1 = aL a + 12 := l35.trans (by rw [e30] <;> omega)
    have f35 : ∀ i, 0 ≤ i → i < aL a + 12 → s35 1 i = (gFd (gFd (gFd (aT a) (aL a) w0) (aL a + 4) w1) (aL a + 8) w2) i := fun i x y => by rw [t35 i, e30]; exact gFd_eq (l := aL a + 8) f30 i x (by omega)
    refine J.aload_n 0 dX8_append_38 rfl rfl ?_
    refine J.iload dX8_append_39 rfl ?_
    refine I.callV1w (d' := d - 1) (mi' := mX8_addWord) dX8_append_41 lX8_78 eX8_addWord rfl rfl (c_X8_addWord (d := d - 1) hl (by omega) (by rw [e35]; omega) (by first | omega | assumption)) (show d - 1 + 1 ≤ d from by omega) (Nat.le_of_ble_eq_true rfl) ?_
    rintro s41 ⟨k41, l41, t41⟩
    have e41 : s41 0 1 = aL a + 16 := l41.trans (by rw [e35] <;> omega)
    have f41 : ∀ i, 0 ≤ i → i < aL a + 16 → s41 1 i = (gFd (gFd (gFd (gFd (aT a) (aL a) w0) (aL a + 4) w1) (aL a + 8) w2) (aL a + 12) w3) i := fun i x y => by rw [t41 i, e35]; exact gFd_eq (l := aL a + 12) f35 i x (by omega)
    refine J.aload_n 0 dX8_append_44 rfl rfl ?_
    refine J.iload dX8_append_45 rfl ?_
    refine I.callV1w (d' := d - 1) (mi' := mX8_addWord) dX8_append_47 lX8_78 eX8_addWord rfl rfl (c_X8_addWord (d := d - 1) hl (by omega) (by rw [e41]; omega) (by first | omega | assumption)) (show d - 1 + 1 ≤ d from by omega) (Nat.le_of_ble_eq_true rfl) ?_
    rintro s47 ⟨k47, l47, t47⟩
    have e47 : s47 0 1 = aL a + 20 := l47.trans (by rw [e41] <;> omega)
    have f47 : ∀ i, 0 ≤ i → i < aL a + 20 → s47 1 i = (gFd (gFd (gFd (gFd (gFd (aT a) (aL a) w0) (aL a + 4) w1) (aL a + 8) w2) (aL a + 12) w3) (aL a + 16) w4) i := fun i x y => by rw [t47 i, e41]; exact gFd_eq (l := aL a + 16) f41 i x (by omega)
    refine J.aload_n 0 dX8_append_50 rfl rfl ?_
    refine I.gI 1 rfl dX8_append_51 jcls fX8_68 rfl (by decide) rfl ?_
    refine I.sx e47 ?_
    exact I.iretQ dX8_append_54 rfl ⟨by omega, rfl, p0.inp (fun q i x y => ((k47 q i x y).trans ((k41 q i x y).trans ((k35 q i x y).trans ((k30 q i x y).trans (k25 q i x y)))))) e47 f47, fun q i z => have x : q ≠ 1 := (by omega); have y : q ≠ 0 ∨ i ≠ 1 := (by omega); ((k47 q i x y).trans ((k41 q i x y).trans ((k35 q i x y).trans ((k30 q i x y).trans (k25 q i x y)))))⟩
  · skip
    exact I.throw75 (text := "the input buffer is full") rfl (by decide) (Or.inl ⟨dX8_append_13, dX8_append_16, dX8_append_17, dX8_append_19, dX8_append_22⟩) (show 1 ≤ 1 ∧ 6 ≤ 6 from by decide) ⟨rfl, by omega, rfl⟩
set_option maxHeartbeats 1000000 in
theorem c_X8_truncate {Γ : jE} (hl : Γ.1.stackTraces = false) {s : Nat → Int → Int} {ε : jEps} {d : Nat} {n : Int} {a : AS} (hd : 0 ≤ d) (p0 : CI s a) (p1 : AI a) (p2 : -2147483648 ≤ n ∧ n < 2147483648) : Con Γ (d, 1, 6) mX8_truncate [.ref 0, .int (iI n)] (jmem s ε) (RW (fun s' => (0 ≤ n ∧ n ≤ aL a) ∧ CI s' (aIn a (aT a) n) ∧ HiE s s') ε) (XT "java/lang/IllegalArgumentException" (¬ (0 ≤ n ∧ n ≤ aL a)) s ε) := by
  refine Con.ofJ (by decide +kernel) (by simp [Value.category]) (Nat.le_of_ble_eq_true rfl) ?_ hl
  have hw := RM.w p0.m
  have l0 := p1.2.2.2.2.2.2.1
  have t0 := p0.2.2.2.2.2.1
  refine J.iload_n 1 dX8_truncate_0 rfl rfl ?_
  refine I.if_lt 12 dX8_truncate_1 (by decide) (by omega) (fun h1 => ?_) (fun h1 => ?_)
  · skip
    exact I.throw90 (text := "no such length") rfl (by decide) (Or.inl ⟨dX8_truncate_12, dX8_truncate_15, dX8_truncate_16, dX8_truncate_18, dX8_truncate_21⟩) (show 1 ≤ 1 ∧ 6 ≤ 6 from by decide) ⟨rfl, by omega, rfl⟩
  · skip
    refine J.iload_n 1 dX8_truncate_4 rfl rfl ?_
    refine J.aload_n 0 dX8_truncate_5 rfl rfl ?_
    refine I.gI 1 rfl dX8_truncate_6 jcls fX8_68 rfl (by decide) rfl ?_
    refine I.sx t0.1 ?_
    refine I.icmp_le 22 dX8_truncate_9 (by decide) (by omega) (by omega) (fun h9 => ?_) (fun h9 => ?_)
    · skip
      refine J.aload_n 0 dX8_truncate_22 rfl rfl ?_
      refine J.iload_n 1 dX8_truncate_23 rfl rfl ?_
      refine I.pI 1 rfl dX8_truncate_24 jcls fX8_68 rfl (by decide) rfl ?_
      exact I.vretQ dX8_truncate_27 rfl ⟨by omega, p0.inp (fun q i x y => up_ne (by omega)) (up_eq _ _ _ _) (fun i x y => by rw [up_ne (by omega)]; exact t0.2 i x (by omega)), fun q i x => up_ne (by omega)⟩
    · skip
      exact I.throw90 (text := "no such length") rfl (by decide) (Or.inl ⟨dX8_truncate_12, dX8_truncate_15, dX8_truncate_16, dX8_truncate_18, dX8_truncate_21⟩) (show 1 ≤ 1 ∧ 6 ≤ 6 from by decide) ⟨rfl, by omega, rfl⟩
