set_option maxHeartbeats 1000000 in
theorem c_X8_addWord {Γ : jE} (hl : Γ.1.stackTraces = false) {s : Nat → Int → Int} {ε : jEps} {d : Nat} {z : Int} (hd : 1 ≤ d) (p0 : 0 ≤ s 0 1 ∧ s 0 1 + 4 ≤ 500) (p1 : -2147483648 ≤ z ∧ z < 2147483648) : Con Γ (d, 0, 0) mX8_addWord [.ref 0, .int (iI z)] (jmem s ε) (RW (fun s' => (∀ q i, q ≠ 1 → (q ≠ 0 ∨ i ≠ 1) → s' q i = s q i) ∧ s' 0 1 = s 0 1 + 4 ∧ ∀ i, s' 1 i = gFd (s 1) (s 0 1) z i) ε) X0 := by
  refine Con.ofJ (by decide +kernel) (by simp [Value.category]) (Nat.le_of_ble_eq_true rfl) ?_ hl
  refine I.bipush dX8_addWord_0 (by decide) ?_
  refine J.istore_n 2 dX8_addWord_2 rfl (by decide) rfl ?_
  refine J.iload_n 2 dX8_addWord_3 rfl rfl ?_
  refine I.if_lt 41 dX8_addWord_4 (by decide) (by omega) (fun h4 => ?_) (fun h4 => ?_)
  · exact absurd h4 (by omega)
  · skip
    refine J.aload_n 0 dX8_addWord_7 rfl rfl ?_
    refine I.getR dX8_addWord_8 jcls fX8_9 rfl (by decide) rfl rfl ?_
    refine J.aload_n 0 dX8_addWord_11 rfl rfl ?_
    refine I.gI 1 rfl dX8_addWord_12 jcls fX8_68 rfl (by decide) rfl ?_
    refine I.sx (by first | exact up_eq _ _ _ _ | rfl) ?_
    refine J.iload_n 1 dX8_addWord_15 rfl rfl ?_
    refine J.iload_n 2 dX8_addWord_16 rfl rfl ?_
    refine I.ushrB 24 0 dX8_addWord_17 dX8_addWord_18 dX8_addWord_21 (by decide) (by decide) (by omega) ?_
    refine I.callS3v (d' := d - 1) (mi' := mX8_put) dX8_addWord_22 lX8_82 eX8_put rfl (c_X8_put (d := d - 1) hl (by omega) rfl (by first | omega | assumption) (by first | omega | assumption)) (show d - 1 + 1 ≤ d from by omega) (Nat.le_of_ble_eq_true rfl) ?_
    refine J.aload_n 0 dX8_addWord_25 rfl rfl ?_
    refine J.dupR dX8_addWord_26 ?_
    refine I.gI 1 rfl dX8_addWord_27 jcls fX8_68 rfl (by decide) rfl ?_
    refine I.sx ((up_ne (Or.inl (by decide))).trans (by first | exact up_eq _ _ _ _ | rfl)) ?_
    refine I.iconst dX8_addWord_30 ?_
    refine I.add dX8_addWord_31 ?_
    refine I.pI 1 rfl dX8_addWord_32 jcls fX8_68 rfl (by decide) rfl ?_
    refine I.iinc dX8_addWord_35 rfl rfl ?_
    refine J.goto 3 dX8_addWord_38 (by decide) ?_
    refine J.iload_n 2 dX8_addWord_3 rfl rfl ?_
    refine I.if_lt 41 dX8_addWord_4 (by decide) (by omega) (fun h4 => ?_) (fun h4 => ?_)
    · exact absurd h4 (by omega)
    · skip
      refine J.aload_n 0 dX8_addWord_7 rfl rfl ?_
      refine I.getR dX8_addWord_8 jcls fX8_9 rfl (by decide) rfl rfl ?_
      refine J.aload_n 0 dX8_addWord_11 rfl rfl ?_
      refine I.gI 1 rfl dX8_addWord_12 jcls fX8_68 rfl (by decide) rfl ?_
      refine I.sx (by first | exact up_eq _ _ _ _ | rfl) ?_
      refine J.iload_n 1 dX8_addWord_15 rfl rfl ?_
      refine J.iload_n 2 dX8_addWord_16 rfl rfl ?_
      refine I.ushrB 16 1 dX8_addWord_17 dX8_addWord_18 dX8_addWord_21 (by decide) (by decide) (by omega) ?_
      refine I.callS3v (d' := d - 1) (mi' := mX8_put) dX8_addWord_22 lX8_82 eX8_put rfl (c_X8_put (d := d - 1) hl (by omega) rfl (by first | omega | assumption) (by first | omega | assumption)) (show d - 1 + 1 ≤ d from by omega) (Nat.le_of_ble_eq_true rfl) ?_
      refine J.aload_n 0 dX8_addWord_25 rfl rfl ?_
      refine J.dupR dX8_addWord_26 ?_
      refine I.gI 1 rfl dX8_addWord_27 jcls fX8_68 rfl (by decide) rfl ?_
      refine I.sx ((up_ne (Or.inl (by decide))).trans (by first | exact up_eq _ _ _ _ | rfl)) ?_
      refine I.iconst dX8_addWord_30 ?_
      refine I.add dX8_addWord_31 ?_
      refine I.pI 1 rfl dX8_addWord_32 jcls fX8_68 rfl (by decide) rfl ?_
      refine I.iinc dX8_addWord_35 rfl rfl ?_
      refine J.goto 3 dX8_addWord_38 (by decide) ?_
      refine J.iload_n 2 dX8_addWord_3 rfl rfl ?_
      refine I.if_lt 41 dX8_addWord_4 (by decide) (by omega) (fun h4 => ?_) (fun h4 => ?_)
      · exact absurd h4 (by omega)
      · skip
        refine J.aload_n 0 dX8_addWord_7 rfl rfl ?_
        refine I.getR dX8_addWord_8 jcls fX8_9 rfl (by decide) rfl rfl ?_
        refine J.aload_n 0 dX8_addWord_11 rfl rfl ?_
        refine I.gI 1 rfl dX8_addWord_12 jcls fX8_68 rfl (by decide) rfl ?_
        refine I.sx (by first | exact up_eq _ _ _ _ | rfl) ?_
        refine J.iload_n 1 dX8_addWord_15 rfl rfl ?_
        refine J.iload_n 2 dX8_addWord_16 rfl rfl ?_
        refine I.ushrB 8 2 dX8_addWord_17 dX8_addWord_18 dX8_addWord_21 (by decide) (by decide) (by omega) ?_
        refine I.callS3v (d' := d - 1) (mi' := mX8_put) dX8_addWord_22 lX8_82 eX8_put rfl (c_X8_put (d := d - 1) hl (by omega) rfl (by first | omega | assumption) (by first | omega | assumption)) (show d - 1 + 1 ≤ d from by omega) (Nat.le_of_ble_eq_true rfl) ?_
        refine J.aload_n 0 dX8_addWord_25 rfl rfl ?_
        refine J.dupR dX8_addWord_26 ?_
        refine I.gI 1 rfl dX8_addWord_27 jcls fX8_68 rfl (by decide) rfl ?_
        refine I.sx ((up_ne (Or.inl (by decide))).trans (by first | exact up_eq _ _ _ _ | rfl)) ?_
        refine I.iconst dX8_addWord_30 ?_
        refine I.add dX8_addWord_31 ?_
        refine I.pI 1 rfl dX8_addWord_32 jcls fX8_68 rfl (by decide) rfl ?_
        refine I.iinc dX8_addWord_35 rfl rfl ?_
        refine J.goto 3 dX8_addWord_38 (by decide) ?_
        refine J.iload_n 2 dX8_addWord_3 rfl rfl ?_
        refine I.if_lt 41 dX8_addWord_4 (by decide) (by omega) (fun h4 => ?_) (fun h4 => ?_)
        · exact absurd h4 (by omega)
        · skip
          refine J.aload_n 0 dX8_addWord_7 rfl rfl ?_
          refine I.getR dX8_addWord_8 jcls fX8_9 rfl (by decide) rfl rfl ?_
          refine J.aload_n 0 dX8_addWord_11 rfl rfl ?_
          refine I.gI 1 rfl dX8_addWord_12 jcls fX8_68 rfl (by decide) rfl ?_
          refine I.sx (by first | exact up_eq _ _ _ _ | rfl) ?_
          refine J.iload_n 1 dX8_addWord_15 rfl rfl ?_
          refine J.iload_n 2 dX8_addWord_16 rfl rfl ?_
          refine I.ushrB 0 3 dX8_addWord_17 dX8_addWord_18 dX8_addWord_21 (by decide) (by decide) (by omega) ?_
          refine I.callS3v (d' := d - 1) (mi' := mX8_put) dX8_addWord_22 lX8_82 eX8_put rfl (c_X8_put (d := d - 1) hl (by omega) rfl (by first | omega | assumption) (by first | omega | assumption)) (show d - 1 + 1 ≤ d from by omega) (Nat.le_of_ble_eq_true rfl) ?_
          refine J.aload_n 0 dX8_addWord_25 rfl rfl ?_
          refine J.dupR dX8_addWord_26 ?_
          refine I.gI 1 rfl dX8_addWord_27 jcls fX8_68 rfl (by decide) rfl ?_
          refine I.sx ((up_ne (Or.inl (by decide))).trans (by first | exact up_eq _ _ _ _ | rfl)) ?_
          refine I.iconst dX8_addWord_30 ?_
          refine I.add dX8_addWord_31 ?_
          refine I.pI 1 rfl dX8_addWord_32 jcls fX8_68 rfl (by decide) rfl ?_
          refine I.iinc dX8_addWord_35 rfl rfl ?_
          refine J.goto 3 dX8_addWord_38 (by decide) ?_
          refine J.iload_n 2 dX8_addWord_3 rfl rfl ?_
          refine I.if_lt 41 dX8_addWord_4 (by decide) (by omega) (fun h4 => ?_) (fun h4 => ?_)
          · skip
            exact I.vretQ dX8_addWord_41 rfl ⟨fun q i x y => by (repeat rw [up_ne (by omega)]), (up_eq _ _ _ _).trans (by omega), fun i => feed_up (by decide) i⟩
          · exact absurd h4 (by omega)
def aApp (a : AS) (w0 w1 w2 w3 w4 : Int) : AS := aIn a (gFd (gFd (gFd (gFd (gFd (aT a) (aL a) w0) (aL a + 4) w1) (aL a + 8) w2) (aL a + 12) w3) (aL a + 16) w4) (aL a + 20)
theorem AI.app {a : AS} {w0 w1 w2 w3 w4 : Int} (i : AI a) (h : aL a + 20 ≤ 500) : AI (aApp a w0 w1 w2 w3 w4) := by
  have l0 := i.2.2.2.2.2.2.1
  have t0 := i.2.2.2.2.2.2.2.1
  have r1 := gFd_rng (z := w0) t0
  have r2 := gFd_rng (l := aL a + 4) (z := w1) r1
  have r3 := gFd_rng (l := aL a + 8) (z := w2) (fun i x y => r2 i x (by omega))
  have r4 := gFd_rng (l := aL a + 12) (z := w3) (fun i x y => r3 i x (by omega))
  have r5 := gFd_rng (l := aL a + 16) (z := w4) (fun i x y => r4 i x (by omega))
  exact i.inp ⟨by omega, h⟩ (fun i x y => r5 i x (by omega))
theorem getD_mem {x : List Int} {n : Nat} (h : n < x.length) : x.getD n 0 ∈ x := by
  rw [List.getD_eq_getElem?_getD, List.getElem?_eq_getElem h]; exact List.getElem_mem h
set_option maxHeartbeats 1000000 in
theorem c_X8_append {Γ : jE} (hl : Γ.1.stackTraces = false) {s : Nat → Int → Int} {ε : jEps} {d : Nat} {w0 : Int} {w1 : Int} {w2 : Int} {w3 : Int} {w4 : Int} {a : AS} (hd : 2 ≤ d) (p0 : CI s a) (p1 : AI a) (p2 : -2147483648 ≤ w0 ∧ w0 < 2147483648) (p3 : -2147483648 ≤ w1 ∧ w1 < 2147483648) (p4 : -2147483648 ≤ w2 ∧ w2 < 2147483648) (p5 : -2147483648 ≤ w3 ∧ w3 < 2147483648) (p6 : -2147483648 ≤ w4 ∧ w4 < 2147483648) : Con Γ (d, 1, 6) mX8_append [.ref 0, .int (iI w0), .int (iI w1), .int (iI w2), .int (iI w3), .int (iI w4)] (jmem s ε) (RQ (fun w s' => aL a + 20 ≤ 500 ∧ aL a + 20 = w ∧ CI s' (aApp a w0 w1 w2 w3 w4) ∧ HiE s s') ε) (XT "java/lang/IllegalStateException" (¬ aL a + 20 ≤ 500) s ε) := by
  refine Con.ofJ (by decide +kernel) (by simp [Value.category]) (Nat.le_of_ble_eq_true rfl) ?_ hl
  have hw := RM.w p0.m
  have l0 := p1.2.2.2.2.2.2.1
  have t0 := p0.2.2.2.2.2.1
  refine J.aload_n 0 dX8_append_0 rfl rfl ?_
  refine I.gI 1 rfl dX8_append_1 jcls fX8_68 rfl (by decide) rfl ?_
  refine I.sx t0.1 ?_
  refine I.bipush dX8_append_4 (by decide) ?_
  refine I.add dX8_append_6 ?_
  refine I.sipush dX8_append_7 (by decide) ?_
  refine I.icmp_le 23 dX8_append_10 (by decide) (by omega) (by omega) (fun h10 => ?_) (fun h10 => ?_)
  · skip
    refine J.aload_n 0 dX8_append_23 rfl rfl ?_
    refine J.iload_n 1 dX8_append_24 rfl rfl ?_
    refine I.callV1w (d' := d - 1) (mi' := mX8_addWord) dX8_append_25 lX8_78 eX8_addWord rfl rfl (c_X8_addWord (d := d - 1) hl (by omega) (by rw [t0.1]; omega) (by first | omega | assumption)) (show d - 1 + 1 ≤ d from by omega) (Nat.le_of_ble_eq_true rfl) ?_
    rintro s25 ⟨k25, l25, t25⟩
    have e25 : s25 0 1 = aL a + 4 := l25.trans (by rw [t0.1] <;> omega)
    have f25 : ∀ i, 0 ≤ i → i < aL a + 4 → s25 1 i = (gFd (aT a) (aL a) w0) i := fun i x y => by rw [t25 i, t0.1]; exact gFd_eq (l := aL a) t0.2 i x (by omega)
    refine J.aload_n 0 dX8_append_28 rfl rfl ?_
    refine J.iload_n 2 dX8_append_29 rfl rfl ?_
    refine I.callV1w (d' := d - 1) (mi' := mX8_addWord) dX8_append_30 lX8_78 eX8_addWord rfl rfl (c_X8_addWord (d := d - 1) hl (by omega) (by rw [e25]; omega) (by first | omega | assumption)) (show d - 1 + 1 ≤ d from by omega) (Nat.le_of_ble_eq_true rfl) ?_
    rintro s30 ⟨k30, l30, t30⟩
    have e30 : s30 0 1 = aL a + 8 := l30.trans (by rw [e25] <;> omega)
    have f30 : ∀ i, 0 ≤ i → i < aL a + 8 → s30 1 i = (gFd (gFd (aT a) (aL a) w0) (aL a + 4) w1) i := fun i x y => by rw [t30 i, e25]; exact gFd_eq (l := aL a + 4) f25 i x (by omega)
    refine J.aload_n 0 dX8_append_33 rfl rfl ?_
    refine J.iload_n 3 dX8_append_34 rfl rfl ?_
    refine I.callV1w (d' := d - 1) (mi' := mX8_addWord) dX8_append_35 lX8_78 eX8_addWord rfl rfl (c_X8_addWord (d := d - 1) hl (by omega) (by rw [e30]; omega) (by first | omega | assumption)) (show d - 1 + 1 ≤ d from by omega) (Nat.le_of_ble_eq_true rfl) ?_
    rintro s35 ⟨k35, l35, t35⟩
    have e35 : s35 0 1 = aL a + 12 := l35.trans (by rw [e30] <;> omega)
    have f35 : ∀ i, 0 ≤ i → i < aL a + 12 → s35 1 i = (gFd (gFd (gFd (aT a) (aL a) w0) (aL a + 4) w1) (aL a + 8) w2) i := fun i x y => by rw [t35 i, e30]; exact gFd_eq (l := aL a + 8) f30 i x (by omega)
    refine J.aload_n 0 dX8_append_38 rfl rfl ?_
    refine J.iload dX8_append_39 rfl ?_
    refine I.callV1w (d' := d - 1) (mi' := mX8_addWord) dX8_append_41 lX8_78 eX8_addWord rfl rfl (c_X8_addWord (d := d - 1) hl (by omega) (by rw [e35]; omega) (by first | omega | assumption)) (show d - 1 + 1 ≤ d from by omega) (Nat.le_of_ble_eq_true rfl) ?_
    rintro s41 ⟨k41, l41, t41⟩
    have e41 : s41 0 1 = aL a + 16 := l41.trans (by rw [e35] <;> omega)
    have f41 : ∀ i, 0 ≤ i → i < aL a + 16 → s41 1 i = (gFd (gFd (gFd (gFd (aT a) (aL a) w0) (aL a + 4) w1) (aL a + 8) w2) (aL a + 12) w3) i := fun i x y => by rw [t41 i, e35]; exact gFd_eq (l := aL a + 12) f35 i x (by omega)
    refine J.aload_n 0 dX8_append_44 rfl rfl ?_
    refine J.iload dX8_append_45 rfl ?_
    refine I.callV1w (d' := d - 1) (mi' := mX8_addWord) dX8_append_47 lX8_78 eX8_addWord rfl rfl (c_X8_addWord (d := d - 1) hl (by omega) (by rw [e41]; omega) (by first | omega | assumption)) (show d - 1 + 1 ≤ d from by omega) (Nat.le_of_ble_eq_true rfl) ?_
    rintro s47 ⟨k47, l47, t47⟩
    have e47 : s47 0 1 = aL a + 20 := l47.trans (by rw [e41] <;> omega)
    have f47 : ∀ i, 0 ≤ i → i < aL a + 20 → s47 1 i = (gFd (gFd (gFd (gFd (gFd (aT a) (aL a) w0) (aL a + 4) w1) (aL a + 8) w2) (aL a + 12) w3) (aL a + 16) w4) i := fun i x y => by rw [t47 i, e41]; exact gFd_eq (l := aL a + 16) f41 i x (by omega)
    refine J.aload_n 0 dX8_append_50 rfl rfl ?_
    refine I.gI 1 rfl dX8_append_51 jcls fX8_68 rfl (by decide) rfl ?_
    refine I.sx e47 ?_
    exact I.iretQ dX8_append_54 rfl ⟨by omega, rfl, p0.inp (fun q i x y => ((k47 q i x y).trans ((k41 q i x y).trans ((k35 q i x y).trans ((k30 q i x y).trans (k25 q i x y)))))) e47 f47, fun q i z => have x : q ≠ 1 := (by omega); have y : q ≠ 0 ∨ i ≠ 1 := (by omega); ((k47 q i x y).trans ((k41 q i x y).trans ((k35 q i x y).trans ((k30 q i x y).trans (k25 q i x y)))))⟩
  · skip
    exact I.throw75 (text := "the input buffer is full") rfl (by decide) (Or.inl ⟨dX8_append_13, dX8_append_16, dX8_append_17, dX8_append_19, dX8_append_22⟩) (show 1 ≤ 1 ∧ 6 ≤ 6 from by decide) ⟨rfl, by omega, rfl⟩
set_option maxHeartbeats 1000000 in
theorem c_X8_truncate {Γ : jE} (hl : Γ.1.stackTraces = false) {s : Nat → Int → Int} {ε : jEps} {d : Nat} {n : Int} {a : AS} (hd : 0 ≤ d) (p0 : CI s a) (p1 : AI a) (p2 : -2147483648 ≤ n ∧ n < 2147483648) : Con Γ (d, 1, 6) mX8_truncate [.ref 0, .int (iI n)] (jmem s ε) (RW (fun s' => (0 ≤ n ∧ n ≤ aL a) ∧ CI s' (aIn a (aT a) n) ∧ HiE s s') ε) (XT "java/lang/IllegalArgumentException" (¬ (0 ≤ n ∧ n ≤ aL a)) s ε) := by
  refine Con.ofJ (by decide +kernel) (by simp [Value.category]) (Nat.le_of_ble_eq_true rfl) ?_ hl
  have hw := RM.w p0.m
  have l0 := p1.2.2.2.2.2.2.1
  have t0 := p0.2.2.2.2.2.1
  refine J.iload_n 1 dX8_truncate_0 rfl rfl ?_
  refine I.if_lt 12 dX8_truncate_1 (by decide) (by omega) (fun h1 => ?_) (fun h1 => ?_)
  · skip
    exact I.throw90 (text := "no such length") rfl (by decide) (Or.inl ⟨dX8_truncate_12, dX8_truncate_15, dX8_truncate_16, dX8_truncate_18, dX8_truncate_21⟩) (show 1 ≤ 1 ∧ 6 ≤ 6 from by decide) ⟨rfl, by omega, rfl⟩
  · skip
    refine J.iload_n 1 dX8_truncate_4 rfl rfl ?_
    refine J.aload_n 0 dX8_truncate_5 rfl rfl ?_
    refine I.gI 1 rfl dX8_truncate_6 jcls fX8_68 rfl (by decide) rfl ?_
    refine I.sx t0.1 ?_
    refine I.icmp_le 22 dX8_truncate_9 (by decide) (by omega) (by omega) (fun h9 => ?_) (fun h9 => ?_)
    · skip
      refine J.aload_n 0 dX8_truncate_22 rfl rfl ?_
      refine J.iload_n 1 dX8_truncate_23 rfl rfl ?_
      refine I.pI 1 rfl dX8_truncate_24 jcls fX8_68 rfl (by decide) rfl ?_
      exact I.vretQ dX8_truncate_27 rfl ⟨by omega, p0.inp (fun q i x y => up_ne (by omega)) (up_eq _ _ _ _) (fun i x y => by rw [up_ne (by omega)]; exact t0.2 i x (by omega)), fun q i x => up_ne (by omega)⟩
    · skip
      exact I.throw90 (text := "no such length") rfl (by decide) (Or.inl ⟨dX8_truncate_12, dX8_truncate_15, dX8_truncate_16, dX8_truncate_18, dX8_truncate_21⟩) (show 1 ≤ 1 ∧ 6 ≤ 6 from by decide) ⟨rfl, by omega, rfl⟩
set_option maxHeartbeats 1000000 in
theorem c_X8_errorKind {Γ : jE} (hl : Γ.1.stackTraces = false) {s : Nat → Int → Int} {ε : jEps} {d : Nat} {a : AS} (hd : 0 ≤ d) (p0 : CI s a) : Con Γ (d, 0, 0) mX8_errorKind [.ref 0] (jmem s ε) (RI (aK a) (s) ε) X0 := by
  refine Con.ofJ (by decide +kernel) (by simp [Value.category]) (Nat.le_of_ble_eq_true rfl) ?_ hl
  refine J.aload_n 0 dX8_errorKind_0 rfl rfl ?_
  refine I.gI 2 rfl dX8_errorKind_1 jcls fX8_13 rfl (by decide) rfl ?_
  refine I.sx p0.2.2.2.2.2.2.1 ?_
  exact I.iretI dX8_errorKind_4 rfl (by first | rfl | omega) rfl
set_option maxHeartbeats 1000000 in
theorem c_X8_errorPosition {Γ : jE} (hl : Γ.1.stackTraces = false) {s : Nat → Int → Int} {ε : jEps} {d : Nat} {a : AS} (hd : 0 ≤ d) (p0 : CI s a) : Con Γ (d, 0, 0) mX8_errorPosition [.ref 0] (jmem s ε) (RI (aP a) (s) ε) X0 := by
  refine Con.ofJ (by decide +kernel) (by simp [Value.category]) (Nat.le_of_ble_eq_true rfl) ?_ hl
  refine J.aload_n 0 dX8_errorPosition_0 rfl rfl ?_
  refine I.gI 3 rfl dX8_errorPosition_1 jcls fX8_17 rfl (by decide) rfl ?_
  refine I.sx p0.2.2.2.2.2.2.2 ?_
  exact I.iretI dX8_errorPosition_4 rfl (by first | rfl | omega) rfl
set_option maxHeartbeats 1000000 in
theorem k_X8_formatChain_15 {Γ : jE} (hl : Γ.1.stackTraces = false) {s : Nat → Int → Int} {ε : jEps} {d : Nat} {c : Int} {a : AS} (hd : 3 ≤ d) (p0 : CI s a) (p1 : AI a) (p2 : -2147483648 ≤ c ∧ c < 2147483648) {mc ms : Nat} {P : Option Value → jM → Prop} {X : String → jM → Prop} : ∀ (k : Nat) {z : Nat → Int → Int} {t : Int} {x : List Int} (q0 : ((k : Nat) : Int) = (aF a) (37 + c) - (aF a) (34 + c) + 1 - t) (q1 : 0 ≤ t) (q2 : TX z 136 135 1 x) (q3 : ∀ q j, q ≠ 135 → q ≠ 136 → z q j = s q j) (q4 : (x.length : Int) ≤ 3 * t) (qc : 0 ≤ c ∧ c < (aF a) (18 + (aF a) 1)) (kx : ∀ s', (TX s' 136 135 1 (foldF (gChS (aF a) c) k t x) ∧ ∀ q j, q ≠ 135 → q ≠ 136 → s' q j = s q j) → J Γ (d, mc, ms) mX8_formatChain 84 [some (.ref 0), some (.int (iI c)), none] [] (jmem s' ε) P X), J Γ (d, mc, ms) mX8_formatChain 15 [some (.ref 0), some (.int (iI c)), some (.int (iI (t)))] [] (jmem z ε) P X := by
  have hw := RM.w p0.m
  have fl := p1.1.1
  have fv := p1.1.2
  have n8 := p1.2.1
  have s3 := p0.2.2.1
  have f5 := p1.1.2.moves
  intro k
  induction k with
  | zero =>
    intro z t x q0 q1 q2 q3 q4 qc kx
    have e := RM.e p0.m c qc.1 qc.2
    have rz : RM z 21 (aF a) := p0.m.congr fun q i x y => q3 q i (by omega) (by omega)
    refine J.iload_n 2 dX8_formatChain_15 rfl rfl ?_
    refine J.aload_n 0 dX8_formatChain_16 rfl rfl ?_
    refine I.getR dX8_formatChain_17 jcls fX8_30 rfl (by decide) rfl rfl ?_
    refine J.iload_n 1 dX8_formatChain_20 rfl rfl ?_
    refine I.callV1i (d' := d - 1) (mi' := mX2_lengthNow) dX8_formatChain_21 lX8_184 eX2_lengthNow rfl rfl (c_X2_lengthNow (d := d - 1) hl (by omega) jm21 rz (by first | omega | assumption)) (show d - 1 + 1 ≤ d from by omega) (Nat.le_of_ble_eq_true rfl) ?_
    refine I.icmp_ge 84 dX8_formatChain_24 (by decide) (by omega) (by omega) (fun h24 => ?_) (fun h24 => ?_)
    · skip
      exact J.fgt (by exact ⟨Or.inr rfl, Or.inr rfl, Or.inl rfl, trivial⟩) (kx _ ⟨q2, q3⟩)
    · exact absurd h24 (by omega)
  | succ k ih =>
    intro z t x q0 q1 q2 q3 q4 qc kx
    have e := RM.e p0.m c qc.1 qc.2
    have rz : RM z 21 (aF a) := p0.m.congr fun q i x y => q3 q i (by omega) (by omega)
    refine J.iload_n 2 dX8_formatChain_15 rfl rfl ?_
    refine J.aload_n 0 dX8_formatChain_16 rfl rfl ?_
    refine I.getR dX8_formatChain_17 jcls fX8_30 rfl (by decide) rfl rfl ?_
    refine J.iload_n 1 dX8_formatChain_20 rfl rfl ?_
    refine I.callV1i (d' := d - 1) (mi' := mX2_lengthNow) dX8_formatChain_21 lX8_184 eX2_lengthNow rfl rfl (c_X2_lengthNow (d := d - 1) hl (by omega) jm21 rz (by first | omega | assumption)) (show d - 1 + 1 ≤ d from by omega) (Nat.le_of_ble_eq_true rfl) ?_
    refine I.icmp_ge 84 dX8_formatChain_24 (by decide) (by omega) (by omega) (fun h24 => ?_) (fun h24 => ?_)
    · exact absurd h24 (by omega)
    · skip
      have tg := gT_rng p0.m.l p0.m.v qc.1 qc.2 q1 (by omega)
      have q21 := q2.1
      refine J.iload_n 2 dX8_formatChain_27 rfl rfl ?_
      refine I.if_le 40 dX8_formatChain_28 (by decide) (by omega) (fun h28 => ?_) (fun h28 => ?_)
      · skip
        have eA : (if 0 < t then x ++ [45] else x) = x := if_neg (by omega)
        refine J.aload_n 0 dX8_formatChain_40 rfl rfl ?_
        refine I.getR dX8_formatChain_41 jcls fX8_61 rfl (by decide) rfl rfl ?_
        refine I.bipush dX8_formatChain_44 (by decide) ?_
        refine J.aload_n 0 dX8_formatChain_46 rfl rfl ?_
        refine I.getR dX8_formatChain_47 jcls fX8_30 rfl (by decide) rfl rfl ?_
        refine J.iload_n 1 dX8_formatChain_50 rfl rfl ?_
        refine J.iload_n 2 dX8_formatChain_51 rfl rfl ?_
        refine I.callV2i (d' := d - 1) (mi' := mX2_leftNow) dX8_formatChain_52 lX8_191 eX2_leftNow rfl rfl (c_X2_leftNow (d := d - 1) hl (by omega) jm21 (by first | exact rz | exact rz.congr fun q i x y => by (repeat rw [up_ne (by omega)])) (by first | omega | assumption) (by first | omega | assumption)) (show d - 1 + 1 ≤ d from by omega) (Nat.le_of_ble_eq_true rfl) ?_
        refine I.add dX8_formatChain_55 ?_
        refine I.callV1v (d' := d - 1) (mi' := mX7_add) dX8_formatChain_56 lX8_328 eX7_add rfl rfl (c_X7_add (d := d - 1) hl (by omega) (by (repeat rw [up_eq]); omega)) (show d - 1 + 1 ≤ d from by omega) (Nat.le_of_ble_eq_true rfl) ?_
        refine J.aload_n 0 dX8_formatChain_59 rfl rfl ?_
        refine I.getR dX8_formatChain_60 jcls fX8_61 rfl (by decide) rfl rfl ?_
        refine I.bipush dX8_formatChain_63 (by decide) ?_
        refine J.aload_n 0 dX8_formatChain_65 rfl rfl ?_
        refine I.getR dX8_formatChain_66 jcls fX8_30 rfl (by decide) rfl rfl ?_
        refine J.iload_n 1 dX8_formatChain_69 rfl rfl ?_
        refine J.iload_n 2 dX8_formatChain_70 rfl rfl ?_
        refine I.callV2i (d' := d - 1) (mi' := mX2_rightNow) dX8_formatChain_71 lX8_194 eX2_rightNow rfl rfl (c_X2_rightNow (d := d - 1) hl (by omega) jm21 (rz.congr fun q i x y => by (repeat rw [up_ne (by omega)])) (by first | omega | assumption) (by first | omega | assumption)) (show d - 1 + 1 ≤ d from by omega) (Nat.le_of_ble_eq_true rfl) ?_
        refine I.add dX8_formatChain_74 ?_
        refine I.callV1v (d' := d - 1) (mi' := mX7_add) dX8_formatChain_75 lX8_328 eX7_add rfl rfl (c_X7_add (d := d - 1) hl (by omega) (by (repeat rw [up_eq]); omega)) (show d - 1 + 1 ≤ d from by omega) (Nat.le_of_ble_eq_true rfl) ?_
        refine I.iinc dX8_formatChain_78 rfl rfl ?_
        refine J.goto 15 dX8_formatChain_81 (by decide) ?_
        exact J.fgt (by exact ⟨Or.inr rfl, Or.inr rfl, Or.inr rfl, trivial⟩) (ih (x := gChS (aF a) c t x) (by omega) (by omega) (by unfold gChS; rw [eA]; first | exact TX.add (by decide) (TX.add (by decide) q2) | exact TX.add (by decide) (TX.add (by decide) (TX.add (by decide) q2))) (fun q j h1 h2 => by (repeat rw [up_ne (Or.inl (by omega))]); exact q3 q j h1 h2) (by have := @gChS_len (aF a) c t x; omega) qc kx)
      · skip
        have eA : (if 0 < t then x ++ [45] else x) = x ++ [45] := if_pos h28
        refine J.aload_n 0 dX8_formatChain_31 rfl rfl ?_
        refine I.getR dX8_formatChain_32 jcls fX8_61 rfl (by decide) rfl rfl ?_
        refine I.bipush dX8_formatChain_35 (by decide) ?_
        refine I.callV1v (d' := d - 1) (mi' := mX7_add) dX8_formatChain_37 lX8_328 eX7_add rfl rfl (c_X7_add (d := d - 1) hl (by omega) (by (repeat rw [up_eq]); omega)) (show d - 1 + 1 ≤ d from by omega) (Nat.le_of_ble_eq_true rfl) ?_
        refine J.aload_n 0 dX8_formatChain_40 rfl rfl ?_
        refine I.getR dX8_formatChain_41 jcls fX8_61 rfl (by decide) rfl rfl ?_
        refine I.bipush dX8_formatChain_44 (by decide) ?_
        refine J.aload_n 0 dX8_formatChain_46 rfl rfl ?_
        refine I.getR dX8_formatChain_47 jcls fX8_30 rfl (by decide) rfl rfl ?_
        refine J.iload_n 1 dX8_formatChain_50 rfl rfl ?_
        refine J.iload_n 2 dX8_formatChain_51 rfl rfl ?_
        refine I.callV2i (d' := d - 1) (mi' := mX2_leftNow) dX8_formatChain_52 lX8_191 eX2_leftNow rfl rfl (c_X2_leftNow (d := d - 1) hl (by omega) jm21 (by first | exact rz | exact rz.congr fun q i x y => by (repeat rw [up_ne (by omega)])) (by first | omega | assumption) (by first | omega | assumption)) (show d - 1 + 1 ≤ d from by omega) (Nat.le_of_ble_eq_true rfl) ?_
        refine I.add dX8_formatChain_55 ?_
        refine I.callV1v (d' := d - 1) (mi' := mX7_add) dX8_formatChain_56 lX8_328 eX7_add rfl rfl (c_X7_add (d := d - 1) hl (by omega) (by (repeat rw [up_eq]); omega)) (show d - 1 + 1 ≤ d from by omega) (Nat.le_of_ble_eq_true rfl) ?_
        refine J.aload_n 0 dX8_formatChain_59 rfl rfl ?_
        refine I.getR dX8_formatChain_60 jcls fX8_61 rfl (by decide) rfl rfl ?_
        refine I.bipush dX8_formatChain_63 (by decide) ?_
        refine J.aload_n 0 dX8_formatChain_65 rfl rfl ?_
        refine I.getR dX8_formatChain_66 jcls fX8_30 rfl (by decide) rfl rfl ?_
        refine J.iload_n 1 dX8_formatChain_69 rfl rfl ?_
        refine J.iload_n 2 dX8_formatChain_70 rfl rfl ?_
        refine I.callV2i (d' := d - 1) (mi' := mX2_rightNow) dX8_formatChain_71 lX8_194 eX2_rightNow rfl rfl (c_X2_rightNow (d := d - 1) hl (by omega) jm21 (rz.congr fun q i x y => by (repeat rw [up_ne (by omega)])) (by first | omega | assumption) (by first | omega | assumption)) (show d - 1 + 1 ≤ d from by omega) (Nat.le_of_ble_eq_true rfl) ?_
        refine I.add dX8_formatChain_74 ?_
        refine I.callV1v (d' := d - 1) (mi' := mX7_add) dX8_formatChain_75 lX8_328 eX7_add rfl rfl (c_X7_add (d := d - 1) hl (by omega) (by (repeat rw [up_eq]); omega)) (show d - 1 + 1 ≤ d from by omega) (Nat.le_of_ble_eq_true rfl) ?_
        refine I.iinc dX8_formatChain_78 rfl rfl ?_
        refine J.goto 15 dX8_formatChain_81 (by decide) ?_
        exact J.fgt (by exact ⟨Or.inr rfl, Or.inr rfl, Or.inr rfl, trivial⟩) (ih (x := gChS (aF a) c t x) (by omega) (by omega) (by unfold gChS; rw [eA]; first | exact TX.add (by decide) (TX.add (by decide) q2) | exact TX.add (by decide) (TX.add (by decide) (TX.add (by decide) q2))) (fun q j h1 h2 => by (repeat rw [up_ne (Or.inl (by omega))]); exact q3 q j h1 h2) (by have := @gChS_len (aF a) c t x; omega) qc kx)
set_option maxHeartbeats 1000000 in
theorem c_X8_formatChain {Γ : jE} (hl : Γ.1.stackTraces = false) {s : Nat → Int → Int} {ε : jEps} {d : Nat} {c : Int} {a : AS} (hd : 3 ≤ d) (p0 : CI s a) (p1 : AI a) (p2 : -2147483648 ≤ c ∧ c < 2147483648) : Con Γ (d, 1, 6) mX8_formatChain [.ref 0, .int (iI c)] (jmem s ε) (RQ (fun w s' => (0 ≤ c ∧ c < (aF a) (18 + (aF a) 1)) ∧ ((gChT (aF a) c).length : Int) = w ∧ CI s' (aTxt a (gChT (aF a) c)) ∧ HiE s s') ε) (XT "java/lang/IndexOutOfBoundsException" (¬ (0 ≤ c ∧ c < (aF a) (18 + (aF a) 1))) s ε) := by
  refine Con.ofJ (by decide +kernel) (by simp [Value.category]) (Nat.le_of_ble_eq_true rfl) ?_ hl
  have hw := RM.w p0.m
  have fl := p1.1.1
  have fv := p1.1.2
  have n8 := p1.2.1
  have s3 := p0.2.2.1
  have f5 := p1.1.2.moves
  refine J.aload_n 0 dX8_formatChain_0 rfl rfl ?_
  refine J.iload_n 1 dX8_formatChain_1 rfl rfl ?_
  refine I.callV1wX (b' := (d - 1, 1, 6)) (mi' := mX8_needChain) dX8_formatChain_2 lX8_181 eX8_needChain rfl rfl (c_X8_needChain (d := d - 1) hl (by omega) p0.m (by first | omega | assumption)) (show d - 1 + 1 ≤ d ∧ 1 ≤ 1 ∧ 6 ≤ 6 from ⟨by omega, by decide, by decide⟩) (by rintro E M' ⟨rfl, hc, rfl⟩; exact ⟨rfl, hc, rfl⟩) (Nat.le_of_ble_eq_true rfl) ?_
  rintro _ ⟨rfl, ok2⟩
  have e := RM.e p0.m c ok2.1 ok2.2
  refine J.aload_n 0 dX8_formatChain_5 rfl rfl ?_
  refine I.getR dX8_formatChain_6 jcls fX8_61 rfl (by decide) rfl rfl ?_
  refine I.iconst dX8_formatChain_9 ?_
  refine I.pI 1 rfl dX8_formatChain_10 jcls fX8_325 rfl (by decide) rfl ?_
  refine I.iconst dX8_formatChain_13 ?_
  refine J.istore_n 2 dX8_formatChain_14 rfl (by decide) rfl ?_
  refine J.fgt (by exact ⟨Or.inr rfl, Or.inr rfl, Or.inr rfl, trivial⟩) (k_X8_formatChain_15 hl (by omega) p0 p1 p2 (((aF a) (37 + c) - (aF a) (34 + c) + 1).toNat) (by omega) (by omega) (TX.nil (up_eq _ _ _ _)) (fun q j h1 h2 => up_ne (Or.inl h1)) (by simp) ok2 ?_)
  rintro s15 h15
  refine J.aload_n 0 dX8_formatChain_84 rfl rfl ?_
  refine I.getR dX8_formatChain_85 jcls fX8_61 rfl (by decide) rfl rfl ?_
  refine I.gI 1 rfl dX8_formatChain_88 jcls fX8_325 rfl (by decide) rfl ?_
  refine I.sx h15.1.1 ?_
  exact I.iretQ dX8_formatChain_91 rfl ⟨ok2, rfl, p0.txt (fun q j x y z => h15.2 q j x y) (p0.so.keep fun q j x => h15.2 q j (by omega) (by omega)) h15.1, fun q j x => h15.2 q j (by omega) (by omega)⟩
set_option maxHeartbeats 1000000 in
theorem c_X8_formatLog {Γ : jE} (hl : Γ.1.stackTraces = false) {s : Nat → Int → Int} {ε : jEps} {d : Nat} {a : AS} (hd : 3 ≤ d) (p0 : CI s a) (p1 : AI a) : Con Γ (d, 0, 0) mX8_formatLog [.ref 0] (jmem s ε) (RQ (fun w s' => ((gLogT (aF a) 0).length : Int) = w ∧ CI s' (aTxt a (gLogT (aF a) 0)) ∧ HiE s s') ε) X0 := by
  refine Con.ofJ (by decide +kernel) (by simp [Value.category]) (Nat.le_of_ble_eq_true rfl) ?_ hl
  have hw := RM.w p0.m
  have fl := p1.1.1
  have fv := p1.1.2
  have n8 := p1.2.1
  have s3 := p0.2.2.1
  have f5 := p1.1.2.moves
  refine J.aload_n 0 dX8_formatLog_0 rfl rfl ?_
  refine I.getR dX8_formatLog_1 jcls fX8_61 rfl (by decide) rfl rfl ?_
  refine J.aload_n 0 dX8_formatLog_4 rfl rfl ?_
  refine I.getR dX8_formatLog_5 jcls fX8_30 rfl (by decide) rfl rfl ?_
  refine I.getR dX8_formatLog_8 jcls fX8_129 rfl (by decide) rfl rfl ?_
  refine I.iconst dX8_formatLog_11 ?_
  refine I.callV2w (d' := d - 1) (mi' := mX7_showMoves) dX8_formatLog_12 lX8_331 eX7_showMoves rfl rfl (c_X7_showMoves (d := d - 1) hl (by omega) jt28 p0.m.t fv (by first | omega | assumption) (by first | omega | assumption)) (show d - 1 + 1 ≤ d from by omega) (Nat.le_of_ble_eq_true rfl) ?_
  rintro s12 ⟨t12, w12⟩
  refine J.aload_n 0 dX8_formatLog_15 rfl rfl ?_
  refine I.getR dX8_formatLog_16 jcls fX8_61 rfl (by decide) rfl rfl ?_
  refine I.gI 1 rfl dX8_formatLog_19 jcls fX8_325 rfl (by decide) rfl ?_
  refine I.sx t12.1 ?_
  exact I.iretQ dX8_formatLog_22 rfl ⟨rfl, p0.txt (fun q j x y z => w12 q j x y) (p0.so.keep fun q j x => w12 q j (by omega) (by omega)) t12, fun q j x => w12 q j (by omega) (by omega)⟩
set_option maxHeartbeats 1000000 in
theorem c_X8_formatOptimalLine {Γ : jE} (hl : Γ.1.stackTraces = false) {s : Nat → Int → Int} {ε : jEps} {d : Nat} {a : AS} (hd : 7 ≤ d) (p0 : CI s a) (p1 : AI a) : Con Γ (d, 0, 0) mX8_formatOptimalLine [.ref 0] (jmem s ε) (RQ (fun w s' => ((gLogT (gRun 42 (aF a)) ((aF a) 5)).length : Int) = w ∧ CI s' (aTxt a (gLogT (gRun 42 (aF a)) ((aF a) 5))) ∧ HiE s s') ε) X0 := by
  refine Con.ofJ (by decide +kernel) (by simp [Value.category]) (Nat.le_of_ble_eq_true rfl) ?_ hl
  have hw := RM.w p0.m
  have fl := p1.1.1
  have fv := p1.1.2
  have n8 := p1.2.1
  have s3 := p0.2.2.1
  have f5 := p1.1.2.moves
  have gr := @gRun_5 42 (aF a)
  have cr := @gCnt_rng 42 (aF a)
  refine J.aload_n 0 dX8_formatOptimalLine_0 rfl rfl ?_
  refine I.callV0w (d' := d - 1) (mi' := mX8_tryOptimalLine) dX8_formatOptimalLine_1 lX8_270 eX8_tryOptimalLine rfl rfl (c_X8_tryOptimalLine (d := d - 1) hl (by omega) p0.m p0.so) (show d - 1 + 1 ≤ d from by omega) (Nat.le_of_ble_eq_true rfl) ?_
  rintro s1 ⟨⟨t1, r1⟩, c1⟩
  obtain ⟨ci1, hi1⟩ := p0.cfr c1
  refine J.aload_n 0 dX8_formatOptimalLine_4 rfl rfl ?_
  refine I.getR dX8_formatOptimalLine_5 jcls fX8_61 rfl (by decide) rfl rfl ?_
  refine J.aload_n 0 dX8_formatOptimalLine_8 rfl rfl ?_
  refine I.getR dX8_formatOptimalLine_9 jcls fX8_34 rfl (by decide) rfl rfl ?_
  refine I.getR dX8_formatOptimalLine_12 jcls fX8_129 rfl (by decide) rfl rfl ?_
  refine J.aload_n 0 dX8_formatOptimalLine_15 rfl rfl ?_
  refine I.getR dX8_formatOptimalLine_16 jcls fX8_30 rfl (by decide) rfl rfl ?_
  refine I.getR dX8_formatOptimalLine_19 jcls fX8_129 rfl (by decide) rfl rfl ?_
  refine I.gI 5 rfl dX8_formatOptimalLine_22 jcls fX8_221 rfl (by decide) rfl ?_
  refine I.sx (RM.logged r1) ?_
  refine I.callV2w (d' := d - 1) (mi' := mX7_showMoves) dX8_formatOptimalLine_25 lX8_331 eX7_showMoves rfl rfl (c_X7_showMoves (d := d - 1) hl (by omega) jt43 t1.t t1.v (by omega) (by first | omega | assumption)) (show d - 1 + 1 ≤ d from by omega) (Nat.le_of_ble_eq_true rfl) ?_
  rintro s25 ⟨t25, w25⟩
  refine J.aload_n 0 dX8_formatOptimalLine_28 rfl rfl ?_
  refine I.getR dX8_formatOptimalLine_29 jcls fX8_61 rfl (by decide) rfl rfl ?_
  refine I.gI 1 rfl dX8_formatOptimalLine_32 jcls fX8_325 rfl (by decide) rfl ?_
  refine I.sx t25.1 ?_
  exact I.iretQ dX8_formatOptimalLine_35 rfl ⟨rfl, ci1.txt (fun q j x y z => w25 q j x y) (ci1.so.keep fun q j x => w25 q j (by omega) (by omega)) t25, fun q j x => (w25 q j (by omega) (by omega)).trans (hi1 q j x)⟩
set_option maxHeartbeats 1000000 in
theorem c_X8_formattedCharacter {Γ : jE} (hl : Γ.1.stackTraces = false) {s : Nat → Int → Int} {ε : jEps} {d : Nat} {i : Int} {a : AS} (hd : 1 ≤ d) (p0 : CI s a) (p1 : AI a) (p2 : -2147483648 ≤ i ∧ i < 2147483648) : Con Γ (d, 1, 6) mX8_formattedCharacter [.ref 0, .int (iI i)] (jmem s ε) (RQ (fun w s' => (0 ≤ i ∧ i < ((aX a).length : Int)) ∧ (aX a).getD i.toNat 0 = w ∧ s' = s) ε) (XT "java/lang/IndexOutOfBoundsException" (¬ (0 ≤ i ∧ i < ((aX a).length : Int))) s ε) := by
  refine Con.ofJ (by decide +kernel) (by simp [Value.category]) (Nat.le_of_ble_eq_true rfl) ?_ hl
  have xx := p1.2.2.2.2.2.1
  have tx := p0.2.2.2.2.1
  refine J.iload_n 1 dX8_formattedCharacter_0 rfl rfl ?_
  refine I.if_lt 15 dX8_formattedCharacter_1 (by decide) (by omega) (fun h1 => ?_) (fun h1 => ?_)
  · skip
    exact I.throw277 (text := "no such character") rfl (by decide) (Or.inr ⟨dX8_formattedCharacter_15, dX8_formattedCharacter_18, dX8_formattedCharacter_19, dX8_formattedCharacter_22, dX8_formattedCharacter_25⟩) (show 1 ≤ 1 ∧ 6 ≤ 6 from by decide) ⟨rfl, by omega, rfl⟩
  · skip
    refine J.iload_n 1 dX8_formattedCharacter_4 rfl rfl ?_
    refine J.aload_n 0 dX8_formattedCharacter_5 rfl rfl ?_
    refine I.getR dX8_formattedCharacter_6 jcls fX8_61 rfl (by decide) rfl rfl ?_
    refine I.gI 1 rfl dX8_formattedCharacter_9 jcls fX8_325 rfl (by decide) rfl ?_
    refine I.sx tx.1 ?_
    refine I.icmp_lt 26 dX8_formattedCharacter_12 (by decide) (by omega) (by omega) (fun h12 => ?_) (fun h12 => ?_)
    · skip
      have gi := tx.2 i.toNat (by omega)
      rw [Int.toNat_of_nonneg h1] at gi
      have gr := xx.2 _ (getD_mem (show i.toNat < (aX a).length by omega))
      refine J.aload_n 0 dX8_formattedCharacter_26 rfl rfl ?_
      refine I.getR dX8_formattedCharacter_27 jcls fX8_61 rfl (by decide) rfl rfl ?_
      refine I.getR dX8_formattedCharacter_30 jcls fX8_337 rfl (by decide) rfl rfl ?_
      refine J.iload_n 1 dX8_formattedCharacter_33 rfl rfl ?_
      refine I.callS2i (d' := d - 1) (mi' := mX8_at) dX8_formattedCharacter_34 lX8_170 eX8_at rfl (c_X8_at (d := d - 1) hl (by omega) rfl (by first | omega | assumption) (by first | omega | assumption)) (show d - 1 + 1 ≤ d from by omega) (Nat.le_of_ble_eq_true rfl) ?_
      refine I.sx gi ?_
      refine I.i2c dX8_formattedCharacter_37 gr ?_
      exact I.cretQ dX8_formattedCharacter_38 rfl gr ⟨by omega, rfl, rfl⟩
    · skip
      exact I.throw277 (text := "no such character") rfl (by decide) (Or.inr ⟨dX8_formattedCharacter_15, dX8_formattedCharacter_18, dX8_formattedCharacter_19, dX8_formattedCharacter_22, dX8_formattedCharacter_25⟩) (show 1 ≤ 1 ∧ 6 ≤ 6 from by decide) ⟨rfl, by omega, rfl⟩
