set_option maxHeartbeats 1000000 in
theorem c_X0_clear {Γ : jE} (hl : Γ.1.stackTraces = false) {s : Nat → Int → Int} {ε : jEps} {d : Nat} (hd : 0 ≤ d) : Con Γ (d, 0, 0) mX0_clear [.ref 61] (jmem s ε) (RV (up s 61 1 0) ε) X0 := by
  refine Con.ofJ (by decide +kernel) (by simp [Value.category]) (Nat.le_of_ble_eq_true rfl) ?_ hl
  refine J.aload_n 0 dX0_clear_0 rfl rfl ?_
  refine I.iconst dX0_clear_1 ?_
  refine I.pI 1 rfl dX0_clear_2 jcls fX0_18 rfl (by decide) rfl ?_
  exact I.vret dX0_clear_5 rfl rfl
set_option maxHeartbeats 1000000 in
theorem c_X0_slotAt {Γ : jE} (hl : Γ.1.stackTraces = false) {s : Nat → Int → Int} {ε : jEps} {d : Nat} {i : Int} (hd : 0 ≤ d) (p0 : 0 ≤ i ∧ i < 8) : Con Γ (d, 0, 0) mX0_slotAt [.ref 61, .int (iI i)] (jmem s ε) (RR (63 + 8 * i.toNat) (s) ε) X0 := by
  refine Con.ofJ (by decide +kernel) (by simp [Value.category]) (Nat.le_of_ble_eq_true rfl) ?_ hl
  refine J.iload_n 1 dX0_slotAt_0 rfl rfl ?_
  refine I.if_lt 22 dX0_slotAt_1 (by decide) (by omega) (fun h1 => ?_) (fun h1 => ?_)
  · exact absurd h1 (by omega)
  · skip
    refine J.iload_n 1 dX0_slotAt_4 rfl rfl ?_
    refine J.aload_n 0 dX0_slotAt_5 rfl rfl ?_
    refine I.getR dX0_slotAt_6 jcls fX0_11 rfl (by decide) rfl rfl ?_
    refine I.alen dX0_slotAt_9 rfl (by decide) ?_
    refine I.icmp_ge 22 dX0_slotAt_10 (by decide) (by omega) (by omega) (fun h10 => ?_) (fun h10 => ?_)
    · exact absurd h10 (by omega)
    · skip
      refine J.aload_n 0 dX0_slotAt_13 rfl rfl ?_
      refine I.getR dX0_slotAt_14 jcls fX0_11 rfl (by decide) rfl rfl ?_
      refine J.iload_n 1 dX0_slotAt_17 rfl rfl ?_
      refine I.aald dX0_slotAt_18 rfl (by omega) (by omega) (jtau62 (by omega)) ?_
      refine J.goto 23 dX0_slotAt_19 (by decide) ?_
      exact J.aret rfl dX0_slotAt_23 ⟨rfl, rfl⟩
set_option maxHeartbeats 1000000 in
theorem c_X0_remember {Γ : jE} (hl : Γ.1.stackTraces = false) {s : Nat → Int → Int} {ε : jEps} {d : Nat} {t : Nat} (hd : 2 ≤ d) (ht : jIsT t) (p0 : t + 8 ≤ 61 ∨ 127 ≤ t) (p1 : 0 ≤ s 61 2 ∧ s 61 2 < 8) (p2 : 0 ≤ s 61 1 ∧ s 61 1 ≤ 8) (p3 : s t 4 = 0 ∨ s t 4 = 1) : Con Γ (d, 0, 0) mX0_remember [.ref 61, .ref t] (jmem s ε) (RW (fun s' => (∀ q i, q ≠ 61 → (q < 63 + 8 * (s 61 2).toNat ∨ 63 + 8 * (s 61 2).toNat + 8 ≤ q) → s' q i = s q i) ∧ s' 61 2 = (if s 61 2 + 1 < 8 then s 61 2 + 1 else 0) ∧ s' 61 1 = min (s 61 1 + 1) 8 ∧ (∀ i, 0 ≤ i → i < 6 → s' (63 + 8 * (s 61 2).toNat) i = s (t) i) ∧ (∀ i, 0 ≤ i → i < 3 → s' (63 + 8 * (s 61 2).toNat + 1) i = s (t + 1) i) ∧ (∀ i, 0 ≤ i → i < 3 → s' (63 + 8 * (s 61 2).toNat + 2) i = s (t + 2) i) ∧ (∀ i, 0 ≤ i → i < 8 → s' (63 + 8 * (s 61 2).toNat + 3) i = s (t + 3) i) ∧ (∀ i, 0 ≤ i → i < 2 → s' (63 + 8 * (s 61 2).toNat + 4) i = s (t + 4) i) ∧ (∀ i, 0 ≤ i → i < 2 → s' (63 + 8 * (s 61 2).toNat + 5) i = s (t + 5) i) ∧ (∀ i, 0 ≤ i → i < 42 → s' (63 + 8 * (s 61 2).toNat + 6) i = s (t + 6) i) ∧ (∀ i, 0 ≤ i → i < 42 → s' (63 + 8 * (s 61 2).toNat + 7) i = s (t + 7) i)) ε) X0 := by
  refine Con.ofJ (by decide +kernel) (by simp [Value.category]) (Nat.le_of_ble_eq_true rfl) ?_ hl
  refine J.aload_n 0 dX0_remember_0 rfl rfl ?_
  refine J.aload_n 0 dX0_remember_1 rfl rfl ?_
  refine I.gI 2 rfl dX0_remember_2 jcls fX0_22 rfl (by decide) rfl ?_
  refine I.callV1r (d' := d - 1) (mi' := mX0_slotAt) dX0_remember_5 lX0_25 eX0_slotAt rfl rfl (c_X0_slotAt (d := d - 1) hl (by omega) (by first | omega | assumption)) (show d - 1 + 1 ≤ d from by omega) (Nat.le_of_ble_eq_true rfl) ?_
  refine J.astore_n 2 dX0_remember_8 rfl (by decide) rfl ?_
  refine J.aload_n 2 dX0_remember_9 rfl rfl ?_
  refine J.ifnullR dX0_remember_10 ?_
  refine J.aload_n 2 dX0_remember_13 rfl rfl ?_
  refine J.aload_n 1 dX0_remember_14 rfl rfl ?_
  refine I.callV1w (d' := d - 1) (mi' := mX6_copyFrom) dX0_remember_15 lX0_29 eX6_copyFrom (shT (jth (by omega))) rfl (c_X6_copyFrom (d := d - 1) hl (by omega) (jth (by omega)) ht (by first | omega | assumption) (by first | omega | assumption)) (show d - 1 + 1 ≤ d from by omega) (Nat.le_of_ble_eq_true rfl) ?_
  rintro s1 ⟨a, a0, a1, a2, a3, a4, a5, a6, a7⟩
  refine J.aload_n 0 dX0_remember_18 rfl rfl ?_
  refine J.aload_n 0 dX0_remember_19 rfl rfl ?_
  refine I.gI 2 rfl dX0_remember_20 jcls fX0_22 rfl (by decide) rfl ?_
  refine I.sx (show _ = s 61 2 from a _ _ (by omega)) ?_
  refine I.iconst dX0_remember_23 ?_
  refine I.add dX0_remember_24 ?_
  refine I.bipush dX0_remember_25 (by decide) ?_
  refine I.icmp_ge 39 dX0_remember_27 (by decide) (by omega) (by omega) (fun h27 => ?_) (fun h27 => ?_)
  · skip
    refine I.iconst dX0_remember_39 ?_
    refine I.pI 2 rfl dX0_remember_40 jcls fX0_22 rfl (by decide) rfl ?_
    refine J.aload_n 0 dX0_remember_43 rfl rfl ?_
    refine J.aload_n 0 dX0_remember_44 rfl rfl ?_
    refine I.gI 1 rfl dX0_remember_45 jcls fX0_18 rfl (by decide) rfl ?_
    refine I.sx (show _ = s 61 1 from by rw [up_ne (Or.inr (by decide)), a _ _ (by omega)]) ?_
    refine I.iconst dX0_remember_48 ?_
    refine I.add dX0_remember_49 ?_
    refine I.bipush dX0_remember_50 (by decide) ?_
    refine I.mmin dX0_remember_52 lX0_33 (by omega) (by omega) (Nat.le_of_ble_eq_true rfl) ?_
    refine I.pI 1 rfl dX0_remember_55 jcls fX0_18 rfl (by decide) rfl ?_
    exact I.vretQ dX0_remember_58 rfl (by
      refine ⟨?_, ?_, up_eq _ _ _ _, ?_, ?_, ?_, ?_, ?_, ?_, ?_, ?_⟩
      · intro q i g1 g2; rw [up_ne (Or.inl g1), up_ne (Or.inl g1)]; exact a q i g2
      · rw [up_ne (Or.inr (by decide))]; first | exact (up_eq _ _ _ _).trans (if_pos (by assumption)).symm | exact (up_eq _ _ _ _).trans (if_neg (by omega)).symm
      · intro i g1 g2; rw [up_ne (Or.inl (by omega)), up_ne (Or.inl (by omega))]; exact a0 i g1 g2
      · intro i g1 g2; rw [up_ne (Or.inl (by omega)), up_ne (Or.inl (by omega))]; exact a1 i g1 g2
      · intro i g1 g2; rw [up_ne (Or.inl (by omega)), up_ne (Or.inl (by omega))]; exact a2 i g1 g2
      · intro i g1 g2; rw [up_ne (Or.inl (by omega)), up_ne (Or.inl (by omega))]; exact a3 i g1 g2
      · intro i g1 g2; rw [up_ne (Or.inl (by omega)), up_ne (Or.inl (by omega))]; exact a4 i g1 g2
      · intro i g1 g2; rw [up_ne (Or.inl (by omega)), up_ne (Or.inl (by omega))]; exact a5 i g1 g2
      · intro i g1 g2; rw [up_ne (Or.inl (by omega)), up_ne (Or.inl (by omega))]; exact a6 i g1 g2
      · intro i g1 g2; rw [up_ne (Or.inl (by omega)), up_ne (Or.inl (by omega))]; exact a7 i g1 g2)
  · skip
    refine J.aload_n 0 dX0_remember_30 rfl rfl ?_
    refine I.gI 2 rfl dX0_remember_31 jcls fX0_22 rfl (by decide) rfl ?_
    refine I.sx (show _ = s 61 2 from a _ _ (by omega)) ?_
    refine I.iconst dX0_remember_34 ?_
    refine I.add dX0_remember_35 ?_
    refine J.goto 40 dX0_remember_36 (by decide) ?_
    refine I.pI 2 rfl dX0_remember_40 jcls fX0_22 rfl (by decide) rfl ?_
    refine J.aload_n 0 dX0_remember_43 rfl rfl ?_
    refine J.aload_n 0 dX0_remember_44 rfl rfl ?_
    refine I.gI 1 rfl dX0_remember_45 jcls fX0_18 rfl (by decide) rfl ?_
    refine I.sx (show _ = s 61 1 from by rw [up_ne (Or.inr (by decide)), a _ _ (by omega)]) ?_
    refine I.iconst dX0_remember_48 ?_
    refine I.add dX0_remember_49 ?_
    refine I.bipush dX0_remember_50 (by decide) ?_
    refine I.mmin dX0_remember_52 lX0_33 (by omega) (by omega) (Nat.le_of_ble_eq_true rfl) ?_
    refine I.pI 1 rfl dX0_remember_55 jcls fX0_18 rfl (by decide) rfl ?_
    exact I.vretQ dX0_remember_58 rfl (by
      refine ⟨?_, ?_, up_eq _ _ _ _, ?_, ?_, ?_, ?_, ?_, ?_, ?_, ?_⟩
      · intro q i g1 g2; rw [up_ne (Or.inl g1), up_ne (Or.inl g1)]; exact a q i g2
      · rw [up_ne (Or.inr (by decide))]; first | exact (up_eq _ _ _ _).trans (if_pos (by assumption)).symm | exact (up_eq _ _ _ _).trans (if_neg (by omega)).symm
      · intro i g1 g2; rw [up_ne (Or.inl (by omega)), up_ne (Or.inl (by omega))]; exact a0 i g1 g2
      · intro i g1 g2; rw [up_ne (Or.inl (by omega)), up_ne (Or.inl (by omega))]; exact a1 i g1 g2
      · intro i g1 g2; rw [up_ne (Or.inl (by omega)), up_ne (Or.inl (by omega))]; exact a2 i g1 g2
      · intro i g1 g2; rw [up_ne (Or.inl (by omega)), up_ne (Or.inl (by omega))]; exact a3 i g1 g2
      · intro i g1 g2; rw [up_ne (Or.inl (by omega)), up_ne (Or.inl (by omega))]; exact a4 i g1 g2
      · intro i g1 g2; rw [up_ne (Or.inl (by omega)), up_ne (Or.inl (by omega))]; exact a5 i g1 g2
      · intro i g1 g2; rw [up_ne (Or.inl (by omega)), up_ne (Or.inl (by omega))]; exact a6 i g1 g2
      · intro i g1 g2; rw [up_ne (Or.inl (by omega)), up_ne (Or.inl (by omega))]; exact a7 i g1 g2)
set_option maxHeartbeats 1000000 in
theorem c_X0_takeBack {Γ : jE} (hl : Γ.1.stackTraces = false) {s : Nat → Int → Int} {ε : jEps} {d : Nat} {t : Nat} {p : Int} (hd : 2 ≤ d) (ht : jIsT t) (p0 : t + 8 ≤ 61 ∨ 127 ≤ t) (p1 : 0 ≤ s 61 2 ∧ s 61 2 < 8) (p2 : p = (if 0 < s 61 2 then s 61 2 - 1 else 7)) (p3 : s (63 + 8 * p.toNat) 4 = 0 ∨ s (63 + 8 * p.toNat) 4 = 1) : Con Γ (d, 0, 0) mX0_takeBack [.ref 61, .ref t] (jmem s ε) (RW (fun s' => (∀ q i, q ≠ 61 → (q < t ∨ t + 8 ≤ q) → s' q i = s q i) ∧ s' 61 2 = p ∧ s' 61 1 = s 61 1 - 1 ∧ (∀ i, 0 ≤ i → i < 6 → s' (t) i = s (63 + 8 * p.toNat) i) ∧ (∀ i, 0 ≤ i → i < 3 → s' (t + 1) i = s (63 + 8 * p.toNat + 1) i) ∧ (∀ i, 0 ≤ i → i < 3 → s' (t + 2) i = s (63 + 8 * p.toNat + 2) i) ∧ (∀ i, 0 ≤ i → i < 8 → s' (t + 3) i = s (63 + 8 * p.toNat + 3) i) ∧ (∀ i, 0 ≤ i → i < 2 → s' (t + 4) i = s (63 + 8 * p.toNat + 4) i) ∧ (∀ i, 0 ≤ i → i < 2 → s' (t + 5) i = s (63 + 8 * p.toNat + 5) i) ∧ (∀ i, 0 ≤ i → i < 42 → s' (t + 6) i = s (63 + 8 * p.toNat + 6) i) ∧ (∀ i, 0 ≤ i → i < 42 → s' (t + 7) i = s (63 + 8 * p.toNat + 7) i)) ε) X0 := by
  refine Con.ofJ (by decide +kernel) (by simp [Value.category]) (Nat.le_of_ble_eq_true rfl) ?_ hl
  refine J.aload_n 0 dX0_takeBack_0 rfl rfl ?_
  refine J.aload_n 0 dX0_takeBack_1 rfl rfl ?_
  refine I.gI 2 rfl dX0_takeBack_2 jcls fX0_22 rfl (by decide) rfl ?_
  refine I.if_le 17 dX0_takeBack_5 (by decide) (by omega) (fun h5 => ?_) (fun h5 => ?_)
  · skip
    refine I.bipush dX0_takeBack_17 (by decide) ?_
    refine I.pI 2 rfl dX0_takeBack_19 jcls fX0_22 rfl (by decide) rfl ?_
    refine J.aload_n 0 dX0_takeBack_22 rfl rfl ?_
    refine J.aload_n 0 dX0_takeBack_23 rfl rfl ?_
    refine I.gI 2 rfl dX0_takeBack_24 jcls fX0_22 rfl (by decide) rfl ?_
    refine I.sx (show _ = p from (up_eq _ _ _ _).trans (by omega)) ?_
    refine I.callV1r (d' := d - 1) (mi' := mX0_slotAt) dX0_takeBack_27 lX0_25 eX0_slotAt rfl rfl (c_X0_slotAt (d := d - 1) hl (by omega) (by first | omega | assumption)) (show d - 1 + 1 ≤ d from by omega) (Nat.le_of_ble_eq_true rfl) ?_
    refine J.astore_n 2 dX0_takeBack_30 rfl (by decide) rfl ?_
    refine J.aload_n 2 dX0_takeBack_31 rfl rfl ?_
    refine J.ifnullR dX0_takeBack_32 ?_
    refine J.aload_n 1 dX0_takeBack_35 rfl rfl ?_
    refine J.aload_n 2 dX0_takeBack_36 rfl rfl ?_
    refine I.callV1w (d' := d - 1) (mi' := mX6_copyFrom) dX0_takeBack_37 lX0_29 eX6_copyFrom (shT ht) rfl (c_X6_copyFrom (d := d - 1) hl (by omega) ht (jth (by omega)) (by first | omega | assumption) (by rw [up_ne (Or.inl (by omega))]; exact p3)) (show d - 1 + 1 ≤ d from by omega) (Nat.le_of_ble_eq_true rfl) ?_
    rintro s1 ⟨a, a0, a1, a2, a3, a4, a5, a6, a7⟩
    refine J.aload_n 0 dX0_takeBack_40 rfl rfl ?_
    refine J.dupR dX0_takeBack_41 ?_
    refine I.gI 1 rfl dX0_takeBack_42 jcls fX0_18 rfl (by decide) rfl ?_
    refine I.sx (show _ = s 61 1 from by rw [a _ _ (by omega), up_ne (Or.inr (by decide))]) ?_
    refine I.iconst dX0_takeBack_45 ?_
    refine I.sub dX0_takeBack_46 ?_
    refine I.pI 1 rfl dX0_takeBack_47 jcls fX0_18 rfl (by decide) rfl ?_
    exact I.vretQ dX0_takeBack_50 rfl (by
      refine ⟨?_, ?_, up_eq _ _ _ _, ?_, ?_, ?_, ?_, ?_, ?_, ?_, ?_⟩
      · intro q i g1 g2; rw [up_ne (Or.inl g1), a q i g2, up_ne (Or.inl g1)]
      · rw [up_ne (Or.inr (by decide)), a _ _ (by omega)]; exact (up_eq _ _ _ _).trans (by omega)
      · intro i g1 g2; rw [up_ne (Or.inl (by omega)), a0 i g1 g2, up_ne (Or.inl (by omega))]
      · intro i g1 g2; rw [up_ne (Or.inl (by omega)), a1 i g1 g2, up_ne (Or.inl (by omega))]
      · intro i g1 g2; rw [up_ne (Or.inl (by omega)), a2 i g1 g2, up_ne (Or.inl (by omega))]
      · intro i g1 g2; rw [up_ne (Or.inl (by omega)), a3 i g1 g2, up_ne (Or.inl (by omega))]
      · intro i g1 g2; rw [up_ne (Or.inl (by omega)), a4 i g1 g2, up_ne (Or.inl (by omega))]
      · intro i g1 g2; rw [up_ne (Or.inl (by omega)), a5 i g1 g2, up_ne (Or.inl (by omega))]
      · intro i g1 g2; rw [up_ne (Or.inl (by omega)), a6 i g1 g2, up_ne (Or.inl (by omega))]
      · intro i g1 g2; rw [up_ne (Or.inl (by omega)), a7 i g1 g2, up_ne (Or.inl (by omega))])
  · skip
    refine J.aload_n 0 dX0_takeBack_8 rfl rfl ?_
    refine I.gI 2 rfl dX0_takeBack_9 jcls fX0_22 rfl (by decide) rfl ?_
    refine I.iconst dX0_takeBack_12 ?_
    refine I.sub dX0_takeBack_13 ?_
    refine J.goto 19 dX0_takeBack_14 (by decide) ?_
    refine I.pI 2 rfl dX0_takeBack_19 jcls fX0_22 rfl (by decide) rfl ?_
    refine J.aload_n 0 dX0_takeBack_22 rfl rfl ?_
    refine J.aload_n 0 dX0_takeBack_23 rfl rfl ?_
    refine I.gI 2 rfl dX0_takeBack_24 jcls fX0_22 rfl (by decide) rfl ?_
    refine I.sx (show _ = p from (up_eq _ _ _ _).trans (by omega)) ?_
    refine I.callV1r (d' := d - 1) (mi' := mX0_slotAt) dX0_takeBack_27 lX0_25 eX0_slotAt rfl rfl (c_X0_slotAt (d := d - 1) hl (by omega) (by first | omega | assumption)) (show d - 1 + 1 ≤ d from by omega) (Nat.le_of_ble_eq_true rfl) ?_
    refine J.astore_n 2 dX0_takeBack_30 rfl (by decide) rfl ?_
    refine J.aload_n 2 dX0_takeBack_31 rfl rfl ?_
    refine J.ifnullR dX0_takeBack_32 ?_
    refine J.aload_n 1 dX0_takeBack_35 rfl rfl ?_
    refine J.aload_n 2 dX0_takeBack_36 rfl rfl ?_
    refine I.callV1w (d' := d - 1) (mi' := mX6_copyFrom) dX0_takeBack_37 lX0_29 eX6_copyFrom (shT ht) rfl (c_X6_copyFrom (d := d - 1) hl (by omega) ht (jth (by omega)) (by first | omega | assumption) (by rw [up_ne (Or.inl (by omega))]; exact p3)) (show d - 1 + 1 ≤ d from by omega) (Nat.le_of_ble_eq_true rfl) ?_
    rintro s1 ⟨a, a0, a1, a2, a3, a4, a5, a6, a7⟩
    refine J.aload_n 0 dX0_takeBack_40 rfl rfl ?_
    refine J.dupR dX0_takeBack_41 ?_
    refine I.gI 1 rfl dX0_takeBack_42 jcls fX0_18 rfl (by decide) rfl ?_
    refine I.sx (show _ = s 61 1 from by rw [a _ _ (by omega), up_ne (Or.inr (by decide))]) ?_
    refine I.iconst dX0_takeBack_45 ?_
    refine I.sub dX0_takeBack_46 ?_
    refine I.pI 1 rfl dX0_takeBack_47 jcls fX0_18 rfl (by decide) rfl ?_
    exact I.vretQ dX0_takeBack_50 rfl (by
      refine ⟨?_, ?_, up_eq _ _ _ _, ?_, ?_, ?_, ?_, ?_, ?_, ?_, ?_⟩
      · intro q i g1 g2; rw [up_ne (Or.inl g1), a q i g2, up_ne (Or.inl g1)]
      · rw [up_ne (Or.inr (by decide)), a _ _ (by omega)]; exact (up_eq _ _ _ _).trans (by omega)
      · intro i g1 g2; rw [up_ne (Or.inl (by omega)), a0 i g1 g2, up_ne (Or.inl (by omega))]
      · intro i g1 g2; rw [up_ne (Or.inl (by omega)), a1 i g1 g2, up_ne (Or.inl (by omega))]
      · intro i g1 g2; rw [up_ne (Or.inl (by omega)), a2 i g1 g2, up_ne (Or.inl (by omega))]
      · intro i g1 g2; rw [up_ne (Or.inl (by omega)), a3 i g1 g2, up_ne (Or.inl (by omega))]
      · intro i g1 g2; rw [up_ne (Or.inl (by omega)), a4 i g1 g2, up_ne (Or.inl (by omega))]
      · intro i g1 g2; rw [up_ne (Or.inl (by omega)), a5 i g1 g2, up_ne (Or.inl (by omega))]
      · intro i g1 g2; rw [up_ne (Or.inl (by omega)), a6 i g1 g2, up_ne (Or.inl (by omega))]
      · intro i g1 g2; rw [up_ne (Or.inl (by omega)), a7 i g1 g2, up_ne (Or.inl (by omega))])
set_option maxHeartbeats 1000000 in
theorem c_X7_add {Γ : jE} (hl : Γ.1.stackTraces = false) {s : Nat → Int → Int} {ε : jEps} {d : Nat} {z : Int} (hd : 1 ≤ d) (p0 : 0 ≤ s 135 1 ∧ s 135 1 < 126) : Con Γ (d, 0, 0) mX7_add [.ref 135, .int (iI z)] (jmem s ε) (RV (up (up s 136 (s 135 1) z) 135 1 (s 135 1 + 1)) ε) X0 := by
  refine Con.ofJ (by decide +kernel) (by simp [Value.category]) (Nat.le_of_ble_eq_true rfl) ?_ hl
  refine J.aload_n 0 dX7_add_0 rfl rfl ?_
  refine I.getR dX7_add_1 jcls fX7_9 rfl (by decide) rfl rfl ?_
  refine J.aload_n 0 dX7_add_4 rfl rfl ?_
  refine I.gI 1 rfl dX7_add_5 jcls fX7_15 rfl (by decide) rfl ?_
  refine J.iload_n 1 dX7_add_8 rfl rfl ?_
  refine I.callSN3v (d' := d - 1) (mi' := mX8_put) dX7_add_9 nX7_19 eX8_put (c_X8_put (d := d - 1) hl (by omega) rfl (by first | omega | assumption) (by first | omega | assumption)) (show d - 1 + 1 ≤ d from by omega) (Nat.le_of_ble_eq_true rfl) ?_
  refine J.aload_n 0 dX7_add_12 rfl rfl ?_
  refine J.dupR dX7_add_13 ?_
  refine I.gI 1 rfl dX7_add_14 jcls fX7_15 rfl (by decide) rfl ?_
  refine I.sx (show _ = s 135 1 from up_ne (Or.inl (by decide))) ?_
  refine I.iconst dX7_add_17 ?_
  refine I.add dX7_add_18 ?_
  refine I.pI 1 rfl dX7_add_19 jcls fX7_15 rfl (by decide) rfl ?_
  exact I.vret dX7_add_22 rfl rfl
set_option maxHeartbeats 1000000 in
theorem k_X7_showMoves_7 {Γ : jE} (hl : Γ.1.stackTraces = false) {s : Nat → Int → Int} {ε : jEps} {d : Nat} {t : Nat} {a : Int} {f : Int → Int} (hd : 2 ≤ d) (ht : jIsT t) (p0 : RT s t f) (p1 : FS f) (p2 : 0 ≤ a ∧ a ≤ f 5) (p3 : t + 8 ≤ 135) {mc ms : Nat} {P : Option Value → jM → Prop} {X : String → jM → Prop} : ∀ (k : Nat) {z : Nat → Int → Int} {i : Int} {x : List Int} (q0 : ((k : Nat) : Int) = f 5 - i) (q1 : a ≤ i) (q2 : TX z 136 135 1 x) (q3 : ∀ q j, q ≠ 135 → q ≠ 136 → z q j = s q j) (q4 : (x.length : Int) ≤ 3 * (i - a)) (kx : ∀ s', (TX s' 136 135 1 (foldF (gLogS f a) k i x) ∧ ∀ q j, q ≠ 135 → q ≠ 136 → s' q j = s q j) → J Γ (d, mc, ms) mX7_showMoves 89 [some (.ref 135), some (.ref t), some (.int (iI a)), none, none] [] (jmem s' ε) P X), J Γ (d, mc, ms) mX7_showMoves 7 [some (.ref 135), some (.ref t), some (.int (iI a)), some (.int (iI (i))), none] [] (jmem z ε) P X := by
  have hm := FS.moves p1
  intro k
  induction k with
  | zero =>
    intro z i x q0 q1 q2 q3 q4 kx
    refine J.iload_n 3 dX7_showMoves_7 rfl rfl ?_
    refine J.aload_n 1 dX7_showMoves_8 rfl rfl ?_
    refine I.gI 5 rfl dX7_showMoves_9 jcls fX7_23 (shT ht) (by decide) rfl ?_
    refine I.sx (show _ = f 5 from (q3 _ _ (by omega) (by omega)).trans (RT.moves p0)) ?_
    refine I.icmp_ge 89 dX7_showMoves_12 (by decide) (by omega) (by omega) (fun h12 => ?_) (fun h12 => ?_)
    · skip
      exact J.fgt (by exact ⟨Or.inr rfl, Or.inr rfl, Or.inr rfl, Or.inl rfl, Or.inl rfl, trivial⟩) (kx _ ⟨q2, q3⟩)
    · exact absurd h12 (by omega)
  | succ k ih =>
    intro z i x q0 q1 q2 q3 q4 kx
    refine J.iload_n 3 dX7_showMoves_7 rfl rfl ?_
    refine J.aload_n 1 dX7_showMoves_8 rfl rfl ?_
    refine I.gI 5 rfl dX7_showMoves_9 jcls fX7_23 (shT ht) (by decide) rfl ?_
    refine I.sx (show _ = f 5 from (q3 _ _ (by omega) (by omega)).trans (RT.moves p0)) ?_
    refine I.icmp_ge 89 dX7_showMoves_12 (by decide) (by omega) (by omega) (fun h12 => ?_) (fun h12 => ?_)
    · exact absurd h12 (by omega)
    · skip
      have hlg := FS.lg p1 i (by omega) (by omega)
      have q21 := q2.1
      refine J.iload_n 3 dX7_showMoves_15 rfl rfl ?_
      refine J.iload_n 2 dX7_showMoves_16 rfl rfl ?_
      refine I.icmp_le 26 dX7_showMoves_17 (by decide) (by omega) (by omega) (fun h17 => ?_) (fun h17 => ?_)
      · skip
        have eA : (if a < i then x ++ [32] else x) = x := if_neg (by omega)
        refine J.aload_n 1 dX7_showMoves_26 rfl rfl ?_
        refine I.getR dX7_showMoves_27 jcls fX7_32 (shT ht) (by decide) rfl (taT11 ht) ?_
        refine J.iload_n 3 dX7_showMoves_30 rfl rfl ?_
        refine I.callSN2i (d' := d - 1) (mi' := mX8_at) dX7_showMoves_31 nX7_35 eX8_at (c_X8_at (d := d - 1) hl (by omega) (shT11 ht) (by first | omega | assumption) (by first | omega | assumption)) (show d - 1 + 1 ≤ d from by omega) (Nat.le_of_ble_eq_true rfl) ?_
        refine I.sx (show _ = f (136 + i) from by (repeat rw [up_ne (Or.inl (by omega))]); rw [q3 _ _ (by omega) (by omega)]; exact RT.lc p0 i (by omega) (by omega)) ?_
        refine J.istore dX7_showMoves_34 (by decide) rfl ?_
        refine J.iload dX7_showMoves_36 rfl ?_
        refine I.bipush dX7_showMoves_38 (by decide) ?_
        refine I.icmp_ne 52 dX7_showMoves_40 (by decide) (by omega) (by omega) (fun h40 => ?_) (fun h40 => ?_)
        · skip
          refine J.aload_n 0 dX7_showMoves_52 rfl rfl ?_
          refine J.iload dX7_showMoves_53 rfl ?_
          refine I.callSN1i (d' := d - 1) (mi' := mX8_isLeftCode) dX7_showMoves_55 nX7_39 eX8_isLeftCode (c_X8_isLeftCode (d := d - 1) hl (by omega) (by first | omega | assumption)) (show d - 1 + 1 ≤ d from by omega) (Nat.le_of_ble_eq_true rfl) ?_
          refine I.if_eqB 66 dX7_showMoves_58 (by decide) (fun h58 => ?_) (fun h58 => ?_)
          · skip
            have eP : gPiece (f (136 + i)) = [82, 48 + f (136 + i) / 2] := by unfold gPiece; rw [if_neg (by omega), if_neg h58]
            refine I.bipush dX7_showMoves_66 (by decide) ?_
            refine I.callV1v (d' := d - 1) (mi' := mX7_add) dX7_showMoves_68 lX7_28 eX7_add rfl rfl (c_X7_add (d := d - 1) hl (by omega) (by (repeat rw [up_eq]); omega)) (show d - 1 + 1 ≤ d from by omega) (Nat.le_of_ble_eq_true rfl) ?_
            refine J.aload_n 0 dX7_showMoves_71 rfl rfl ?_
            refine I.bipush dX7_showMoves_72 (by decide) ?_
            refine J.iload dX7_showMoves_74 rfl ?_
            refine I.callSN1i (d' := d - 1) (mi' := mX8_chainOfCode) dX7_showMoves_76 nX7_43 eX8_chainOfCode (c_X8_chainOfCode (d := d - 1) hl (by omega) (by first | omega | assumption)) (show d - 1 + 1 ≤ d from by omega) (Nat.le_of_ble_eq_true rfl) ?_
            refine I.sx (if_neg (by omega)) ?_
            refine I.add dX7_showMoves_79 ?_
            refine I.callV1v (d' := d - 1) (mi' := mX7_add) dX7_showMoves_80 lX7_28 eX7_add rfl rfl (c_X7_add (d := d - 1) hl (by omega) (by (repeat rw [up_eq]); omega)) (show d - 1 + 1 ≤ d from by omega) (Nat.le_of_ble_eq_true rfl) ?_
            refine I.iinc dX7_showMoves_83 rfl rfl ?_
            refine J.goto 7 dX7_showMoves_86 (by decide) ?_
            exact J.fgt (by exact ⟨Or.inr rfl, Or.inr rfl, Or.inr rfl, Or.inr rfl, Or.inl rfl, trivial⟩) (ih (x := gLogS f a i x) (by omega) (by omega) (by unfold gLogS; rw [eA, eP]; first | exact TX.add (by decide) q2 | exact TX.add (by decide) (TX.add (by decide) q2) | (rw [app2]; first | exact TX.add (by decide) (TX.add (by decide) q2) | exact TX.add (by decide) (TX.add (by decide) (TX.add (by decide) q2)))) (fun q j h1 h2 => by (repeat rw [up_ne (Or.inl (by omega))]); exact q3 q j h1 h2) (by have := @gLogS_len f a i x; omega) kx)
          · skip
            have eP : gPiece (f (136 + i)) = [76, 48 + f (136 + i) / 2] := by unfold gPiece; rw [if_neg (by omega), if_pos h58]
            refine I.bipush dX7_showMoves_61 (by decide) ?_
            refine J.goto 68 dX7_showMoves_63 (by decide) ?_
            refine I.callV1v (d' := d - 1) (mi' := mX7_add) dX7_showMoves_68 lX7_28 eX7_add rfl rfl (c_X7_add (d := d - 1) hl (by omega) (by (repeat rw [up_eq]); omega)) (show d - 1 + 1 ≤ d from by omega) (Nat.le_of_ble_eq_true rfl) ?_
            refine J.aload_n 0 dX7_showMoves_71 rfl rfl ?_
            refine I.bipush dX7_showMoves_72 (by decide) ?_
            refine J.iload dX7_showMoves_74 rfl ?_
            refine I.callSN1i (d' := d - 1) (mi' := mX8_chainOfCode) dX7_showMoves_76 nX7_43 eX8_chainOfCode (c_X8_chainOfCode (d := d - 1) hl (by omega) (by first | omega | assumption)) (show d - 1 + 1 ≤ d from by omega) (Nat.le_of_ble_eq_true rfl) ?_
            refine I.sx (if_neg (by omega)) ?_
            refine I.add dX7_showMoves_79 ?_
            refine I.callV1v (d' := d - 1) (mi' := mX7_add) dX7_showMoves_80 lX7_28 eX7_add rfl rfl (c_X7_add (d := d - 1) hl (by omega) (by (repeat rw [up_eq]); omega)) (show d - 1 + 1 ≤ d from by omega) (Nat.le_of_ble_eq_true rfl) ?_
            refine I.iinc dX7_showMoves_83 rfl rfl ?_
            refine J.goto 7 dX7_showMoves_86 (by decide) ?_
            exact J.fgt (by exact ⟨Or.inr rfl, Or.inr rfl, Or.inr rfl, Or.inr rfl, Or.inl rfl, trivial⟩) (ih (x := gLogS f a i x) (by omega) (by omega) (by unfold gLogS; rw [eA, eP]; first | exact TX.add (by decide) q2 | exact TX.add (by decide) (TX.add (by decide) q2) | (rw [app2]; first | exact TX.add (by decide) (TX.add (by decide) q2) | exact TX.add (by decide) (TX.add (by decide) (TX.add (by decide) q2)))) (fun q j h1 h2 => by (repeat rw [up_ne (Or.inl (by omega))]); exact q3 q j h1 h2) (by have := @gLogS_len f a i x; omega) kx)
        · skip
          have eP : gPiece (f (136 + i)) = [80] := if_pos (by omega)
          refine J.aload_n 0 dX7_showMoves_43 rfl rfl ?_
          refine I.bipush dX7_showMoves_44 (by decide) ?_
          refine I.callV1v (d' := d - 1) (mi' := mX7_add) dX7_showMoves_46 lX7_28 eX7_add rfl rfl (c_X7_add (d := d - 1) hl (by omega) (by (repeat rw [up_eq]); omega)) (show d - 1 + 1 ≤ d from by omega) (Nat.le_of_ble_eq_true rfl) ?_
          refine J.goto 83 dX7_showMoves_49 (by decide) ?_
          refine I.iinc dX7_showMoves_83 rfl rfl ?_
          refine J.goto 7 dX7_showMoves_86 (by decide) ?_
          exact J.fgt (by exact ⟨Or.inr rfl, Or.inr rfl, Or.inr rfl, Or.inr rfl, Or.inl rfl, trivial⟩) (ih (x := gLogS f a i x) (by omega) (by omega) (by unfold gLogS; rw [eA, eP]; first | exact TX.add (by decide) q2 | exact TX.add (by decide) (TX.add (by decide) q2) | (rw [app2]; first | exact TX.add (by decide) (TX.add (by decide) q2) | exact TX.add (by decide) (TX.add (by decide) (TX.add (by decide) q2)))) (fun q j h1 h2 => by (repeat rw [up_ne (Or.inl (by omega))]); exact q3 q j h1 h2) (by have := @gLogS_len f a i x; omega) kx)
      · skip
        have eA : (if a < i then x ++ [32] else x) = x ++ [32] := if_pos (by omega)
        refine J.aload_n 0 dX7_showMoves_20 rfl rfl ?_
        refine I.bipush dX7_showMoves_21 (by decide) ?_
        refine I.callV1v (d' := d - 1) (mi' := mX7_add) dX7_showMoves_23 lX7_28 eX7_add rfl rfl (c_X7_add (d := d - 1) hl (by omega) (by first | omega | assumption)) (show d - 1 + 1 ≤ d from by omega) (Nat.le_of_ble_eq_true rfl) ?_
        refine J.aload_n 1 dX7_showMoves_26 rfl rfl ?_
        refine I.getR dX7_showMoves_27 jcls fX7_32 (shT ht) (by decide) rfl (taT11 ht) ?_
        refine J.iload_n 3 dX7_showMoves_30 rfl rfl ?_
        refine I.callSN2i (d' := d - 1) (mi' := mX8_at) dX7_showMoves_31 nX7_35 eX8_at (c_X8_at (d := d - 1) hl (by omega) (shT11 ht) (by first | omega | assumption) (by first | omega | assumption)) (show d - 1 + 1 ≤ d from by omega) (Nat.le_of_ble_eq_true rfl) ?_
        refine I.sx (show _ = f (136 + i) from by (repeat rw [up_ne (Or.inl (by omega))]); rw [q3 _ _ (by omega) (by omega)]; exact RT.lc p0 i (by omega) (by omega)) ?_
        refine J.istore dX7_showMoves_34 (by decide) rfl ?_
        refine J.iload dX7_showMoves_36 rfl ?_
        refine I.bipush dX7_showMoves_38 (by decide) ?_
        refine I.icmp_ne 52 dX7_showMoves_40 (by decide) (by omega) (by omega) (fun h40 => ?_) (fun h40 => ?_)
        · skip
          refine J.aload_n 0 dX7_showMoves_52 rfl rfl ?_
          refine J.iload dX7_showMoves_53 rfl ?_
          refine I.callSN1i (d' := d - 1) (mi' := mX8_isLeftCode) dX7_showMoves_55 nX7_39 eX8_isLeftCode (c_X8_isLeftCode (d := d - 1) hl (by omega) (by first | omega | assumption)) (show d - 1 + 1 ≤ d from by omega) (Nat.le_of_ble_eq_true rfl) ?_
          refine I.if_eqB 66 dX7_showMoves_58 (by decide) (fun h58 => ?_) (fun h58 => ?_)
          · skip
            have eP : gPiece (f (136 + i)) = [82, 48 + f (136 + i) / 2] := by unfold gPiece; rw [if_neg (by omega), if_neg h58]
            refine I.bipush dX7_showMoves_66 (by decide) ?_
            refine I.callV1v (d' := d - 1) (mi' := mX7_add) dX7_showMoves_68 lX7_28 eX7_add rfl rfl (c_X7_add (d := d - 1) hl (by omega) (by (repeat rw [up_eq]); omega)) (show d - 1 + 1 ≤ d from by omega) (Nat.le_of_ble_eq_true rfl) ?_
            refine J.aload_n 0 dX7_showMoves_71 rfl rfl ?_
            refine I.bipush dX7_showMoves_72 (by decide) ?_
            refine J.iload dX7_showMoves_74 rfl ?_
            refine I.callSN1i (d' := d - 1) (mi' := mX8_chainOfCode) dX7_showMoves_76 nX7_43 eX8_chainOfCode (c_X8_chainOfCode (d := d - 1) hl (by omega) (by first | omega | assumption)) (show d - 1 + 1 ≤ d from by omega) (Nat.le_of_ble_eq_true rfl) ?_
            refine I.sx (if_neg (by omega)) ?_
            refine I.add dX7_showMoves_79 ?_
            refine I.callV1v (d' := d - 1) (mi' := mX7_add) dX7_showMoves_80 lX7_28 eX7_add rfl rfl (c_X7_add (d := d - 1) hl (by omega) (by (repeat rw [up_eq]); omega)) (show d - 1 + 1 ≤ d from by omega) (Nat.le_of_ble_eq_true rfl) ?_
            refine I.iinc dX7_showMoves_83 rfl rfl ?_
            refine J.goto 7 dX7_showMoves_86 (by decide) ?_
            exact J.fgt (by exact ⟨Or.inr rfl, Or.inr rfl, Or.inr rfl, Or.inr rfl, Or.inl rfl, trivial⟩) (ih (x := gLogS f a i x) (by omega) (by omega) (by unfold gLogS; rw [eA, eP]; first | exact TX.add (by decide) q2 | exact TX.add (by decide) (TX.add (by decide) q2) | (rw [app2]; first | exact TX.add (by decide) (TX.add (by decide) q2) | exact TX.add (by decide) (TX.add (by decide) (TX.add (by decide) q2)))) (fun q j h1 h2 => by (repeat rw [up_ne (Or.inl (by omega))]); exact q3 q j h1 h2) (by have := @gLogS_len f a i x; omega) kx)
          · skip
            have eP : gPiece (f (136 + i)) = [76, 48 + f (136 + i) / 2] := by unfold gPiece; rw [if_neg (by omega), if_pos h58]
            refine I.bipush dX7_showMoves_61 (by decide) ?_
            refine J.goto 68 dX7_showMoves_63 (by decide) ?_
            refine I.callV1v (d' := d - 1) (mi' := mX7_add) dX7_showMoves_68 lX7_28 eX7_add rfl rfl (c_X7_add (d := d - 1) hl (by omega) (by (repeat rw [up_eq]); omega)) (show d - 1 + 1 ≤ d from by omega) (Nat.le_of_ble_eq_true rfl) ?_
            refine J.aload_n 0 dX7_showMoves_71 rfl rfl ?_
            refine I.bipush dX7_showMoves_72 (by decide) ?_
            refine J.iload dX7_showMoves_74 rfl ?_
            refine I.callSN1i (d' := d - 1) (mi' := mX8_chainOfCode) dX7_showMoves_76 nX7_43 eX8_chainOfCode (c_X8_chainOfCode (d := d - 1) hl (by omega) (by first | omega | assumption)) (show d - 1 + 1 ≤ d from by omega) (Nat.le_of_ble_eq_true rfl) ?_
            refine I.sx (if_neg (by omega)) ?_
            refine I.add dX7_showMoves_79 ?_
            refine I.callV1v (d' := d - 1) (mi' := mX7_add) dX7_showMoves_80 lX7_28 eX7_add rfl rfl (c_X7_add (d := d - 1) hl (by omega) (by (repeat rw [up_eq]); omega)) (show d - 1 + 1 ≤ d from by omega) (Nat.le_of_ble_eq_true rfl) ?_
            refine I.iinc dX7_showMoves_83 rfl rfl ?_
            refine J.goto 7 dX7_showMoves_86 (by decide) ?_
            exact J.fgt (by exact ⟨Or.inr rfl, Or.inr rfl, Or.inr rfl, Or.inr rfl, Or.inl rfl, trivial⟩) (ih (x := gLogS f a i x) (by omega) (by omega) (by unfold gLogS; rw [eA, eP]; first | exact TX.add (by decide) q2 | exact TX.add (by decide) (TX.add (by decide) q2) | (rw [app2]; first | exact TX.add (by decide) (TX.add (by decide) q2) | exact TX.add (by decide) (TX.add (by decide) (TX.add (by decide) q2)))) (fun q j h1 h2 => by (repeat rw [up_ne (Or.inl (by omega))]); exact q3 q j h1 h2) (by have := @gLogS_len f a i x; omega) kx)
        · skip
          have eP : gPiece (f (136 + i)) = [80] := if_pos (by omega)
          refine J.aload_n 0 dX7_showMoves_43 rfl rfl ?_
          refine I.bipush dX7_showMoves_44 (by decide) ?_
          refine I.callV1v (d' := d - 1) (mi' := mX7_add) dX7_showMoves_46 lX7_28 eX7_add rfl rfl (c_X7_add (d := d - 1) hl (by omega) (by (repeat rw [up_eq]); omega)) (show d - 1 + 1 ≤ d from by omega) (Nat.le_of_ble_eq_true rfl) ?_
          refine J.goto 83 dX7_showMoves_49 (by decide) ?_
          refine I.iinc dX7_showMoves_83 rfl rfl ?_
          refine J.goto 7 dX7_showMoves_86 (by decide) ?_
          exact J.fgt (by exact ⟨Or.inr rfl, Or.inr rfl, Or.inr rfl, Or.inr rfl, Or.inl rfl, trivial⟩) (ih (x := gLogS f a i x) (by omega) (by omega) (by unfold gLogS; rw [eA, eP]; first | exact TX.add (by decide) q2 | exact TX.add (by decide) (TX.add (by decide) q2) | (rw [app2]; first | exact TX.add (by decide) (TX.add (by decide) q2) | exact TX.add (by decide) (TX.add (by decide) (TX.add (by decide) q2)))) (fun q j h1 h2 => by (repeat rw [up_ne (Or.inl (by omega))]); exact q3 q j h1 h2) (by have := @gLogS_len f a i x; omega) kx)
set_option maxHeartbeats 1000000 in
theorem c_X7_showMoves {Γ : jE} (hl : Γ.1.stackTraces = false) {s : Nat → Int → Int} {ε : jEps} {d : Nat} {t : Nat} {a : Int} {f : Int → Int} (hd : 2 ≤ d) (ht : jIsT t) (p0 : RT s t f) (p1 : FS f) (p2 : 0 ≤ a ∧ a ≤ f 5) (p3 : t + 8 ≤ 135) : Con Γ (d, 0, 0) mX7_showMoves [.ref 135, .ref t, .int (iI a)] (jmem s ε) (RW (fun s' => TX s' 136 135 1 (gLogT f a) ∧ ∀ q i, q ≠ 135 → q ≠ 136 → s' q i = s q i) ε) X0 := by
  refine Con.ofJ (by decide +kernel) (by simp [Value.category]) (Nat.le_of_ble_eq_true rfl) ?_ hl
  have hm := FS.moves p1
  refine J.aload_n 0 dX7_showMoves_0 rfl rfl ?_
  refine I.iconst dX7_showMoves_1 ?_
  refine I.pI 1 rfl dX7_showMoves_2 jcls fX7_15 rfl (by decide) rfl ?_
  refine J.iload_n 2 dX7_showMoves_5 rfl rfl ?_
  refine J.istore_n 3 dX7_showMoves_6 rfl (by decide) rfl ?_
  refine J.fgt (by exact ⟨Or.inr rfl, Or.inr rfl, Or.inr rfl, Or.inr rfl, Or.inl rfl, trivial⟩) (k_X7_showMoves_7 hl (by omega) ht p0 p1 p2 p3 ((f 5 - a).toNat) (by omega) (by omega) (TX.nil (up_eq _ _ _ _)) (fun q j h1 h2 => up_ne (Or.inl h1)) (by simp) ?_)
  rintro s7 h7
  exact I.vretQ dX7_showMoves_89 rfl h7
