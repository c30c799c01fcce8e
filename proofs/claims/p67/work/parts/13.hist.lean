set_option maxHeartbeats 1000000 in
theorem c_X0_clear {Γ : jE} (hl : Γ.1.stackTraces = false) {s : Nat → Int → Int} {ε : jEps} {d : Nat} (hd : 0 ≤ d) : Con Γ (d, 0, 0) mX0_clear [.ref 61] (jmem s ε) (RV (up s 61 1 0) ε) X0 := by
  refine Con.ofJ (by decide +kernel) (by simp [Value.category]) (Nat.le_of_ble_eq_true rfl) ?_ hl
  refine J.aload_n 0 dX0_clear_0 rfl rfl ?_
  refine I.iconst dX0_clear_1 ?_
  refine I.pI 1 rfl dX0_clear_2 jcls fX0_18 rfl (by decide) rfl ?_
  exact I.vret dX0_clear_5 rfl rfl
set_option maxHeartbeats 1000000 in
theorem c_X0_slotAt {Γ : jE} (hl : Γ.1.stackTraces = false) {s : Nat → Int → Int} {ε : jEps} {d : Nat} {i : Int} (hd : 0 ≤ d) (p0 : 0 ≤ i ∧ i < 8) : Con Γ (d, 0, 0) mX0_slotAt [.ref 61, .int (iI i)] (jmem s ε) (RR (63 + 8 * i.toNat) (s) ε) X0 := by
  refine Con.ofJ (by decide +kernel) (by simp [Value.category]) (Nat.le_of_ble_eq_true rfl) ?_ hl
  refine J.iload_n 1 dX0_slotAt_0 rfl rfl ?_
  refine I.if_lt 22 dX0_slotAt_1 (by decide) (by omega) (fun h1 => ?_) (fun h1 => ?_)
  · exact absurd h1 (by omega)
  · skip
    refine J.iload_n 1 dX0_slotAt_4 rfl rfl ?_
    refine J.aload_n 0 dX0_slotAt_5 rfl rfl ?_
    refine I.getR dX0_slotAt_6 jcls fX0_11 rfl (by decide) rfl rfl ?_
    refine I.alen dX0_slotAt_9 rfl (by decide) ?_
    refine I.icmp_ge 22 dX0_slotAt_10 (by decide) (by omega) (by omega) (fun h10 => ?_) (fun h10 => ?_)
    · exact absurd h10 (by omega)
    · skip
      refine J.aload_n 0 dX0_slotAt_13 rfl rfl ?_
      refine I.getR dX0_slotAt_14 jcls fX0_11 rfl (by decide) rfl rfl ?_
      refine J.iload_n 1 dX0_slotAt_17 rfl rfl ?_
      refine I.aald dX0_slotAt_18 rfl (by omega) (by omega) (jtau62 (by omega)) ?_
      refine J.goto 23 dX0_slotAt_19 (by decide) ?_
      exact J.aret rfl dX0_slotAt_23 ⟨rfl, rfl⟩
set_option maxHeartbeats 1000000 in
theorem c_X0_remember {Γ : jE} (hl : Γ.1.stackTraces = false) {s : Nat → Int → Int} {ε : jEps} {d : Nat} {t : Nat} (hd : 2 ≤ d) (ht : jIsT t) (p0 : t + 8 ≤ 61 ∨ 127 ≤ t) (p1 : 0 ≤ s 61 2 ∧ s 61 2 < 8) (p2 : 0 ≤ s 61 1 ∧ s 61 1 ≤ 8) (p3 : s t 4 = 0 ∨ s t 4 = 1) : Con Γ (d, 0, 0) mX0_remember [.ref 61, .ref t] (jmem s ε) (RW (fun s' => (∀ q i, q ≠ 61 → (q < 63 + 8 * (s 61 2).toNat ∨ 63 + 8 * (s 61 2).toNat + 8 ≤ q) → s' q i = s q i) ∧ s' 61 2 = (if s 61 2 + 1 < 8 then s 61 2 + 1 else 0) ∧ s' 61 1 = min (s 61 1 + 1) 8 ∧ (∀ i, 0 ≤ i → i < 6 → s' (63 + 8 * (s 61 2).toNat) i = s (t) i) ∧ (∀ i, 0 ≤ i → i < 3 → s' (63 + 8 * (s 61 2).toNat + 1) i = s (t + 1) i) ∧ (∀ i, 0 ≤ i → i < 3 → s' (63 + 8 * (s 61 2).toNat + 2) i = s (t + 2) i) ∧ (∀ i, 0 ≤ i → i < 8 → s' (63 + 8 * (s 61 2).toNat + 3) i = s (t + 3) i) ∧ (∀ i, 0 ≤ i → i < 2 → s' (63 + 8 * (s 61 2).toNat + 4) i = s (t + 4) i) ∧ (∀ i, 0 ≤ i → i < 2 → s' (63 + 8 * (s 61 2).toNat + 5) i = s (t + 5) i) ∧ (∀ i, 0 ≤ i → i < 42 → s' (63 + 8 * (s 61 2).toNat + 6) i = s (t + 6) i) ∧ (∀ i, 0 ≤ i → i < 42 → s' (63 + 8 * (s 61 2).toNat + 7) i = s (t + 7) i)) ε) X0 := by
  refine Con.ofJ (by decide +kernel) (by simp [Value.category]) (Nat.le_of_ble_eq_true rfl) ?_ hl
  refine J.aload_n 0 dX0_remember_0 rfl rfl ?_
  refine J.aload_n 0 dX0_remember_1 rfl rfl ?_
  refine I.gI 2 rfl dX0_remember_2 jcls fX0_22 rfl (by decide) rfl ?_
  refine I.callV1r (d' := d - 1) (mi' := mX0_slotAt) dX0_remember_5 lX0_25 eX0_slotAt rfl rfl (c_X0_slotAt (d := d - 1) hl (by omega) (by first | omega | assumption)) (show d - 1 + 1 ≤ d from by omega) (Nat.le_of_ble_eq_true rfl) ?_
  refine J.astore_n 2 dX0_remember_8 rfl (by decide) rfl ?_
  refine J.aload_n 2 dX0_remember_9 rfl rfl ?_
  refine J.ifnullR dX0_remember_10 ?_
  refine J.aload_n 2 dX0_remember_13 rfl rfl ?_
  refine J.aload_n 1 dX0_remember_14 rfl rfl ?_
  refine I.callV1w (d' := d - 1) (mi' := mX6_copyFrom) dX0_remember_15 lX0_29 eX6_copyFrom (shT (jth (by omega))) rfl (c_X6_copyFrom (d := d - 1) hl (by omega) (jth (by omega)) ht (by first | omega | assumption) (by first | omega | assumption)) (show d - 1 + 1 ≤ d from by omega) (Nat.le_of_ble_eq_true rfl) ?_
  rintro s1 ⟨a, a0, a1, a2, a3, a4, a5, a6, a7⟩
  refine J.aload_n 0 dX0_remember_18 rfl rfl ?_
  refine J.aload_n 0 dX0_remember_19 rfl rfl ?_
  refine I.gI 2 rfl dX0_remember_20 jcls fX0_22 rfl (by decide) rfl ?_
  refine I.sx (show _ = s 61 2 from a _ _ (by omega)) ?_
  refine I.iconst dX0_remember_23 ?_
  refine I.add dX0_remember_24 ?_
  refine I.bipush dX0_remember_25 (by decide) ?_
  refine I.icmp_ge 39 dX0_remember_27 (by decide) (by omega) (by omega) (fun h27 => ?_) (fun h27 => ?_)
  · skip
    refine I.iconst dX0_remember_39 ?_
    refine I.pI 2 rfl dX0_remember_40 jcls fX0_22 rfl (by decide) rfl ?_
    refine J.aload_n 0 dX0_remember_43 rfl rfl ?_
    refine J.aload_n 0 dX0_remember_44 rfl rfl ?_
    refine I.gI 1 rfl dX0_remember_45 jcls fX0_18 rfl (by decide) rfl ?_
    refine I.sx (show _ = s 61 1 from by rw [up_ne (Or.inr (by decide)), a _ _ (by omega)]) ?_
    refine I.iconst dX0_remember_48 ?_
    refine I.add dX0_remember_49 ?_
    refine I.bipush dX0_remember_50 (by decide) ?_
    refine I.mmin dX0_remember_52 lX0_33 (by omega) (by omega) (Nat.le_of_ble_eq_true rfl) ?_
    refine I.pI 1 rfl dX0_remember_55 jcls fX0_18 rfl (by decide) rfl ?_
    exact I.vretQ dX0_remember_58 rfl (by
      refine ⟨?_, ?_, up_eq _ _ _ _, ?_, ?_, ?_, ?_, ?_, ?_, ?_, ?_⟩
      · intro q i g1 g2; rw [up_ne (Or.inl g1), up_ne (Or.inl g1)]; exact a q i g2
      · rw [up_ne (Or.inr (by decide))]; first | exact (up_eq _ _ _ _).trans (if_pos (by assumption)).symm | exact (up_eq _ _ _ _).trans (if_neg (by omega)).symm
      · intro i g1 g2; rw [up_ne (Or.inl (by omega)), up_ne (Or.inl (by omega))]; exact a0 i g1 g2
      · intro i g1 g2; rw [up_ne (Or.inl (by omega)), up_ne (Or.inl (by omega))]; exact a1 i g1 g2
      · intro i g1 g2; rw [up_ne (Or.inl (by omega)), up_ne (Or.inl (by omega))]; exact a2 i g1 g2
      · intro i g1 g2; rw [up_ne (Or.inl (by omega)), up_ne (Or.inl (by omega))]; exact a3 i g1 g2
      · intro i g1 g2; rw [up_ne (Or.inl (by omega)), up_ne (Or.inl (by omega))]; exact a4 i g1 g2
      · intro i g1 g2; rw [up_ne (Or.inl (by omega)), up_ne (Or.inl (by omega))]; exact a5 i g1 g2
      · intro i g1 g2; rw [up_ne (Or.inl (by omega)), up_ne (Or.inl (by omega))]; exact a6 i g1 g2
      · intro i g1 g2; rw [up_ne (Or.inl (by omega)), up_ne (Or.inl (by omega))]; exact a7 i g1 g2)
  · skip
    refine J.aload_n 0 dX0_remember_30 rfl rfl ?_
    refine I.gI 2 rfl dX0_remember_31 jcls fX0_22 rfl (by decide) rfl ?_
    refine I.sx (show _ = s 61 2 from a _ _ (by omega)) ?_
    refine I.iconst dX0_remember_34 ?_
    refine I.add dX0_remember_35 ?_
    refine J.goto 40 dX0_remember_36 (by decide) ?_
    refine I.pI 2 rfl dX0_remember_40 jcls fX0_22 rfl (by decide) rfl ?_
    refine J.aload_n 0 dX0_remember_43 rfl rfl ?_
    refine J.aload_n 0 dX0_remember_44 rfl rfl ?_
    refine I.gI 1 rfl dX0_remember_45 jcls fX0_18 rfl (by decide) rfl ?_
    refine I.sx (show _ = s 61 1 from by rw [up_ne (Or.inr (by decide)), a _ _ (by omega)]) ?_
    refine I.iconst dX0_remember_48 ?_
    refine I.add dX0_remember_49 ?_
    refine I.bipush dX0_remember_50 (by decide) ?_
    refine I.mmin dX0_remember_52 lX0_33 (by omega) (by omega) (Nat.le_of_ble_eq_true rfl) ?_
    refine I.pI 1 rfl dX0_remember_55 jcls fX0_18 rfl (by decide) rfl ?_
    exact I.vretQ dX0_remember_58 rfl (by
      refine ⟨?_, ?_, up_eq _ _ _ _, ?_, ?_, ?_, ?_, ?_, ?_, ?_, ?_⟩
      · intro q i g1 g2; rw [up_ne (Or.inl g1), up_ne (Or.inl g1)]; exact a q i g2
      · rw [up_ne (Or.inr (by decide))]; first | exact (up_eq _ _ _ _).trans (if_pos (by assumption)).symm | exact (up_eq _ _ _ _).trans (if_neg (by omega)).symm
      · intro i g1 g2; rw [up_ne (Or.inl (by omega)), up_ne (Or.inl (by omega))]; exact a0 i g1 g2
      · intro i g1 g2; rw [up_ne (Or.inl (by omega)), up_ne (Or.inl (by omega))]; exact a1 i g1 g2
      · intro i g1 g2; rw [up_ne (Or.inl (by omega)), up_ne (Or.inl (by omega))]; exact a2 i g1 g2
      · intro i g1 g2; rw [up_ne (Or.inl (by omega)), up_ne (Or.inl (by omega))]; exact a3 i g1 g2
      · intro i g1 g2; rw [up_ne (Or.inl (by omega)), up_ne (Or.inl (by omega))]; exact a4 i g1 g2
      · intro i g1 g2; rw [up_ne (Or.inl (by omega)), up_ne (Or.inl (by omega))]; exact a5 i g1 g2
      · intro i g1 g2; rw [up_ne (Or.inl (by omega)), up_ne (Or.inl (by omega))]; exact a6 i g1 g2
      · intro i g1 g2; rw [up_ne (Or.inl (by omega)), up_ne (Or.inl (by omega))]; exact a7 i g1 g2)
