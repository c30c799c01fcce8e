/-! a text is handed over -/
theorem and255 : ∀ k : Nat, k < 256 → iI (k : Int) &&& iI 255 = iI (k : Int) := by decide +kernel
theorem bv_nat {m : Nat} (h : m < 2147483648) : (iI (m : Int)).toBitVec.toNat = m := by
  have e : (iI (m : Int)).toInt = (m : Int) := iI_toInt (by omega)
  have e2 : (iI (m : Int)).toBitVec.toInt = (m : Int) := e
  have := BitVec.toInt_eq_toNat_cond (iI (m : Int)).toBitVec
  have b := (iI (m : Int)).toBitVec.isLt
  rw [e2] at this
  split at this <;> omega
theorem pack8 {v c : Int} (hv : 0 ≤ v ∧ v < 8388608) (hc : 0 ≤ c ∧ c < 256) : (iI v <<< (iI 8 &&& 31)) ||| iI c = iI (256 * v + c) := by
  obtain ⟨n, rfl⟩ := Int.eq_ofNat_of_zero_le hv.1
  obtain ⟨k, rfl⟩ := Int.eq_ofNat_of_zero_le hc.1
  have e1 : ((iI (n : Int) <<< (iI 8 &&& 31)) ||| iI (k : Int)).toBitVec = ((iI (n : Int)).toBitVec <<< 8) ||| (iI (k : Int)).toBitVec := rfl
  refine Int32.toBitVec_inj.mp ?_
  rw [e1]
  apply BitVec.eq_of_toNat_eq
  have e2 : (256 * (n : Int) + (k : Int)) = ((256 * n + k : Nat) : Int) := by omega
  rw [BitVec.toNat_or, BitVec.toNat_shiftLeft, bv_nat (by omega), bv_nat (by omega), e2, bv_nat (by omega), Nat.shiftLeft_eq, Nat.mod_eq_of_lt (by omega), ← Nat.shiftLeft_eq, ← Nat.shiftLeft_add_eq_or_of_lt (by omega) n, Nat.shiftLeft_eq]
  omega
/-- a letter, or a blank behind the text -/
def chr (T : Int → Int) (n : Nat) (j : Int) : Int := if j < n then T j else 32
def pk (T : Int → Int) (n : Nat) (i : Int) : Int := 256 * (256 * (256 * (256 * 0 + chr T n i) + chr T n (i + 1)) + chr T n (i + 1 + 1)) + chr T n (i + 1 + 1 + 1)
theorem STI.chr {sh : List (Nat × Nat)} {t : Nat → Nat → Option Nat} {s : Nat → Int → Int} {u n v : Nat} {T : Int → Int} (h : STI sh t s u T n v) {j : Int} (hj : 0 ≤ j) : 0 ≤ chr T n j ∧ chr T n j < 128 := by
  unfold Jvm.Pilot.CDominoChainsLaw_law_r7169_9e8925.chr
  split
  · exact (h.2.2.2.2.2 j hj (by omega)).2
  · decide
theorem gFd_pk {T t : Int → Int} {n : Nat} {l : Int} (hc : ∀ j, 0 ≤ j → 0 ≤ chr T n j ∧ chr T n j < 128) (hl : 0 ≤ l) (h : ∀ j, 0 ≤ j → j < l → t j = chr T n j) : ∀ j, 0 ≤ j → j < l + 4 → gFd t l (pk T n l) j = chr T n j := fun j j0 j1 => by
  have a0 := hc l hl
  have a1 := hc (l + 1) (by omega)
  have a2 := hc (l + 1 + 1) (by omega)
  have a3 := hc (l + 1 + 1 + 1) (by omega)
  unfold gFd
  by_cases q0 : j = l
  · subst q0; rw [if_pos rfl]; unfold gB4 pk; rw [if_pos rfl]; omega
  · rw [if_neg q0]
    by_cases q1 : j = l + 1
    · subst q1; rw [if_pos rfl]; unfold gB4 pk; rw [if_neg (by decide), if_pos rfl]; omega
    · rw [if_neg q1]
      by_cases q2 : j = l + 2
      · subst q2; rw [if_pos rfl]; unfold gB4 pk; rw [if_neg (by decide), if_neg (by decide), if_pos rfl, show l + 2 = l + 1 + 1 by omega]; omega
      · rw [if_neg q2]
        by_cases q3 : j = l + 3
        · subst q3; rw [if_pos rfl]; unfold gB4 pk; rw [if_neg (by decide), if_neg (by decide), if_neg (by decide), show l + 3 = l + 1 + 1 + 1 by omega]; omega
        · rw [if_neg q3]; exact h j j0 (by omega)
def aPk (a : AS) (T : Int → Int) (n : Nat) (i : Int) : AS := aApp a (pk T n i) (pk T n (i + 4)) (pk T n (i + 8)) (pk T n (i + 12)) (pk T n (i + 16))
theorem aPk_t {T : Int → Int} {n : Nat} {a : AS} {i : Int} (hc : ∀ j, 0 ≤ j → 0 ≤ chr T n j ∧ chr T n j < 128) (hi : 0 ≤ i) (hl : aL a = i) (h : ∀ j, 0 ≤ j → j < i → aT a j = chr T n j) : aL (aPk a T n i) = i + 20 ∧ ∀ j, 0 ≤ j → j < i + 20 → aT (aPk a T n i) j = chr T n j := by
  have z1 := gFd_pk hc hi h
  have z2 := gFd_pk hc (l := i + 4) (by omega) z1
  have z3 := gFd_pk hc (l := i + 8) (by omega) (fun j j0 j1 => z2 j j0 (by omega))
  have z4 := gFd_pk hc (l := i + 12) (by omega) (fun j j0 j1 => z3 j j0 (by omega))
  have z5 := gFd_pk hc (l := i + 16) (by omega) (fun j j0 j1 => z4 j j0 (by omega))
  refine ⟨by show aL a + 20 = i + 20; omega, fun j j0 j1 => ?_⟩
  have := z5 j j0 (by omega)
  show gFd (gFd (gFd (gFd (gFd (aT a) (aL a) (pk T n i)) (aL a + 4) (pk T n (i + 4))) (aL a + 8) (pk T n (i + 8))) (aL a + 12) (pk T n (i + 12))) (aL a + 16) (pk T n (i + 16)) j = _
  rw [hl]; exact this
theorem pk_rng {T : Int → Int} {n : Nat} (hc : ∀ j, 0 ≤ j → 0 ≤ chr T n j ∧ chr T n j < 128) {i : Int} (hi : 0 ≤ i) : -2147483648 ≤ pk T n i ∧ pk T n i < 2147483648 := by
  have a0 := hc i hi
  have a1 := hc (i + 1) (by omega)
  have a2 := hc (i + 1 + 1) (by omega)
  have a3 := hc (i + 1 + 1 + 1) (by omega)
  unfold pk; omega
set_option maxHeartbeats 1000000 in
theorem k_four1 {Γ : jE} (hl : Γ.1.stackTraces = false) {sh : List (Nat × Nat)} {t : Nat → Nat → Option Nat} {s : Nat → Int → Int} {u v n : Nat} {T : Int → Int} {b : Nat × Nat × Nat} {P : Option Value → jM → Prop} (hb : 4 ≤ b.1) (hI : STI sh t s u T n v) {i j z : Int} (hv : 0 ≤ z ∧ z < 8388608) (hi : 0 ≤ i ∧ i ≤ 1000) (hj : i ≤ j ∧ j < i + 4)
    (kx : J Γ b mL_four 4 [some (.ref u), some (.int (iI i)), some (.int (iI (256 * z + chr T n j))), some (.int (iI (j + 1)))] [] (jmx sh t s) P X0) :
    J Γ b mL_four 4 [some (.ref u), some (.int (iI i)), some (.int (iI z)), some (.int (iI j))] [] (jmx sh t s) P X0 := by
  obtain ⟨i1, i2, i3, i4, i5, i6⟩ := id hI
  refine J.iload_n 3 dL_four_4 rfl rfl ?_
  refine J.iload_n 1 dL_four_5 rfl rfl ?_
  refine I.iconst dL_four_6 ?_
  refine I.add dL_four_7 ?_
  refine I.icmp_ge 45 dL_four_8 (by decide) (by omega) (by omega) (fun h8 => ?_) (fun h8 => ?_)
  · exact absurd h8 (by omega)
  · skip
    refine J.iload_n 2 dL_four_11 rfl rfl ?_
    refine I.bipush dL_four_12 (by decide) ?_
    refine J.ishl dL_four_14 ?_
    refine J.iload_n 3 dL_four_15 rfl rfl ?_
    refine J.aload_n 0 dL_four_16 rfl rfl ?_
    refine J.callV (b' := (3, 0, 0)) (mi' := mJ0_length_8abf5) [] dL_four_17 lL_8 eJ0_length_8abf5 i1 rfl ⟨by show 3 + 1 ≤ b.1; omega, Nat.zero_le _, Nat.zero_le _⟩ (t_length hl hI (by omega)) (fun _ _ h => absurd h id) (Nat.le_of_ble_eq_true rfl) ?_
    rintro w M' ⟨rfl, rfl⟩
    refine I.icmp_ge 35 dL_four_20 (by decide) (by omega) (by omega) (fun h20 => ?_) (fun h20 => ?_)
    · skip
      have ec : chr T n j = 32 := if_neg (by omega)
      rw [ec] at kx
      refine I.bipush dL_four_35 (by decide) ?_
      refine J.ior dL_four_37 ?_
      rw [pack8 hv (by omega)]
      refine J.istore_n 2 dL_four_38 rfl (by decide) rfl ?_
      refine I.iinc dL_four_39 rfl rfl ?_
      refine J.goto 4 dL_four_42 (by decide) ?_
      exact kx
    · skip
      have ec : chr T n j = T j := if_pos (by omega)
      have hT := (i6 j (by omega) (by omega)).2
      rw [ec] at kx
      refine J.aload_n 0 dL_four_23 rfl rfl ?_
      refine J.iload_n 3 dL_four_24 rfl rfl ?_
      refine J.callV (b' := (3, 0, 0)) (mi' := mJ0_charAt_5068e) [.int (iI j)] dL_four_25 lL_14 eJ0_charAt_5068e i1 rfl ⟨by show 3 + 1 ≤ b.1; omega, Nat.zero_le _, Nat.zero_le _⟩ (t_charAt hl hI (by omega) (by omega)) (fun _ _ h => absurd h id) (Nat.le_of_ble_eq_true rfl) ?_
      rintro w M' ⟨rfl, rfl⟩
      refine I.sipush dL_four_28 (by decide) ?_
      refine J.iand dL_four_31 ?_
      rw [show iI (T j) &&& iI 255 = iI (T j) by obtain ⟨z, hz⟩ := Int.eq_ofNat_of_zero_le hT.1; rw [hz]; exact and255 z (by omega)]
      refine J.goto 37 dL_four_32 (by decide) ?_
      refine J.ior dL_four_37 ?_
      rw [pack8 hv (by omega)]
      refine J.istore_n 2 dL_four_38 rfl (by decide) rfl ?_
      refine I.iinc dL_four_39 rfl rfl ?_
      refine J.goto 4 dL_four_42 (by decide) ?_
      exact kx
set_option maxHeartbeats 1000000 in
theorem c_four {Γ : jE} (hl : Γ.1.stackTraces = false) {sh : List (Nat × Nat)} {t : Nat → Nat → Option Nat} {s : Nat → Int → Int} {u v n : Nat} {T : Int → Int} {d : Nat} (hd : 4 ≤ d) (hI : STI sh t s u T n v) {i : Int} (hi : 0 ≤ i ∧ i ≤ 1000) : Con Γ (d, 0, 0) mL_four [.ref u, .int (iI i)] (jmx sh t s) (fun w M' => w = some (.int (iI (pk T n i))) ∧ M' = jmx sh t s) X0 := by
  refine Con.ofJ (by decide +kernel) (by simp [Value.category]) (Nat.le_of_ble_eq_true rfl) ?_ hl
  have a0 := hI.chr (j := i) hi.1
  have a1 := hI.chr (j := i + 1) (by omega)
  have a2 := hI.chr (j := i + 1 + 1) (by omega)
  obtain ⟨i1, i2, i3, i4, i5, i6⟩ := id hI
  refine I.iconst dL_four_0 ?_
  refine J.istore_n 2 dL_four_1 rfl (by decide) rfl ?_
  refine J.iload_n 1 dL_four_2 rfl rfl ?_
  refine J.istore_n 3 dL_four_3 rfl (by decide) rfl ?_
  refine k_four1 hl hd hI (by decide) hi (by omega) ?_
  refine k_four1 hl hd hI (by omega) hi (by omega) ?_
  refine k_four1 hl hd hI (by omega) hi (by omega) ?_
  refine k_four1 hl hd hI (by omega) hi (by omega) ?_
  refine J.iload_n 3 dL_four_4 rfl rfl ?_
  refine J.iload_n 1 dL_four_5 rfl rfl ?_
  refine I.iconst dL_four_6 ?_
  refine I.add dL_four_7 ?_
  refine I.icmp_ge 45 dL_four_8 (by decide) (by omega) (by omega) (fun h8 => ?_) (fun h8 => ?_)
  · skip
    refine J.iload_n 2 dL_four_45 rfl rfl ?_
    exact J.iret rfl dL_four_46 ⟨rfl, rfl⟩
  · exact absurd h8 (by omega)
set_option maxHeartbeats 2000000 in
theorem w_adds {Γ : jE} (hl : Γ.1.stackTraces = false) {sh : List (Nat × Nat)} {t : Nat → Nat → Option Nat} {s : Nat → Int → Int} {u v n : Nat} {T : Int → Int} {d : Nat} {a : AS} (hd : 5 ≤ d) (hp : PF sh t) (p0 : CI s a) (p1 : AI a) (hI : STI sh t s u T n v) {i : Int} (hi : 0 ≤ i ∧ i ≤ 900) (hr : aL a + 20 ≤ 500) : ConW Γ (d, 1, 6) mL_adds hL_adds [.ref 0, .ref u, .int (iI i)] (jmx sh t s) (fun v M' => ∃ w s', v = some (.int (iI w)) ∧ M' = jmx sh t s' ∧ CI s' (aPk a T n i) ∧ HiE s s') := by
  have hc : ∀ j, 0 ≤ j → 0 ≤ chr T n j ∧ chr T n j < 128 := fun j hj => hI.chr hj
  obtain ⟨i1, i2, i3, i4, i5, i6⟩ := id hI
  refine ConW.ofJ (by decide +kernel) (by simp [Value.category]) (Nat.le_of_ble_eq_true rfl) rfl (by decide) (JH.of ?_) hl
  refine J.aload_n 0 dL_adds_0 rfl rfl ?_
  refine J.aload_n 1 dL_adds_1 rfl rfl ?_
  refine J.iload_n 2 dL_adds_2 rfl rfl ?_
  refine J.callS (b' := (d - 1, 0, 0)) (mi' := mL_four) [.ref u, .int (iI i)] dL_adds_3 lL_18 eL_four rfl ⟨by show d - 1 + 1 ≤ d; omega, Nat.zero_le _, Nat.zero_le _⟩ (c_four hl (by omega) hI (by omega)) (fun _ _ h => absurd h id) (Nat.le_of_ble_eq_true rfl) ?_
  rintro w M' ⟨rfl, rfl⟩
  refine J.aload_n 1 dL_adds_6 rfl rfl ?_
  refine J.iload_n 2 dL_adds_7 rfl rfl ?_
  refine I.iconst dL_adds_8 ?_
  refine I.add dL_adds_9 ?_
  refine J.callS (b' := (d - 1, 0, 0)) (mi' := mL_four) [.ref u, .int (iI (i + 4))] dL_adds_10 lL_18 eL_four rfl ⟨by show d - 1 + 1 ≤ d; omega, Nat.zero_le _, Nat.zero_le _⟩ (c_four hl (by omega) hI (by omega)) (fun _ _ h => absurd h id) (Nat.le_of_ble_eq_true rfl) ?_
  rintro w M' ⟨rfl, rfl⟩
  refine J.aload_n 1 dL_adds_13 rfl rfl ?_
  refine J.iload_n 2 dL_adds_14 rfl rfl ?_
  refine I.bipush dL_adds_15 (by decide) ?_
  refine I.add dL_adds_17 ?_
  refine J.callS (b' := (d - 1, 0, 0)) (mi' := mL_four) [.ref u, .int (iI (i + 8))] dL_adds_18 lL_18 eL_four rfl ⟨by show d - 1 + 1 ≤ d; omega, Nat.zero_le _, Nat.zero_le _⟩ (c_four hl (by omega) hI (by omega)) (fun _ _ h => absurd h id) (Nat.le_of_ble_eq_true rfl) ?_
  rintro w M' ⟨rfl, rfl⟩
  refine J.aload_n 1 dL_adds_21 rfl rfl ?_
  refine J.iload_n 2 dL_adds_22 rfl rfl ?_
  refine I.bipush dL_adds_23 (by decide) ?_
  refine I.add dL_adds_25 ?_
  refine J.callS (b' := (d - 1, 0, 0)) (mi' := mL_four) [.ref u, .int (iI (i + 12))] dL_adds_26 lL_18 eL_four rfl ⟨by show d - 1 + 1 ≤ d; omega, Nat.zero_le _, Nat.zero_le _⟩ (c_four hl (by omega) hI (by omega)) (fun _ _ h => absurd h id) (Nat.le_of_ble_eq_true rfl) ?_
  rintro w M' ⟨rfl, rfl⟩
  refine J.aload_n 1 dL_adds_29 rfl rfl ?_
  refine J.iload_n 2 dL_adds_30 rfl rfl ?_
  refine I.bipush dL_adds_31 (by decide) ?_
  refine I.add dL_adds_33 ?_
  refine J.callS (b' := (d - 1, 0, 0)) (mi' := mL_four) [.ref u, .int (iI (i + 16))] dL_adds_34 lL_18 eL_four rfl ⟨by show d - 1 + 1 ≤ d; omega, Nat.zero_le _, Nat.zero_le _⟩ (c_four hl (by omega) hI (by omega)) (fun _ _ h => absurd h id) (Nat.le_of_ble_eq_true rfl) ?_
  rintro w M' ⟨rfl, rfl⟩
  refine Y.pub hp (b' := (d - 1, 1, 6)) (mi' := mX8_append) [.int (iI (pk T n i)), .int (iI (pk T n (i + 4))), .int (iI (pk T n (i + 8))), .int (iI (pk T n (i + 12))), .int (iI (pk T n (i + 16)))] dL_adds_37 lL_24 eX8_append rfl ⟨by show d - 1 + 1 ≤ d; omega, Nat.le_refl _, Nat.le_refl _⟩ (c_X8_append (d := d - 1) hl (by omega) p0 p1 (pk_rng hc (by omega)) (pk_rng hc (by omega)) (pk_rng hc (by omega)) (pk_rng hc (by omega)) (pk_rng hc (by omega))) (fun E M' h => absurd hr h.2.1) (fun v h => by simp only [List.mem_cons, List.not_mem_nil, or_false] at h; rcases h with rfl | rfl | rfl | rfl | rfl <;> exact ⟨_, rfl⟩) (fun w s' h => h.2.2.2) (Nat.le_of_ble_eq_true rfl) ?_
  intro w s' hq
  exact J.iret rfl dL_adds_40 ⟨w, s', rfl, rfl, hq.2.2⟩
theorem STI.hi {sh : List (Nat × Nat)} {t : Nat → Nat → Option Nat} {s s' : Nat → Int → Int} {u v n : Nat} {T : Int → Int} (h : STI sh t s u T n v) (hh : HiE s s') (hu : 137 ≤ u) (hv : 137 ≤ v) : STI sh t s' u T n v := by
  obtain ⟨i1, i2, i3, i4, i5, i6⟩ := h
  have eu : ∀ i, s' u i = s u i := fun i => hh u i hu
  have ev : ∀ i, s' v i = s v i := fun i => hh v i hv
  exact ⟨i1, i2, i3, (eu 1).trans i4, i5, fun i a b => by rw [ev]; exact i6 i a b⟩
theorem HiE.trans {s s' s2 : Nat → Int → Int} (h : HiE s s') (g : HiE s' s2) : HiE s s2 := fun q i a => (g q i a).trans (h q i a)
theorem HiE.refl {s : Nat → Int → Int} : HiE s s := fun _ _ _ => rfl
set_option maxHeartbeats 2000000 in
theorem k_loads {Γ : jE} (hl : Γ.1.stackTraces = false) {sh : List (Nat × Nat)} {t : Nat → Nat → Option Nat} {s0 : Nat → Int → Int} {u v n : Nat} {T : Int → Int} {dd B C : Nat} {P : Option Value → jM → Prop} (hd : 6 ≤ dd) (hp : PF sh t) (hn : n ≤ 300) (hu : 137 ≤ u) (hv : 137 ≤ v)
    (kx : ∀ s a, CI s a → AI a → STI sh t s u T n v → (n : Int) ≤ aL a → aL a ≤ 340 → (∀ j : Int, 0 ≤ j → j < n → aT a j = chr T n j) → HiE s0 s → J Γ (dd, B, C) mL_loads 29 [some (.ref 0), some (.ref u), none] [] (jmx sh t s) P X0) :
    ∀ (k : Nat) {i : Int} {s : Nat → Int → Int} {a : AS}, (n : Int) ≤ i + 20 * k → 0 ≤ i ∧ i ≤ 319 → STI sh t s u T n v → CI s a → AI a → aL a = i → (∀ j, 0 ≤ j → j < i → aT a j = chr T n j) → HiE s0 s →
      J Γ (dd, B + k, C + 6 * k) mL_loads 8 [some (.ref 0), some (.ref u), some (.int (iI i))] [] (jmx sh t s) P X0 := by
  intro k
  induction k with
  | zero =>
    intro i s a hk hi hI p0 p1 hL hT hh
    obtain ⟨i1, i2, i3, i4, i5, i6⟩ := id hI
    refine J.iload_n 2 dL_loads_8 rfl rfl ?_
    refine J.aload_n 1 dL_loads_9 rfl rfl ?_
    refine J.callV (b' := (2, 0, 0)) (mi' := mJ0_length_8abf5) [] dL_loads_10 lL_8 eJ0_length_8abf5 i1 rfl ⟨by show 2 + 1 ≤ dd; omega, Nat.zero_le _, Nat.zero_le _⟩ (t_length hl hI (by omega)) (fun _ _ h => absurd h id) (Nat.le_of_ble_eq_true rfl) ?_
    rintro w M' ⟨rfl, rfl⟩
    refine I.icmp_ge 29 dL_loads_13 (by decide) (by omega) (by omega) (fun h13 => ?_) (fun h13 => ?_)
    · skip
      exact J.mono (J.fgt (by exact ⟨Or.inr rfl, Or.inr rfl, Or.inl rfl, trivial⟩) (kx s a p0 p1 hI (by omega) (by omega) (fun j j0 j1 => hT j j0 (by omega)) hh)) (fun _ _ h => h) (fun _ _ h => h) ⟨Nat.le_refl _, by show B ≤ B + 0; omega, by show C ≤ C + 6 * 0; omega⟩
    · exact absurd h13 (by omega)
  | succ k ih =>
    intro i s a hk hi hI p0 p1 hL hT hh
    have hc : ∀ j, 0 ≤ j → 0 ≤ chr T n j ∧ chr T n j < 128 := fun j hj => hI.chr hj
    obtain ⟨i1, i2, i3, i4, i5, i6⟩ := id hI
    refine J.iload_n 2 dL_loads_8 rfl rfl ?_
    refine J.aload_n 1 dL_loads_9 rfl rfl ?_
    refine J.callV (b' := (2, 0, 0)) (mi' := mJ0_length_8abf5) [] dL_loads_10 lL_8 eJ0_length_8abf5 i1 rfl ⟨by show 2 + 1 ≤ dd; omega, Nat.zero_le _, Nat.zero_le _⟩ (t_length hl hI (by omega)) (fun _ _ h => absurd h id) (Nat.le_of_ble_eq_true rfl) ?_
    rintro w M' ⟨rfl, rfl⟩
    refine I.icmp_ge 29 dL_loads_13 (by decide) (by omega) (by omega) (fun h13 => ?_) (fun h13 => ?_)
    · skip
      exact J.mono (J.fgt (by exact ⟨Or.inr rfl, Or.inr rfl, Or.inl rfl, trivial⟩) (kx s a p0 p1 hI (by omega) (by omega) (fun j j0 j1 => hT j j0 (by omega)) hh)) (fun _ _ h => h) (fun _ _ h => h) ⟨Nat.le_refl _, by show B ≤ B + (k + 1); omega, by show C ≤ C + 6 * (k + 1); omega⟩
    · skip
      refine J.aload_n 0 dL_loads_16 rfl rfl ?_
      refine J.aload_n 1 dL_loads_17 rfl rfl ?_
      refine J.iload_n 2 dL_loads_18 rfl rfl ?_
      refine J.callSW (b' := (5, 1, 6)) (mi' := mL_adds) [.ref 0, .ref u, .int (iI i)] dL_loads_19 lL_42 eL_adds ⟨by show 5 + 1 ≤ dd; omega, by show 1 ≤ B + (k + 1); omega, by show 6 ≤ C + 6 * (k + 1); omega⟩ (w_adds hl (by omega) hp p0 p1 hI (by omega) (by omega)) (Nat.le_of_ble_eq_true rfl) ?_
      rintro w M' ⟨w, s', rfl, rfl, p2, h2⟩
      refine J.pop dL_loads_22 ?_
      refine I.iinc dL_loads_23 rfl rfl ?_
      refine J.goto 8 dL_loads_26 (by decide) ?_
      show J Γ (dd, B + (k + 1) - 1, C + 6 * (k + 1) - 6) mL_loads _ _ _ _ _ X0
      rw [show B + (k + 1) - 1 = B + k by omega, show C + 6 * (k + 1) - 6 = C + 6 * k by omega]
      obtain ⟨e1, e2⟩ := aPk_t hc hi.1 hL hT
      have e3 : ∀ j, 0 ≤ j → j < aL (aPk a T n i) → 0 ≤ aT (aPk a T n i) j ∧ aT (aPk a T n i) j ≤ 255 := fun j j0 j1 => by have := hc j j0; have e := e2 j j0 (by omega); omega
      exact ih (i := i + 20) (by omega) (by omega) (hI.hi h2 hu hv) p2 (AI.inp p1 (show 0 ≤ aL (aPk a T n i) ∧ aL (aPk a T n i) ≤ 500 by omega) e3) e1 e2 (hh.trans h2)
set_option maxHeartbeats 2000000 in
theorem w_loads {Γ : jE} (hl : Γ.1.stackTraces = false) {sh : List (Nat × Nat)} {t : Nat → Nat → Option Nat} {s : Nat → Int → Int} {u v n : Nat} {T : Int → Int} {d : Nat} {a : AS} (hd : 8 ≤ d) (hp : PF sh t) (p0 : CI s a) (p1 : AI a) (hI : STI sh t s u T n v) (hn : n ≤ 300) (hu : 137 ≤ u) (hv : 137 ≤ v) (hall : ∀ T', Ext T n T' n → (pAll T' n).1 = 0 ∧ 1 ≤ (pAll T' n).2.2 0 ∧ (pAll T' n).2.2 4 = 0) : ConW Γ (d, 60, 456) mL_loads hL_loads [.ref 0, .ref u] (jmx sh t s)
    (fun v M' => ∃ w s' a', v = some (.int (iI w)) ∧ M' = jmx sh t s' ∧ 1 ≤ w ∧ w ≤ 4 ∧ CI s' a' ∧ AI a' ∧ aF a' 4 = 0 ∧ HiE s s') := by
  obtain ⟨i1, i2, i3, i4, i5, i6⟩ := id hI
  refine ConW.ofJ (by decide +kernel) (by simp [Value.category]) (Nat.le_of_ble_eq_true rfl) rfl (by decide) (JH.of ?_) hl
  refine J.aload_n 0 dL_loads_0 rfl rfl ?_
  refine I.iconst dL_loads_1 ?_
  refine Y.wrap (s := s) hp (b' := (1, 1, 6)) (mi' := mL_cuts) [.int (iI 0)] dL_loads_2 lL_38 eL_cuts ⟨by show 1 + 1 ≤ d; omega, Nat.le_of_ble_eq_true rfl, Nat.le_of_ble_eq_true rfl⟩ (w_cuts hl p0 p1 (by decide) ⟨by decide, p1.t.1.1⟩ (by decide)) (fun v h => by simp only [List.mem_cons, List.not_mem_nil, or_false] at h; rcases h with rfl; exact ⟨_, rfl⟩) (fun w s' h => h.2.2) (Nat.le_of_ble_eq_true rfl) ?_
  rintro w s1 ⟨-, p2, h1⟩
  refine J.pop dL_loads_5 ?_
  refine I.iconst dL_loads_6 ?_
  refine J.istore_n 2 dL_loads_7 rfl (by decide) rfl ?_
  show J Γ (d, 43 + 16, 354 + 6 * 16) mL_loads _ _ _ _ _ X0
  refine k_loads (s0 := s) hl (dd := d) (by omega) hp hn hu hv (fun s2 a2 q0 q1 qI qn qm qT qh => ?_) 16 (i := 0) (by omega) (by decide) (hI.hi h1 hu hv) p2 (p1.inp (by decide) (fun i a b => by omega)) rfl (fun j j0 j1 => by omega) h1
  refine J.aload_n 0 dL_loads_29 rfl rfl ?_
  refine J.aload_n 1 dL_loads_30 rfl rfl ?_
  refine J.callV (b' := (2, 0, 0)) (mi' := mJ0_length_8abf5) [] dL_loads_31 lL_8 eJ0_length_8abf5 qI.1 rfl ⟨by show 2 + 1 ≤ d; omega, Nat.zero_le _, Nat.zero_le _⟩ (t_length hl qI (by omega)) (fun _ _ h => absurd h id) (Nat.le_of_ble_eq_true rfl) ?_
  rintro w M' ⟨rfl, rfl⟩
  refine Y.wrap (s := s2) hp (b' := (1, 1, 6)) (mi' := mL_cuts) [.int (iI (n : Int))] dL_loads_34 lL_38 eL_cuts ⟨by show 1 + 1 ≤ d; omega, Nat.le_of_ble_eq_true rfl, Nat.le_of_ble_eq_true rfl⟩ (w_cuts hl q0 q1 (by omega) (by omega) (by decide)) (fun v h => by simp only [List.mem_cons, List.not_mem_nil, or_false] at h; rcases h with rfl; exact ⟨_, rfl⟩) (fun w s' h => h.2.2) (Nat.le_of_ble_eq_true rfl) ?_
  rintro w s3 ⟨-, q2, h3⟩
  have hx : Ext T n (aT a2) n := ⟨by omega, fun i a b => (qT i a b).trans (if_pos b)⟩
  obtain ⟨g1, g2, g3⟩ := hall _ hx
  refine J.pop dL_loads_37 ?_
  refine J.aload_n 0 dL_loads_38 rfl rfl ?_
  refine Y.pub hp (b' := (7, 1, 6)) (mi' := mX8_load) [] dL_loads_39 lL_46 eX8_load rfl ⟨by show 7 + 1 ≤ d; omega, Nat.le_of_ble_eq_true rfl, Nat.le_of_ble_eq_true rfl⟩ (c_X8_load hl (by decide) q2 (q1.inp (by omega) (fun i a b => by have := qI.chr a; have e := qT i a b; omega))) (fun E M' h => by obtain ⟨-, s', -, h, -⟩ := h; exact h g1) (fun v h => absurd h List.not_mem_nil) (fun w s' h => h.2.2.2.2) (Nat.le_of_ble_eq_true rfl) ?_
  intro w s4 hq
  have hF := hq.2.2.2.1.1.1.1.2
  exact J.iret rfl dL_loads_42 ⟨w, s4, _, rfl, rfl, by rw [← hq.2.1]; exact g2, by rw [← hq.2.1]; exact hF, hq.2.2.1, hq.2.2.2.1, g3, (qh.trans h3).trans hq.2.2.2.2⟩
