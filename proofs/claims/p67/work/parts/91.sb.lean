/-! StringBuilder: its text, its row of bytes -/
theorem shr0 (x : Int32) : x >>> (iI 0 &&& 31) = x := sb_shr0 x
theorem shl0 (x : Int32) : x <<< (iI 0 &&& 31) = x := sb_shl0 x
def SBI (sh : List (Nat × Nat)) (t : Nat → Nat → Option Nat) (s : Nat → Int → Int) (q : Nat) (T : Int → Int) (m : Int) (v cap : Nat) : Prop :=
  sh[q]? = some (10, 4) ∧ t q 0 = some v ∧ sh[v]? = some (101, cap) ∧ q ≠ v ∧ s q 1 = 0 ∧ s q 3 = m ∧ (0 ≤ m ∧ m ≤ cap ∧ cap ≤ 3000) ∧ (∀ i, 0 ≤ i → i < m → s v i = T i) ∧ ∀ i : Nat, -128 ≤ s v i ∧ s v i < 128
/-- what a call on a builder leaves alone -/
def SBF (q v : Nat) (sh : List (Nat × Nat)) (t : Nat → Nat → Option Nat) (s : Nat → Int → Int) (sh' : List (Nat × Nat)) (t' : Nat → Nat → Option Nat) (s' : Nat → Int → Int) : Prop :=
  (∃ ext : List (Nat × Nat), sh' = sh ++ ext ∧ ext.length ≤ 1) ∧ XB sh' t' s' ∧ (∀ a, a < sh.length → a ≠ q → t' a = t a) ∧ ∀ a, a < sh.length → a ≠ q → a ≠ v → s' a = s a
/-- behind a call: the text, the answer -/
def SBP (q v : Nat) (sh : List (Nat × Nat)) (t : Nat → Nat → Option Nat) (s : Nat → Int → Int) (T' : Int → Int) (m' k : Int) (r : Option Value) : Option Value → jM → Prop := fun w M' =>
  ∃ (sh' : List (Nat × Nat)) (t' : Nat → Nat → Option Nat) (s' : Nat → Int → Int) (v2 cap2 : Nat), w = r ∧ M' = jmx sh' t' s' ∧ SBF q v sh t s sh' t' s' ∧ SBI sh' t' s' q T' m' v2 cap2 ∧ (v2 = v ∨ sh.length ≤ v2) ∧ k ≤ cap2
theorem get_lt {α : Type} {l : List α} {i : Nat} {x : α} (h : l[i]? = some x) : i < l.length := (List.getElem?_eq_some_iff.mp h).1
theorem get_app {α : Type} {l r : List α} {i : Nat} {x : α} (h : l[i]? = some x) : (l ++ r)[i]? = some x := by rw [List.getElem?_append_left (get_lt h)]; exact h
theorem get_end {α : Type} {l : List α} {x : α} : (l ++ [x])[l.length]? = some x := by rw [List.getElem?_append_right (Nat.le_refl _), Nat.sub_self]; rfl
set_option maxHeartbeats 1000000 in
theorem s_isLatin1 {Γ : jE} (hl : Γ.1.stackTraces = false) {sh : List (Nat × Nat)} {t : Nat → Nat → Option Nat} {s : Nat → Int → Int} {q v cap : Nat} {T : Int → Int} {m : Int} {d : Nat} (hI : SBI sh t s q T m v cap) : Con Γ (d, 0, 0) mJ5_isLatin1_aae02 [.ref q] (jmx sh t s) (fun w M' => w = some (.int (iI 1)) ∧ M' = jmx sh t s) X0 := by
  obtain ⟨i1, i2, i3, i4, i5, i6, i7, i8, i9⟩ := id hI
  refine Con.ofJ (by decide +kernel) (by simp [Value.category]) (Nat.le_of_ble_eq_true rfl) ?_ hl
  refine J.getCS dJ5_isLatin1_aae02_0 sfJ5_18 ?_
  refine I.if_eq 17 dJ5_isLatin1_aae02_3 (by decide) (by omega) (fun h3 => ?_) (fun h3 => ?_)
  · exact absurd h3 (by omega)
  · skip
    refine J.aload_n 0 dJ5_isLatin1_aae02_6 rfl rfl ?_
    refine Y.gI 1 1 rfl dJ5_isLatin1_aae02_7 fJ5_22 i1 (by decide) rfl ?_
    refine I.sx i5 ?_
    refine I.if_ne 17 dJ5_isLatin1_aae02_10 (by decide) (by omega) (fun h10 => ?_) (fun h10 => ?_)
    · exact absurd h10 (by omega)
    · skip
      refine I.iconst dJ5_isLatin1_aae02_13 ?_
      refine J.goto 18 dJ5_isLatin1_aae02_14 (by decide) ?_
      exact J.zret rfl rfl dJ5_isLatin1_aae02_18 ⟨rfl, rfl⟩
set_option maxHeartbeats 1000000 in
theorem s_newLength {Γ : jE} (hl : Γ.1.stackTraces = false) {sh : List (Nat × Nat)} {t : Nat → Nat → Option Nat} {s : Nat → Int → Int} {d : Nat} {a b c : Int} (ha : 0 ≤ a ∧ a ≤ 100000) (hb : 0 ≤ b ∧ b ≤ 100000) (hc : 1 ≤ c ∧ c ≤ 100000) : Con Γ (d, 0, 0) mJ8_newLength_cabcc [.int (iI a), .int (iI b), .int (iI c)] (jmx sh t s) (fun w M' => w = some (.int (iI (a + max b c))) ∧ M' = jmx sh t s) X0 := by
  refine Con.ofJ (by decide +kernel) (by simp [Value.category]) (Nat.le_of_ble_eq_true rfl) ?_ hl
  refine J.iload_n 0 dJ8_newLength_cabcc_0 rfl rfl ?_
  refine J.iload_n 1 dJ8_newLength_cabcc_1 rfl rfl ?_
  refine J.iload_n 2 dJ8_newLength_cabcc_2 rfl rfl ?_
  refine I.mmax dJ8_newLength_cabcc_3 lJ8_194 (by omega) (by omega) (Nat.le_of_ble_eq_true rfl) ?_
  refine I.add dJ8_newLength_cabcc_6 ?_
  refine J.istore_n 3 dJ8_newLength_cabcc_7 rfl (by decide) rfl ?_
  refine I.iconst dJ8_newLength_cabcc_8 ?_
  refine J.iload_n 3 dJ8_newLength_cabcc_9 rfl rfl ?_
  refine I.icmp_ge 21 dJ8_newLength_cabcc_10 (by decide) (by omega) (by omega) (fun h10 => ?_) (fun h10 => ?_)
  · exact absurd h10 (by omega)
  · skip
    refine J.iload_n 3 dJ8_newLength_cabcc_13 rfl rfl ?_
    refine J.ldc (iI (2147483639)) dJ8_newLength_cabcc_14 qJ8_200 ?_
    refine I.icmp_gt 21 dJ8_newLength_cabcc_16 (by decide) (by omega) (by omega) (fun h16 => ?_) (fun h16 => ?_)
    · exact absurd h16 (by omega)
    · skip
      refine J.iload_n 3 dJ8_newLength_cabcc_19 rfl rfl ?_
      exact J.iret rfl dJ8_newLength_cabcc_20 ⟨rfl, rfl⟩
set_option maxHeartbeats 1000000 in
theorem s_newCapacity {Γ : jE} (hl : Γ.1.stackTraces = false) {sh : List (Nat × Nat)} {t : Nat → Nat → Option Nat} {s : Nat → Int → Int} {q v cap : Nat} {T : Int → Int} {m : Int} {d : Nat} (hI : SBI sh t s q T m v cap) {k : Int} (hk : cap < k ∧ k ≤ 1000) (hd : 1 ≤ d) : Con Γ (d, 0, 0) mJ5_newCapacity_0f7a4 [.ref q, .int (iI k)] (jmx sh t s) (fun w M' => w = some (.int (iI (cap + max (k - cap) (cap + 2)))) ∧ M' = jmx sh t s) X0 := by
  obtain ⟨i1, i2, i3, i4, i5, i6, i7, i8, i9⟩ := id hI
  refine Con.ofJ (by decide +kernel) (by simp [Value.category]) (Nat.le_of_ble_eq_true rfl) ?_ hl
  refine J.aload_n 0 dJ5_newCapacity_0f7a4_0 rfl rfl ?_
  refine Y.gR 0 dJ5_newCapacity_0f7a4_1 fJ5_15 i1 (by decide) rfl i2 ?_
  refine Y.alen dJ5_newCapacity_0f7a4_4 i3 (by decide) ?_
  refine J.istore_n 2 dJ5_newCapacity_0f7a4_5 rfl (by decide) rfl ?_
  refine J.iload_n 1 dJ5_newCapacity_0f7a4_6 rfl rfl ?_
  refine J.aload_n 0 dJ5_newCapacity_0f7a4_7 rfl rfl ?_
  refine Y.gI 1 1 rfl dJ5_newCapacity_0f7a4_8 fJ5_22 i1 (by decide) rfl ?_
  refine I.sx i5 ?_
  refine J.ishl dJ5_newCapacity_0f7a4_11 ?_
  rw [shl0]
  refine J.istore_n 3 dJ5_newCapacity_0f7a4_12 rfl (by decide) rfl ?_
  refine J.iload_n 3 dJ5_newCapacity_0f7a4_13 rfl rfl ?_
  refine J.iload_n 2 dJ5_newCapacity_0f7a4_14 rfl rfl ?_
  refine I.sub dJ5_newCapacity_0f7a4_15 ?_
  refine J.istore dJ5_newCapacity_0f7a4_16 (by decide) rfl ?_
  refine J.iload_n 2 dJ5_newCapacity_0f7a4_18 rfl rfl ?_
  refine J.iload dJ5_newCapacity_0f7a4_19 rfl ?_
  refine J.iload_n 2 dJ5_newCapacity_0f7a4_21 rfl rfl ?_
  refine I.iconst dJ5_newCapacity_0f7a4_22 ?_
  refine J.aload_n 0 dJ5_newCapacity_0f7a4_23 rfl rfl ?_
  refine Y.gI 1 1 rfl dJ5_newCapacity_0f7a4_24 fJ5_22 i1 (by decide) rfl ?_
  refine I.sx i5 ?_
  refine J.ishl dJ5_newCapacity_0f7a4_27 ?_
  rw [shl0]
  refine I.add dJ5_newCapacity_0f7a4_28 ?_
  refine J.callSO (b' := (d - 1, 0, 0)) (mi' := mJ8_newLength_cabcc) [.int _, .int _, .int _] dJ5_newCapacity_0f7a4_29 lJ5_114 eJ8_newLength_cabcc ⟨by show d - 1 + 1 ≤ d; omega, Nat.zero_le _, Nat.zero_le _⟩ (s_newLength hl (by omega) (by omega) (by omega)) (fun _ _ h => absurd h id) (Nat.le_of_ble_eq_true rfl) ?_
  rintro w M' ⟨rfl, rfl⟩
  refine J.istore dJ5_newCapacity_0f7a4_32 (by decide) rfl ?_
  refine J.iload dJ5_newCapacity_0f7a4_34 rfl ?_
  refine J.ldc (iI (2147483647)) dJ5_newCapacity_0f7a4_36 qJ5_39 ?_
  refine I.icmp_ne 51 dJ5_newCapacity_0f7a4_38 (by decide) (by omega) (by omega) (fun h38 => ?_) (fun h38 => ?_)
  · skip
    refine J.iload dJ5_newCapacity_0f7a4_51 rfl ?_
    refine J.aload_n 0 dJ5_newCapacity_0f7a4_53 rfl rfl ?_
    refine Y.gI 1 1 rfl dJ5_newCapacity_0f7a4_54 fJ5_22 i1 (by decide) rfl ?_
    refine I.sx i5 ?_
    refine J.ishr dJ5_newCapacity_0f7a4_57 ?_
    rw [shr0]
    exact J.iret rfl dJ5_newCapacity_0f7a4_58 ⟨rfl, rfl⟩
  · exact absurd h38 (by omega)
set_option maxHeartbeats 1000000 in
theorem s_copyOf {Γ : jE} (hl : Γ.1.stackTraces = false) {sh : List (Nat × Nat)} {t : Nat → Nat → Option Nat} {s : Nat → Int → Int} {v cap : Nat} {d : Nat} (hv : sh[v]? = some (101, cap)) (h9 : ∀ i : Nat, -128 ≤ s v i ∧ s v i < 128) (hx : XB sh t s) {n : Nat} (hn : cap < n ∧ n ≤ 3000) : Con Γ (d, 1, 3000) mJ7_copyOf_9075b [.ref v, .int (iI (n : Int))] (jmx sh t s) (fun w M' => w = some (.ref sh.length) ∧ M' = jmx (sh ++ [(101, n)]) t (cpA s v sh.length cap)) X0 := by
  refine Con.ofJ (by decide +kernel) (by simp [Value.category]) (Nat.le_of_ble_eq_true rfl) ?_ hl
  refine J.iload_n 1 dJ7_copyOf_9075b_0 rfl rfl ?_
  refine J.aload_n 0 dJ7_copyOf_9075b_1 rfl rfl ?_
  refine Y.alen dJ7_copyOf_9075b_2 hv (by decide) ?_
  refine I.icmp_ne 14 dJ7_copyOf_9075b_3 (by decide) (by omega) (by omega) (fun h3 => ?_) (fun h3 => ?_)
  · skip
    refine J.iload_n 1 dJ7_copyOf_9075b_14 rfl rfl ?_
    refine Y.newB n dJ7_copyOf_9075b_15 rfl (by omega) hx ⟨by show 1 ≤ 1; omega, by show n ≤ 3000; omega⟩ ?_
    refine J.astore_n 2 dJ7_copyOf_9075b_17 rfl (by decide) rfl ?_
    skip
    refine J.aload_n 0 dJ7_copyOf_9075b_18 rfl rfl ?_
    refine I.iconst dJ7_copyOf_9075b_19 ?_
    refine J.aload_n 2 dJ7_copyOf_9075b_20 rfl rfl ?_
    refine I.iconst dJ7_copyOf_9075b_21 ?_
    refine J.aload_n 0 dJ7_copyOf_9075b_22 rfl rfl ?_
    refine Y.alen dJ7_copyOf_9075b_23 (get_app hv) (by decide) ?_
    refine J.iload_n 1 dJ7_copyOf_9075b_24 rfl rfl ?_
    refine I.mmin dJ7_copyOf_9075b_25 lJ7_304 (by omega) (by omega) (Nat.le_of_ble_eq_true rfl) ?_
    refine Y.copyb cap dJ7_copyOf_9075b_28 lJ7_150 (get_app hv) get_end (by omega) (by omega) (Nat.le_refl _) (by omega) (fun i _ => h9 i) (Nat.le_of_ble_eq_true rfl) ?_
    refine J.aload_n 2 dJ7_copyOf_9075b_31 rfl rfl ?_
    exact J.bret rfl dJ7_copyOf_9075b_32 ⟨rfl, rfl⟩
  · exact absurd h3 (by omega)
theorem SBF.refl {q v : Nat} {sh : List (Nat × Nat)} {t : Nat → Nat → Option Nat} {s : Nat → Int → Int} (h : XB sh t s) : SBF q v sh t s sh t s := ⟨⟨[], by rw [List.append_nil], by decide⟩, h, fun _ _ _ => rfl, fun _ _ _ _ => rfl⟩
/-- a wider row -/
theorem SBI.grow {sh : List (Nat × Nat)} {t : Nat → Nat → Option Nat} {s : Nat → Int → Int} {q v cap n : Nat} {T : Int → Int} {m : Int} (h : SBI sh t s q T m v cap) (hx : XB sh t s) (hn : cap ≤ n ∧ n ≤ 3000) (hlen : sh.length ≤ 800000) :
    SBI (sh ++ [(101, n)]) (jup2 t q 0 (some sh.length)) (cpA s v sh.length cap) q T m sh.length n ∧ SBF q v sh t s (sh ++ [(101, n)]) (jup2 t q 0 (some sh.length)) (cpA s v sh.length cap) := by
  obtain ⟨i1, i2, i3, i4, i5, i6, i7, i8, i9⟩ := h
  have lq := get_lt i1
  have lv := get_lt i3
  have e : ∀ a i, a ≠ sh.length → cpA s v sh.length cap a i = s a i := fun a i ha => if_neg fun h => ha h.1
  refine ⟨⟨get_app i1, if_pos ⟨rfl, rfl⟩, get_end, by omega, by rw [e _ _ (by omega)]; exact i5, by rw [e _ _ (by omega)]; exact i6, by omega, fun i h0 h1 => ?_, fun i => ?_⟩, ⟨[(101, n)], rfl, Nat.le_refl 1⟩, ⟨by rw [List.length_append]; have : [(101, n)].length = 1 := rfl; omega, fun a ha => ?_⟩, fun a ha hq => ?_, fun a ha _ _ => funext fun i => e a i (by omega)⟩
  · show (if sh.length = sh.length ∧ 0 ≤ i ∧ i < cap then s v i else s sh.length i) = T i
    rw [if_pos ⟨rfl, h0, by omega⟩]; exact i8 i h0 h1
  · show -128 ≤ (if sh.length = sh.length ∧ 0 ≤ (i : Int) ∧ (i : Int) < cap then s v i else s sh.length i) ∧ (if sh.length = sh.length ∧ 0 ≤ (i : Int) ∧ (i : Int) < cap then s v i else s sh.length i) < 128
    split
    · exact i9 i
    · rw [(hx.2 sh.length (Nat.le_refl _)).2]; decide
  · rw [List.length_append] at ha
    have : [(101, n)].length = 1 := rfl
    exact ⟨fun i => by unfold jup2; rw [if_neg (by omega)]; exact (hx.2 a (by omega)).1 i, fun i => by rw [e _ _ (by omega)]; exact (hx.2 a (by omega)).2 i⟩
  · funext i
    unfold jup2
    rw [if_neg fun h => hq h.1]
set_option maxHeartbeats 1000000 in
theorem s_ensure {Γ : jE} (hl : Γ.1.stackTraces = false) {sh : List (Nat × Nat)} {t : Nat → Nat → Option Nat} {s : Nat → Int → Int} {q v cap : Nat} {T : Int → Int} {m : Int} {d : Nat} (hI : SBI sh t s q T m v cap) (hx : XB sh t s) (hlen : sh.length ≤ 800000) {k : Int} (hk : 0 ≤ k ∧ k ≤ 1000) (hd : 2 ≤ d) : Con Γ (d, 1, 3000) mJ5_ensureCapacityInternal_d00df [.ref q, .int (iI k)] (jmx sh t s) (SBP q v sh t s T m k none) X0 := by
  obtain ⟨i1, i2, i3, i4, i5, i6, i7, i8, i9⟩ := id hI
  refine Con.ofJ (by decide +kernel) (by simp [Value.category]) (Nat.le_of_ble_eq_true rfl) ?_ hl
  refine J.aload_n 0 dJ5_ensureCapacityInternal_d00df_0 rfl rfl ?_
  refine Y.gR 0 dJ5_ensureCapacityInternal_d00df_1 fJ5_15 i1 (by decide) rfl i2 ?_
  refine Y.alen dJ5_ensureCapacityInternal_d00df_4 i3 (by decide) ?_
  refine J.aload_n 0 dJ5_ensureCapacityInternal_d00df_5 rfl rfl ?_
  refine Y.gI 1 1 rfl dJ5_ensureCapacityInternal_d00df_6 fJ5_22 i1 (by decide) rfl ?_
  refine I.sx i5 ?_
  refine J.ishr dJ5_ensureCapacityInternal_d00df_9 ?_
  rw [shr0]
  refine J.istore_n 2 dJ5_ensureCapacityInternal_d00df_10 rfl (by decide) rfl ?_
  refine J.iload_n 1 dJ5_ensureCapacityInternal_d00df_11 rfl rfl ?_
  refine J.iload_n 2 dJ5_ensureCapacityInternal_d00df_12 rfl rfl ?_
  refine I.sub dJ5_ensureCapacityInternal_d00df_13 ?_
  refine I.if_le 38 dJ5_ensureCapacityInternal_d00df_14 (by decide) (by omega) (fun h14 => ?_) (fun h14 => ?_)
  · skip
    exact J.vret rfl dJ5_ensureCapacityInternal_d00df_38 ⟨sh, t, s, v, cap, rfl, rfl, SBF.refl hx, hI, Or.inl rfl, by omega⟩
  · skip
    refine J.aload_n 0 dJ5_ensureCapacityInternal_d00df_17 rfl rfl ?_
    refine J.aload_n 0 dJ5_ensureCapacityInternal_d00df_18 rfl rfl ?_
    refine Y.gR 0 dJ5_ensureCapacityInternal_d00df_19 fJ5_15 i1 (by decide) rfl i2 ?_
    refine J.aload_n 0 dJ5_ensureCapacityInternal_d00df_22 rfl rfl ?_
    refine J.iload_n 1 dJ5_ensureCapacityInternal_d00df_23 rfl rfl ?_
    refine J.callVP (b' := (d - 1, 0, 0)) (mi' := mJ5_newCapacity_0f7a4) [.int (iI k)] dJ5_ensureCapacityInternal_d00df_24 lJ5_104 eJ5_newCapacity_0f7a4 pv_newCapacity_0f7a4 i1 rfl ⟨by show d - 1 + 1 ≤ d; omega, Nat.zero_le _, Nat.zero_le _⟩ (s_newCapacity hl hI (by omega) (by omega)) (fun _ _ h => absurd h id) (Nat.le_of_ble_eq_true rfl) ?_
    rintro w M' ⟨rfl, rfl⟩
    refine J.aload_n 0 dJ5_ensureCapacityInternal_d00df_27 rfl rfl ?_
    refine Y.gI 1 1 rfl dJ5_ensureCapacityInternal_d00df_28 fJ5_22 i1 (by decide) rfl ?_
    refine I.sx i5 ?_
    refine J.ishl dJ5_ensureCapacityInternal_d00df_31 ?_
    rw [shl0]
    obtain ⟨n, hn⟩ := Int.eq_ofNat_of_zero_le (show 0 ≤ (cap + max (k - cap) (cap + 2)) by omega)
    rw [hn]
    obtain ⟨g1, g2⟩ := hI.grow hx (n := n) (by omega) hlen
    refine J.callSO (b' := (d - 1, 1, 3000)) (mi' := mJ7_copyOf_9075b) [.ref v, .int (iI (n : Int))] dJ5_ensureCapacityInternal_d00df_32 lJ5_108 eJ7_copyOf_9075b ⟨by show d - 1 + 1 ≤ d; omega, Nat.le_refl _, Nat.le_refl _⟩ (s_copyOf hl i3 i9 hx (by omega)) (fun _ _ h => absurd h id) (Nat.le_of_ble_eq_true rfl) ?_
    rintro w M' ⟨rfl, rfl⟩
    skip
    refine Y.pR 0 dJ5_ensureCapacityInternal_d00df_35 fJ5_15 (get_app i1) (by decide) rfl (by rw [List.length_append]; exact Nat.lt_succ_self _) ?_
    exact J.vret rfl dJ5_ensureCapacityInternal_d00df_38 ⟨_, _, _, sh.length, n, rfl, rfl, g2, g1, Or.inr (Nat.le_refl _), by omega⟩
