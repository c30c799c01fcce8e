/-! appends -/
theorem lo_all : ∀ k : Nat, k < 256 → (k < 128 → (iI (k : Int)).toInt8.toInt32 = iI (k : Int) ∧ vp_nar .byte (iI (k : Int)) = iI (k : Int) ∧ narrow .byte (.int (iI (k : Int))) = .int (iI (k : Int))) ∧ narrow .char (.int (iI (k : Int))) = .int (iI (k : Int)) ∧ ((iI (k : Int)) &&& 255).toUInt32 % 65536 = (iI (k : Int)).toUInt32 ∧ (iI (k : Int)).toUInt32.toInt32 = iI (k : Int) := by decide +kernel
theorem lo_at {x : Int} (h : 0 ≤ x ∧ x < 128) : (iI x).toInt8.toInt32 = iI x ∧ vp_nar .byte (iI x) = iI x ∧ narrow .byte (.int (iI x)) = .int (iI x) := by
  obtain ⟨k, rfl⟩ := Int.eq_ofNat_of_zero_le h.1
  exact (lo_all k (by omega)).1 (by omega)
theorem lo_ch {x : Int} (h : 0 ≤ x ∧ x < 256) : narrow .char (.int (iI x)) = .int (iI x) ∧ ((iI x &&& 255).toUInt32 % 65536).toInt32 = iI x := by
  obtain ⟨k, rfl⟩ := Int.eq_ofNat_of_zero_le h.1
  obtain ⟨-, a, b, c⟩ := lo_all k (by omega)
  exact ⟨a, by rw [b]; exact c⟩
/-- one letter more -/
def txA (T : Int → Int) (m x : Int) : Int → Int := fun i => if i = m then x else T i
/-- "round " more -/
def txS (T : Int → Int) (m : Int) : Int → Int := fun i => if m ≤ i ∧ i < m + 6 then jwd 5 (i - m) else T i
theorem SBI.put {sh : List (Nat × Nat)} {t : Nat → Nat → Option Nat} {s s' : Nat → Int → Int} {q v cap : Nat} {T : Int → Int} {m x : Int} (h : SBI sh t s q T m v cap) (hm : m < cap) (hx : 0 ≤ x ∧ x < 128) (a1 : s' q 1 = s q 1) (a2 : s' q 3 = m + 1) (a3 : ∀ i, s' v i = if i = m then x else s v i) : SBI sh t s' q (txA T m x) (m + 1) v cap := by
  obtain ⟨i1, i2, i3, i4, i5, i6, i7, i8, i9⟩ := h
  refine ⟨i1, i2, i3, i4, a1.trans i5, a2, by omega, fun i h0 h1 => ?_, fun i => ?_⟩
  · rw [a3]; unfold txA; split
    · rfl
    · exact i8 i h0 (by omega)
  · rw [a3]; split
    · omega
    · exact i9 i
theorem jwd5 : ∀ k : Nat, k < 6 → 0 ≤ jwd 5 (k : Int) ∧ jwd 5 (k : Int) < 128 ∧ fits .byte (.int ((jByt.getD 5 []).getD k 0)) = true ∧ (jByt.getD 5 []).getD k 0 = iI (jwd 5 (k : Int)) := by decide +kernel
theorem SBI.putS {sh : List (Nat × Nat)} {t : Nat → Nat → Option Nat} {s s' : Nat → Int → Int} {q v cap : Nat} {T : Int → Int} {m : Int} (h : SBI sh t s q T m v cap) (hm : m + 6 ≤ cap) (a1 : s' q 1 = s q 1) (a2 : s' q 3 = m + 6) (a3 : ∀ i, s' v i = if m ≤ i ∧ i < m + 6 then jwd 5 (i - m) else s v i) : SBI sh t s' q (txS T m) (m + 6) v cap := by
  obtain ⟨i1, i2, i3, i4, i5, i6, i7, i8, i9⟩ := h
  refine ⟨i1, i2, i3, i4, a1.trans i5, a2, by omega, fun i h0 h1 => ?_, fun i => ?_⟩
  · rw [a3]; unfold txS; split
    · rfl
    · exact i8 i h0 (by omega)
  · rw [a3]; split
    · obtain ⟨k, hk⟩ := Int.eq_ofNat_of_zero_le (show (0 : Int) ≤ (i : Int) - m by omega)
      rw [hk]; have := jwd5 k (by omega); omega
    · exact i9 i
theorem SBF.same {q v v2 : Nat} {sh sh2 : List (Nat × Nat)} {t t2 : Nat → Nat → Option Nat} {s s2 s3 : Nat → Int → Int} (h : SBF q v sh t s sh2 t2 s2) (hv : v2 = v ∨ sh.length ≤ v2) (hq : q < sh2.length) (hv2 : v2 < sh2.length) (e : ∀ a, a ≠ q → a ≠ v2 → s3 a = s2 a) : SBF q v sh t s sh2 t2 s3 := by
  obtain ⟨f1, f2, f3, f4⟩ := h
  refine ⟨f1, ⟨f2.1, fun a ha => ⟨(f2.2 a ha).1, fun i => by rw [e a (by omega) (by omega)]; exact (f2.2 a ha).2 i⟩⟩, f3, fun a ha hq hv' => ?_⟩
  rw [e a hq (by omega)]
  exact f4 a ha hq hv'
section R92
variable {Γ : jE} {b : Nat × Nat × Nat} {mi : jMI} {pc : Nat} {L : List (Option Value)} {S : List Value} {M : jM} {P : Option Value → jM → Prop} {X : String → jM → Prop}
theorem J.ifnonnull {x : Nat} {off : Int} (tgt : Nat) (d : decode mi.2.1 pc = .ok (.ifnonnull off, 3)) (ht : (pc : Int) + off = (tgt : Int)) (k : J Γ b mi tgt L S M P X) : J Γ b mi pc L (.ref x :: S) M P X := by
  intro p e R s m args below meth c A n0 ρ0 Q C F ρ κ ls H locs cells slots hW hL hS h1 h2
  exact lv_ifnonnull C.1 C.2.1 d ht (k p e R s m args below meth c A n0 ρ0 Q C F ρ κ ls H locs cells slots hW hL (jS_tl hS) h1 h2)
set_option maxHeartbeats 1000000 in
theorem J.strBytes {v n1 : Nat} {m : Int} (g1 : M.1[v]? = some (101, n1)) (hm : 0 ≤ m ∧ m + 6 ≤ n1) (hn : n1 < 1000000) (l0 : L[0]? = some (some (.ref 1000005))) (l1 : L[1]? = some (some (.ref v))) (l2 : L[2]? = some (some (.int (iI m)))) (l3 : L[3]? = some (some (.int (iI 0))))
    (k : J Γ b mJ0_getBytes_840e7 25 L [] (M.1, M.2.1, jrow M.2.2.1 v (va_cpy (fun j => (jByt.getD 5 []).getD j 0) (M.2.2.1 v) 0 m.toNat 6), M.2.2.2) P X) : J Γ b mJ0_getBytes_840e7 8 L [] M P X := by
  intro p e R s m9 args below meth c A n9 ρ0 Q C F ρ κ ls H locs cells slots hW hL hS h1 h2
  have hts := C.2.2.2.2.2.2.1
  have hr1 := C.2.2.2.2.2.2.2.1
  have hr2 := C.2.2.2.2.2.2.2.2.1
  have he1 := jw_at (ρ := ρ) (κ := κ) g1
  rw [jcell_arr (by decide)] at he1
  have hK := hW.2.2.2.1 v _ g1 (Nat.le_of_ble_eq_true rfl)
  obtain ⟨-, hz, hqq, adV, hv5⟩ := C.2.2.2.2.2.2.2.2.2.2.2.2.1.2.2.2
  have hs5 := hv5.1 5 (by decide)
  have e0 : ρ 1000005 = ρ0 (1000000 + 5) := hW.2.2.2.2.2.2 _ (Or.inr (Nat.le_of_ble_eq_true rfl))
  have w0 : ls[0]? = some (.val (.ref (ρ0 (1000000 + 5)))) := by rw [← e0]; exact (hL.2.2.2 0 _ l0).1
  have w1 : ls[1]? = some (.val (.ref (ρ v))) := (hL.2.2.2 1 _ l1).1
  have w2 : ls[2]? = some (.val (.int (iI m))) := (hL.2.2.2 2 _ l2).1
  have w3 : ls[3]? = some (.val (.int (iI 0))) := (hL.2.2.2 3 _ l3).1
  have hnw : nativeFrameWords "java/lang/System" "arraycopy" 5 + 11 ≤ 100 := by decide
  refine lv_aload_n C.1 C.2.1 dJ0_getBytes_840e7_8 rfl w0 ?_
  refine vk_getf C.1 C.2.1 hs5.2.2.1 hW.2.2.1 C.2.2.2.2.2.1 (hts _ gJ0_9) (fun _ h => h) dJ0_getBytes_840e7_9 ?_
  refine lv_iconst (v := iI 0) C.1 C.2.1 dJ0_getBytes_840e7_12 (by decide) ?_
  refine lv_aload_n C.1 C.2.1 dJ0_getBytes_840e7_13 rfl w1 ?_
  refine lv_iload_n C.1 C.2.1 dJ0_getBytes_840e7_14 rfl w2 ?_
  refine lv_iload_n C.1 C.2.1 dJ0_getBytes_840e7_15 rfl w3 ?_
  refine lv_ishl C.1 C.2.1 dJ0_getBytes_840e7_16 ?_
  rw [shl0]
  refine lv_aload_n C.1 C.2.1 dJ0_getBytes_840e7_17 rfl w0 ?_
  refine vk_getf C.1 C.2.1 hs5.2.2.1 hW.2.2.1 C.2.2.2.2.2.1 (hts _ gJ0_9) (fun _ h => h) dJ0_getBytes_840e7_18 ?_
  refine va_tlen C.1 C.2.1 hs5.2.2.2 hW.2.2.1 (v := iI 6) rfl dJ0_getBytes_840e7_21 ?_
  have c6 : (iI 6).toNatClampNeg = 6 := rfl
  have c0 : (iI 0).toNatClampNeg = 0 := rfl
  have cm : (iI m).toNatClampNeg = m.toNat := iI_clamp (by omega)
  refine vk_copyt C.1 C.2.1 (C.2.2.1.trans hL.2.1.symm) C.2.2.2.2.2.1 (hts _ lJ0_212) (hts _ ac_n) (hts _ ac_s) (hts _ ac_i) hK hW.1 hW.2.1 hW.2.2.1 (f := fun j => (jByt.getD 5 []).getD j 0) hs5.2.2.2 v 0 he1 rfl (by decide) (fun h => by have := (iI_lt (x := m) (y := 0) (by omega) (by omega)).mp h; omega) (by decide) (by decide) (by rw [cm, c6]; omega) (fun i hi => by rw [c0, Nat.zero_add]; exact (jwd5 i (by rw [c6] at hi; exact hi)).2.2.1) (by omega) (by show 0 + _ ≤ _; omega) dJ0_getBytes_840e7_22 (fun H1 locs1 hP1 hD1 hS1 => ?_)
  rw [c0, c6, cm, jw_setRowB g1] at hP1 hD1
  exact k p e R s m9 args below meth c A n9 ρ0 Q C F ρ κ ls H1 locs1 cells slots ⟨hP1, hD1, hS1, hW.2.2.2⟩ hL (fun v h => absurd h List.not_mem_nil) h1 h2
end R92
/-- the bytes of "round " put -/
def catS (s : Nat → Int → Int) (v : Nat) (m : Int) : Nat → Int → Int := fun a i => if a = v ∧ m ≤ i ∧ i < m + 6 then jwd 5 (i - m) else s a i
theorem jmx_cat {sh : List (Nat × Nat)} {t : Nat → Nat → Option Nat} {s : Nat → Int → Int} {v : Nat} {m : Int} (hm : 0 ≤ m) : ((jmx sh t s).1, (jmx sh t s).2.1, jrow (jmx sh t s).2.2.1 v (va_cpy (fun j => (jByt.getD 5 []).getD j 0) ((jmx sh t s).2.2.1 v) 0 m.toNat 6), (jmx sh t s).2.2.2) = jmx sh t (catS s v m) := by
  unfold jmx
  congr 3
  funext a i
  unfold jrow catS va_cpy
  by_cases h : a = v
  · subst h
    by_cases g : m.toNat ≤ i ∧ i < m.toNat + 6
    · rw [if_pos rfl, if_pos g, if_pos ⟨rfl, by omega, by omega⟩]
      show (jByt.getD 5 []).getD (0 + (i - m.toNat)) 0 = _
      rw [Nat.zero_add, (jwd5 (i - m.toNat) (by omega)).2.2.2]
      congr 2
      omega
    · rw [if_pos rfl, if_neg g, if_neg (fun e => g (by omega))]
  · rw [if_neg h, if_neg (fun e => h e.1)]
set_option maxHeartbeats 1000000 in
theorem s_canEncode {Γ : jE} (hl : Γ.1.stackTraces = false) {sh : List (Nat × Nat)} {t : Nat → Nat → Option Nat} {s : Nat → Int → Int} {d : Nat} {x : Int} (hx : 0 ≤ x ∧ x < 128) : Con Γ (d, 0, 0) mJ1_canEncode_fc78d [.int (iI x)] (jmx sh t s) (fun w M' => w = some (.int (iI 1)) ∧ M' = jmx sh t s) X0 := by
  refine Con.ofJ (by decide +kernel) (by simp [Value.category]) (Nat.le_of_ble_eq_true rfl) ?_ hl
  refine J.iload_n 0 dJ1_canEncode_fc78d_0 rfl rfl ?_
  refine I.sipush dJ1_canEncode_fc78d_1 (by decide) ?_
  refine I.icmp_gt 11 dJ1_canEncode_fc78d_4 (by decide) (by omega) (by omega) (fun h4 => ?_) (fun h4 => ?_)
  · exact absurd h4 (by omega)
  · skip
    refine I.iconst dJ1_canEncode_fc78d_7 ?_
    refine J.goto 12 dJ1_canEncode_fc78d_8 (by decide) ?_
    exact J.zret rfl rfl dJ1_canEncode_fc78d_12 ⟨rfl, rfl⟩
set_option maxHeartbeats 1000000 in
theorem s_appendC_5 {Γ : jE} (hl : Γ.1.stackTraces = false) {sh : List (Nat × Nat)} {t : Nat → Nat → Option Nat} {s : Nat → Int → Int} {q v cap : Nat} {T : Int → Int} {m : Int} {d : Nat} (hI : SBI sh t s q T m v cap) (hx : XB sh t s) (hlen : sh.length ≤ 800000) (hd : 3 ≤ d) (hm : m < 1000) {x : Int} (hc : 0 ≤ x ∧ x < 128) : Con Γ (d, 1, 3000) mJ5_append_3fe6f [.ref q, .int (iI x)] (jmx sh t s) (SBP q v sh t s (txA T m x) (m + 1) 0 (some (.ref q))) X0 := by
  obtain ⟨i1, i2, i3, i4, i5, i6, i7, i8, i9⟩ := id hI
  refine Con.ofJ (by decide +kernel) (by simp [Value.category]) (Nat.le_of_ble_eq_true rfl) ?_ hl
  refine J.aload_n 0 dJ5_append_3fe6f_0 rfl rfl ?_
  refine J.aload_n 0 dJ5_append_3fe6f_1 rfl rfl ?_
  refine Y.gI 3 3 rfl dJ5_append_3fe6f_2 fJ5_79 i1 (by decide) rfl ?_
  refine I.sx i6 ?_
  refine I.iconst dJ5_append_3fe6f_5 ?_
  refine I.add dJ5_append_3fe6f_6 ?_
  refine J.callVP (b' := (d - 1, 1, 3000)) (mi' := mJ5_ensureCapacityInternal_d00df) [.int (iI (m + 1))] dJ5_append_3fe6f_7 lJ5_100 eJ5_ensureCapacityInternal_d00df pv_ensureCapacityInternal_d00df i1 rfl ⟨by show d - 1 + 1 ≤ d; omega, Nat.le_refl _, Nat.le_refl _⟩ (s_ensure hl hI hx hlen (by omega) (by omega)) (fun _ _ h => absurd h id) (Nat.le_of_ble_eq_true rfl) ?_
  rintro w M' ⟨sh2, t2, s2, v2, cap2, rfl, rfl, F2, I2, hv2, hk2⟩
  obtain ⟨j1, j2, j3, j4, j5, j6, j7, j8, j9⟩ := id I2
  obtain ⟨⟨ext, he, hel⟩, X2, F2t, F2s⟩ := id F2
  have lq : q < sh2.length := get_lt j1
  have lv : v2 < sh2.length := get_lt j3
  refine J.aload_n 0 dJ5_append_3fe6f_10 rfl rfl ?_
  refine J.callVP (b' := (d - 1, 0, 0)) (mi' := mJ5_isLatin1_aae02) [] dJ5_append_3fe6f_11 lJ5_83 eJ5_isLatin1_aae02 esJ5_isLatin1_aae02.1 j1 rfl ⟨by show d - 1 + 1 ≤ d; omega, Nat.zero_le _, Nat.zero_le _⟩ (s_isLatin1 hl I2) (fun _ _ h => absurd h id) (Nat.le_of_ble_eq_true rfl) ?_
  rintro w M' ⟨rfl, rfl⟩
  refine I.if_eq 45 dJ5_append_3fe6f_14 (by decide) (by omega) (fun h14 => ?_) (fun h14 => ?_)
  · exact absurd h14 (by omega)
  · skip
    refine J.iload_n 1 dJ5_append_3fe6f_17 rfl rfl ?_
    refine J.callSO (b' := (d - 1, 0, 0)) (mi' := mJ1_canEncode_fc78d) [.int (iI x)] dJ5_append_3fe6f_18 lJ5_191 eJ1_canEncode_fc78d ⟨by show d - 1 + 1 ≤ d; omega, Nat.zero_le _, Nat.zero_le _⟩ (s_canEncode hl hc) (fun _ _ h => absurd h id) (Nat.le_of_ble_eq_true rfl) ?_
    rintro w M' ⟨rfl, rfl⟩
    refine I.if_eq 45 dJ5_append_3fe6f_21 (by decide) (by omega) (fun h21 => ?_) (fun h21 => ?_)
    · exact absurd h21 (by omega)
    · skip
      refine J.aload_n 0 dJ5_append_3fe6f_24 rfl rfl ?_
      refine Y.gR 0 dJ5_append_3fe6f_25 fJ5_15 j1 (by decide) rfl j2 ?_
      refine J.aload_n 0 dJ5_append_3fe6f_28 rfl rfl ?_
      refine J.dupR dJ5_append_3fe6f_29 ?_
      refine Y.gI 3 3 rfl dJ5_append_3fe6f_30 fJ5_79 j1 (by decide) rfl ?_
      refine I.sx j6 ?_
      refine J.dupx1 dJ5_append_3fe6f_33 ?_
      refine I.iconst dJ5_append_3fe6f_34 ?_
      refine I.add dJ5_append_3fe6f_35 ?_
      refine Y.pI 3 3 rfl dJ5_append_3fe6f_36 fJ5_79 j1 (by decide) rfl ?_
      refine J.iload_n 1 dJ5_append_3fe6f_39 rfl rfl ?_
      refine J.i2b dJ5_append_3fe6f_40 ?_
      rw [(lo_at hc).1]
      refine Y.bast dJ5_append_3fe6f_41 j3 (by omega) (by omega) (lo_at hc).2.1 ?_
      refine J.goto 75 dJ5_append_3fe6f_42 (by decide) ?_
      refine J.aload_n 0 dJ5_append_3fe6f_75 rfl rfl ?_
      exact J.aret rfl dJ5_append_3fe6f_76 ⟨sh2, t2, _, v2, cap2, rfl, rfl, F2.same hv2 lq lv (fun a h g => by funext i; rw [up_ne (Or.inl g), up_ne (Or.inl h)]), I2.put (by omega) hc (by rw [up_ne (Or.inl j4), up_ne (Or.inr (by decide))]) (by rw [up_ne (Or.inl j4), up_eq]) (fun i => by unfold up; by_cases h : i = m <;> simp [h, Ne.symm j4]), hv2, by omega⟩
set_option maxHeartbeats 1000000 in
theorem s_appendC {Γ : jE} (hl : Γ.1.stackTraces = false) {sh : List (Nat × Nat)} {t : Nat → Nat → Option Nat} {s : Nat → Int → Int} {q v cap : Nat} {T : Int → Int} {m : Int} {d : Nat} (hI : SBI sh t s q T m v cap) (hx : XB sh t s) (hlen : sh.length ≤ 800000) (hd : 4 ≤ d) (hm : m < 1000) {x : Int} (hc : 0 ≤ x ∧ x < 128) : Con Γ (d, 1, 3000) mJ4_append_cf468 [.ref q, .int (iI x)] (jmx sh t s) (SBP q v sh t s (txA T m x) (m + 1) 0 (some (.ref q))) X0 := by
  obtain ⟨i1, i2, i3, i4, i5, i6, i7, i8, i9⟩ := id hI
  refine Con.ofJ (by decide +kernel) (by simp [Value.category]) (Nat.le_of_ble_eq_true rfl) ?_ hl
  refine J.aload_n 0 dJ4_append_cf468_0 rfl rfl ?_
  refine J.iload_n 1 dJ4_append_cf468_1 rfl rfl ?_
  refine J.callU (b' := (d - 1, 1, 3000)) (mi' := mJ5_append_3fe6f) [.int (iI x)] dJ4_append_cf468_2 lJ4_50 eJ5_append_3fe6f (by decide) sup_sb (y9 := yJ5_isLatin1_aae02) rfl esJ5_isLatin1_aae02.1 i1 rfl ⟨by show d - 1 + 1 ≤ d; omega, Nat.le_refl _, Nat.le_refl _⟩ (s_appendC_5 hl hI hx hlen (by omega) hm hc) (fun _ _ h => h) (Nat.le_of_ble_eq_true rfl) ?_
  rintro w M' ⟨sh2, t2, s2, v2, cap2, rfl, rfl, F2, I2, hv2, hk2⟩
  refine J.popR dJ4_append_cf468_5 ?_
  refine J.aload_n 0 dJ4_append_cf468_6 rfl rfl ?_
  exact J.aret rfl dJ4_append_cf468_7 ⟨sh2, t2, s2, v2, cap2, rfl, rfl, F2, I2, hv2, hk2⟩
set_option maxHeartbeats 1000000 in
theorem s_size {Γ : jE} (hl : Γ.1.stackTraces = false) {sh : List (Nat × Nat)} {t : Nat → Nat → Option Nat} {s : Nat → Int → Int} {d : Nat} {x : Int} (hx : 0 ≤ x ∧ x < 10) : Con Γ (d, 0, 0) mJ6_stringSize_0f7a4 [.int (iI x)] (jmx sh t s) (fun w M' => w = some (.int (iI 1)) ∧ M' = jmx sh t s) X0 := by
  refine Con.ofJ (by decide +kernel) (by simp [Value.category]) (Nat.le_of_ble_eq_true rfl) ?_ hl
  refine I.iconst dJ6_stringSize_0f7a4_0 ?_
  refine J.istore_n 1 dJ6_stringSize_0f7a4_1 rfl (by decide) rfl ?_
  refine J.iload_n 0 dJ6_stringSize_0f7a4_2 rfl rfl ?_
  refine I.if_lt 11 dJ6_stringSize_0f7a4_3 (by decide) (by omega) (fun h3 => ?_) (fun h3 => ?_)
  · exact absurd h3 (by omega)
  · skip
    refine I.iconst dJ6_stringSize_0f7a4_6 ?_
    refine J.istore_n 1 dJ6_stringSize_0f7a4_7 rfl (by decide) rfl ?_
    refine J.iload_n 0 dJ6_stringSize_0f7a4_8 rfl rfl ?_
    refine I.neg dJ6_stringSize_0f7a4_9 ?_
    refine J.istore_n 0 dJ6_stringSize_0f7a4_10 rfl (by decide) rfl ?_
    refine I.bipush dJ6_stringSize_0f7a4_11 (by decide) ?_
    refine J.istore_n 2 dJ6_stringSize_0f7a4_13 rfl (by decide) rfl ?_
    refine I.iconst dJ6_stringSize_0f7a4_14 ?_
    refine J.istore_n 3 dJ6_stringSize_0f7a4_15 rfl (by decide) rfl ?_
    refine J.iload_n 3 dJ6_stringSize_0f7a4_16 rfl rfl ?_
    refine I.bipush dJ6_stringSize_0f7a4_17 (by decide) ?_
    refine I.icmp_ge 42 dJ6_stringSize_0f7a4_19 (by decide) (by omega) (by omega) (fun h19 => ?_) (fun h19 => ?_)
    · exact absurd h19 (by omega)
    · skip
      refine J.iload_n 0 dJ6_stringSize_0f7a4_22 rfl rfl ?_
      refine J.iload_n 2 dJ6_stringSize_0f7a4_23 rfl rfl ?_
      refine I.icmp_le 31 dJ6_stringSize_0f7a4_24 (by decide) (by omega) (by omega) (fun h24 => ?_) (fun h24 => ?_)
      · exact absurd h24 (by omega)
      · skip
        refine J.iload_n 3 dJ6_stringSize_0f7a4_27 rfl rfl ?_
        refine J.iload_n 1 dJ6_stringSize_0f7a4_28 rfl rfl ?_
        refine I.add dJ6_stringSize_0f7a4_29 ?_
        exact J.iret rfl dJ6_stringSize_0f7a4_30 ⟨rfl, rfl⟩
set_option maxHeartbeats 1000000 in
theorem s_getChars {Γ : jE} (hl : Γ.1.stackTraces = false) {sh : List (Nat × Nat)} {t : Nat → Nat → Option Nat} {s : Nat → Int → Int} {d : Nat} {v cap : Nat} (hv : sh[v]? = some (101, cap)) {x m : Int} (hx : 0 ≤ x ∧ x < 10) (hm : 0 ≤ m ∧ m < cap ∧ cap ≤ 3000) : Con Γ (d, 0, 0) mJ6_getChars_ba4f3 [.int (iI x), .int (iI (m + 1)), .ref v] (jmx sh t s) (fun w M' => (∃ z, w = some (.int z)) ∧ M' = jmx sh t (up s v m (48 + x))) X0 := by
  refine Con.ofJ (by decide +kernel) (by simp [Value.category]) (Nat.le_of_ble_eq_true rfl) ?_ hl
  refine J.iload_n 1 dJ6_getChars_ba4f3_0 rfl rfl ?_
  refine J.istore dJ6_getChars_ba4f3_1 (by decide) rfl ?_
  refine J.iload_n 0 dJ6_getChars_ba4f3_3 rfl rfl ?_
  refine I.if_ge 11 dJ6_getChars_ba4f3_4 (by decide) (by omega) (fun h4 => ?_) (fun h4 => ?_)
  · skip
    refine I.iconst dJ6_getChars_ba4f3_11 ?_
    refine J.istore dJ6_getChars_ba4f3_12 (by decide) rfl ?_
    refine J.iload dJ6_getChars_ba4f3_14 rfl ?_
    refine I.if_ne 22 dJ6_getChars_ba4f3_16 (by decide) (by omega) (fun h16 => ?_) (fun h16 => ?_)
    · exact absurd h16 (by omega)
    · skip
      refine J.iload_n 0 dJ6_getChars_ba4f3_19 rfl rfl ?_
      refine I.neg dJ6_getChars_ba4f3_20 ?_
      refine J.istore_n 0 dJ6_getChars_ba4f3_21 rfl (by decide) rfl ?_
      refine J.iload_n 0 dJ6_getChars_ba4f3_22 rfl rfl ?_
      refine I.bipush dJ6_getChars_ba4f3_23 (by decide) ?_
      refine I.icmp_gt 72 dJ6_getChars_ba4f3_25 (by decide) (by omega) (by omega) (fun h25 => ?_) (fun h25 => ?_)
      · skip
        refine J.aload_n 2 dJ6_getChars_ba4f3_72 rfl rfl ?_
        refine I.iinc dJ6_getChars_ba4f3_73 rfl rfl ?_
        skip
        refine J.iload dJ6_getChars_ba4f3_76 rfl ?_
        refine I.sx (show m + 1 + -1 = m by omega) ?_
        refine J.getDig dJ6_getChars_ba4f3_78 sfJ6_83 ?_
        refine J.iload_n 0 dJ6_getChars_ba4f3_81 rfl rfl ?_
        refine I.neg dJ6_getChars_ba4f3_82 ?_
        refine I.sx (Int.neg_neg x) ?_
        refine J.dig (by omega) dJ6_getChars_ba4f3_83 ?_
        refine Y.bast dJ6_getChars_ba4f3_84 hv (by omega) (by omega) (lo_at (by omega)).2.1 ?_
        refine J.iload_n 0 dJ6_getChars_ba4f3_85 rfl rfl ?_
        refine I.bipush dJ6_getChars_ba4f3_86 (by decide) ?_
        refine I.icmp_ge 104 dJ6_getChars_ba4f3_88 (by decide) (by omega) (by omega) (fun h88 => ?_) (fun h88 => ?_)
        · skip
          refine J.iload dJ6_getChars_ba4f3_104 rfl ?_
          refine I.if_eq 118 dJ6_getChars_ba4f3_106 (by decide) (by omega) (fun h106 => ?_) (fun h106 => ?_)
          · skip
            refine J.iload dJ6_getChars_ba4f3_118 rfl ?_
            exact J.iret rfl dJ6_getChars_ba4f3_120 ⟨⟨_, rfl⟩, rfl⟩
          · exact absurd h106 (by omega)
        · exact absurd h88 (by omega)
      · exact absurd h25 (by omega)
  · exact absurd h4 (by omega)
set_option maxHeartbeats 1000000 in
theorem s_appendI_5 {Γ : jE} (hl : Γ.1.stackTraces = false) {sh : List (Nat × Nat)} {t : Nat → Nat → Option Nat} {s : Nat → Int → Int} {q v cap : Nat} {T : Int → Int} {m : Int} {d : Nat} (hI : SBI sh t s q T m v cap) (hx : XB sh t s) (hlen : sh.length ≤ 800000) (hd : 3 ≤ d) (hm : m < 1000) {x : Int} (hc : 0 ≤ x ∧ x < 10) : Con Γ (d, 1, 3000) mJ5_append_c97b9 [.ref q, .int (iI x)] (jmx sh t s) (SBP q v sh t s (txA T m (48 + x)) (m + 1) 0 (some (.ref q))) X0 := by
  obtain ⟨i1, i2, i3, i4, i5, i6, i7, i8, i9⟩ := id hI
  refine Con.ofJ (by decide +kernel) (by simp [Value.category]) (Nat.le_of_ble_eq_true rfl) ?_ hl
  refine J.aload_n 0 dJ5_append_c97b9_0 rfl rfl ?_
  refine Y.gI 3 3 rfl dJ5_append_c97b9_1 fJ5_79 i1 (by decide) rfl ?_
  refine I.sx i6 ?_
  refine J.istore_n 2 dJ5_append_c97b9_4 rfl (by decide) rfl ?_
  refine J.iload_n 2 dJ5_append_c97b9_5 rfl rfl ?_
  refine J.iload_n 1 dJ5_append_c97b9_6 rfl rfl ?_
  refine J.callSO (b' := (d - 1, 0, 0)) (mi' := mJ6_stringSize_0f7a4) [.int (iI x)] dJ5_append_c97b9_7 lJ5_245 eJ6_stringSize_0f7a4 ⟨by show d - 1 + 1 ≤ d; omega, Nat.zero_le _, Nat.zero_le _⟩ (s_size hl hc) (fun _ _ h => absurd h id) (Nat.le_of_ble_eq_true rfl) ?_
  rintro w M' ⟨rfl, rfl⟩
  refine I.add dJ5_append_c97b9_10 ?_
  refine J.istore_n 3 dJ5_append_c97b9_11 rfl (by decide) rfl ?_
  refine J.aload_n 0 dJ5_append_c97b9_12 rfl rfl ?_
  refine J.iload_n 3 dJ5_append_c97b9_13 rfl rfl ?_
  refine J.callVP (b' := (d - 1, 1, 3000)) (mi' := mJ5_ensureCapacityInternal_d00df) [.int (iI (m + 1))] dJ5_append_c97b9_14 lJ5_100 eJ5_ensureCapacityInternal_d00df pv_ensureCapacityInternal_d00df i1 rfl ⟨by show d - 1 + 1 ≤ d; omega, Nat.le_refl _, Nat.le_refl _⟩ (s_ensure hl hI hx hlen (by omega) (by omega)) (fun _ _ h => absurd h id) (Nat.le_of_ble_eq_true rfl) ?_
  rintro w M' ⟨sh2, t2, s2, v2, cap2, rfl, rfl, F2, I2, hv2, hk2⟩
  obtain ⟨j1, j2, j3, j4, j5, j6, j7, j8, j9⟩ := id I2
  obtain ⟨⟨ext, he, hel⟩, X2, F2t, F2s⟩ := id F2
  have lq : q < sh2.length := get_lt j1
  have lv : v2 < sh2.length := get_lt j3
  refine J.aload_n 0 dJ5_append_c97b9_17 rfl rfl ?_
  refine J.callVP (b' := (d - 1, 0, 0)) (mi' := mJ5_isLatin1_aae02) [] dJ5_append_c97b9_18 lJ5_83 eJ5_isLatin1_aae02 esJ5_isLatin1_aae02.1 j1 rfl ⟨by show d - 1 + 1 ≤ d; omega, Nat.zero_le _, Nat.zero_le _⟩ (s_isLatin1 hl I2) (fun _ _ h => absurd h id) (Nat.le_of_ble_eq_true rfl) ?_
  rintro w M' ⟨rfl, rfl⟩
  refine I.if_eq 37 dJ5_append_c97b9_21 (by decide) (by omega) (fun h21 => ?_) (fun h21 => ?_)
  · exact absurd h21 (by omega)
  · skip
    refine J.iload_n 1 dJ5_append_c97b9_24 rfl rfl ?_
    refine J.iload_n 3 dJ5_append_c97b9_25 rfl rfl ?_
    refine J.aload_n 0 dJ5_append_c97b9_26 rfl rfl ?_
    refine Y.gR 0 dJ5_append_c97b9_27 fJ5_15 j1 (by decide) rfl j2 ?_
    refine J.callSO (b' := (d - 1, 0, 0)) (mi' := mJ6_getChars_ba4f3) [.int (iI x), .int (iI (m + 1)), .ref v2] dJ5_append_c97b9_30 lJ5_248 eJ6_getChars_ba4f3 ⟨by show d - 1 + 1 ≤ d; omega, Nat.zero_le _, Nat.zero_le _⟩ (s_getChars hl j3 hc (by omega)) (fun _ _ h => absurd h id) (Nat.le_of_ble_eq_true rfl) ?_
    rintro w M' ⟨⟨z, rfl⟩, rfl⟩
    refine J.pop dJ5_append_c97b9_33 ?_
    refine J.goto 48 dJ5_append_c97b9_34 (by decide) ?_
    refine J.aload_n 0 dJ5_append_c97b9_48 rfl rfl ?_
    refine J.iload_n 3 dJ5_append_c97b9_49 rfl rfl ?_
    refine Y.pI 3 3 rfl dJ5_append_c97b9_50 fJ5_79 j1 (by decide) rfl ?_
    refine J.aload_n 0 dJ5_append_c97b9_53 rfl rfl ?_
    exact J.aret rfl dJ5_append_c97b9_54 ⟨sh2, t2, _, v2, cap2, rfl, rfl, F2.same hv2 lq lv (fun a h g => by funext i; rw [up_ne (Or.inl h), up_ne (Or.inl g)]), I2.put (by omega) (by omega) (by rw [up_ne (Or.inr (by decide)), up_ne (Or.inl j4)]) (up_eq _ _ _ _) (fun i => by unfold up; by_cases h : i = m <;> simp [h, Ne.symm j4, j4]), hv2, by omega⟩
set_option maxHeartbeats 1000000 in
theorem s_appendI {Γ : jE} (hl : Γ.1.stackTraces = false) {sh : List (Nat × Nat)} {t : Nat → Nat → Option Nat} {s : Nat → Int → Int} {q v cap : Nat} {T : Int → Int} {m : Int} {d : Nat} (hI : SBI sh t s q T m v cap) (hx : XB sh t s) (hlen : sh.length ≤ 800000) (hd : 4 ≤ d) (hm : m < 1000) {x : Int} (hc : 0 ≤ x ∧ x < 10) : Con Γ (d, 1, 3000) mJ4_append_bf812 [.ref q, .int (iI x)] (jmx sh t s) (SBP q v sh t s (txA T m (48 + x)) (m + 1) 0 (some (.ref q))) X0 := by
  obtain ⟨i1, i2, i3, i4, i5, i6, i7, i8, i9⟩ := id hI
  refine Con.ofJ (by decide +kernel) (by simp [Value.category]) (Nat.le_of_ble_eq_true rfl) ?_ hl
  refine J.aload_n 0 dJ4_append_bf812_0 rfl rfl ?_
  refine J.iload_n 1 dJ4_append_bf812_1 rfl rfl ?_
  refine J.callU (b' := (d - 1, 1, 3000)) (mi' := mJ5_append_c97b9) [.int (iI x)] dJ4_append_bf812_2 lJ4_53 eJ5_append_c97b9 (by decide) sup_sb (y9 := yJ5_isLatin1_aae02) rfl esJ5_isLatin1_aae02.1 i1 rfl ⟨by show d - 1 + 1 ≤ d; omega, Nat.le_refl _, Nat.le_refl _⟩ (s_appendI_5 hl hI hx hlen (by omega) hm hc) (fun _ _ h => h) (Nat.le_of_ble_eq_true rfl) ?_
  rintro w M' ⟨sh2, t2, s2, v2, cap2, rfl, rfl, F2, I2, hv2, hk2⟩
  refine J.popR dJ4_append_bf812_5 ?_
  refine J.aload_n 0 dJ4_append_bf812_6 rfl rfl ?_
  exact J.aret rfl dJ4_append_bf812_7 ⟨sh2, t2, s2, v2, cap2, rfl, rfl, F2, I2, hv2, hk2⟩
set_option maxHeartbeats 1000000 in
theorem s_inflateIf {Γ : jE} (hl : Γ.1.stackTraces = false) {sh : List (Nat × Nat)} {t : Nat → Nat → Option Nat} {s : Nat → Int → Int} {q v cap : Nat} {T : Int → Int} {m : Int} {d : Nat} (hI : SBI sh t s q T m v cap) (hd : 1 ≤ d) : Con Γ (d, 0, 0) mJ5_inflateIfNeededFor_a7421 [.ref q, .ref 1000005] (jmx sh t s) (fun w M' => w = none ∧ M' = jmx sh t s) X0 := by
  obtain ⟨i1, i2, i3, i4, i5, i6, i7, i8, i9⟩ := id hI
  refine Con.ofJ (by decide +kernel) (by simp [Value.category]) (Nat.le_of_ble_eq_true rfl) ?_ hl
  refine J.getCS dJ5_inflateIfNeededFor_a7421_0 sfJ5_18 ?_
  refine I.if_eq 21 dJ5_inflateIfNeededFor_a7421_3 (by decide) (by omega) (fun h3 => ?_) (fun h3 => ?_)
  · exact absurd h3 (by omega)
  · skip
    refine J.aload_n 0 dJ5_inflateIfNeededFor_a7421_6 rfl rfl ?_
    refine Y.gI 1 1 rfl dJ5_inflateIfNeededFor_a7421_7 fJ5_22 i1 (by decide) rfl ?_
    refine I.sx i5 ?_
    refine J.aload_n 1 dJ5_inflateIfNeededFor_a7421_10 rfl rfl ?_
    refine J.strCall (i := 5) (d' := d - 1) (mi' := mJ0_coder_7d493) (r := iI 0) [] (by decide) dJ5_inflateIfNeededFor_a7421_11 lJ5_40 eJ0_coder_7d493 rfl (by show d - 1 + 1 ≤ d; omega) (fun v h => absurd h List.not_mem_nil) (fun adK adV => k_coder (by decide)) (Nat.le_of_ble_eq_true rfl) ?_
    refine I.icmp_eq 21 dJ5_inflateIfNeededFor_a7421_14 (by decide) (by omega) (by omega) (fun h14 => ?_) (fun h14 => ?_)
    · skip
      exact J.vret rfl dJ5_inflateIfNeededFor_a7421_21 ⟨rfl, rfl⟩
    · exact absurd h14 (by omega)
set_option maxHeartbeats 1000000 in
theorem s_getBytes {Γ : jE} (hl : Γ.1.stackTraces = false) {sh : List (Nat × Nat)} {t : Nat → Nat → Option Nat} {s : Nat → Int → Int} {d : Nat} {v cap : Nat} (hv : sh[v]? = some (101, cap)) {m : Int} (hm : 0 ≤ m ∧ m + 6 ≤ cap ∧ cap ≤ 3000) (hd : 1 ≤ d) : Con Γ (d, 0, 0) mJ0_getBytes_840e7 [.ref 1000005, .ref v, .int (iI m), .int (iI 0)] (jmx sh t s) (fun w M' => w = none ∧ M' = jmx sh t (catS s v m)) X0 := by
  refine Con.ofJ (by decide +kernel) (by simp [Value.category]) (Nat.le_of_ble_eq_true rfl) ?_ hl
  refine J.aload_n 0 dJ0_getBytes_840e7_0 rfl rfl ?_
  refine J.strCall (i := 5) (d' := d - 1) (mi' := mJ0_coder_7d493) (r := iI 0) [] (by decide) dJ0_getBytes_840e7_1 lJ0_335 eJ0_coder_7d493 rfl (by show d - 1 + 1 ≤ d; omega) (fun v h => absurd h List.not_mem_nil) (fun adK adV => k_coder (by decide)) (Nat.le_of_ble_eq_true rfl) ?_
  refine J.iload_n 3 dJ0_getBytes_840e7_4 rfl rfl ?_
  refine I.icmp_ne 28 dJ0_getBytes_840e7_5 (by decide) (by omega) (by omega) (fun h5 => ?_) (fun h5 => ?_)
  · exact absurd h5 (by omega)
  · skip
    refine J.strBytes (v := v) (n1 := cap) (m := m) hv (by omega) (by omega) rfl rfl rfl rfl ?_
    rw [jmx_cat hm.1]
    refine J.goto 43 dJ0_getBytes_840e7_25 (by decide) ?_
    exact J.vret rfl dJ0_getBytes_840e7_43 ⟨rfl, rfl⟩
set_option maxHeartbeats 1000000 in
theorem s_putString {Γ : jE} (hl : Γ.1.stackTraces = false) {sh : List (Nat × Nat)} {t : Nat → Nat → Option Nat} {s : Nat → Int → Int} {q v cap : Nat} {T : Int → Int} {m : Int} {d : Nat} (hI : SBI sh t s q T m v cap) (hm : m + 6 ≤ cap) (hd : 2 ≤ d) : Con Γ (d, 0, 0) mJ5_putStringAt_47b60 [.ref q, .int (iI m), .ref 1000005] (jmx sh t s) (fun w M' => w = none ∧ M' = jmx sh t (catS s v m)) X0 := by
  obtain ⟨i1, i2, i3, i4, i5, i6, i7, i8, i9⟩ := id hI
  refine Con.ofJ (by decide +kernel) (by simp [Value.category]) (Nat.le_of_ble_eq_true rfl) ?_ hl
  refine J.aload_n 0 dJ5_putStringAt_47b60_0 rfl rfl ?_
  refine J.aload_n 2 dJ5_putStringAt_47b60_1 rfl rfl ?_
  refine J.callVP (b' := (d - 1, 0, 0)) (mi' := mJ5_inflateIfNeededFor_a7421) [.ref 1000005] dJ5_putStringAt_47b60_2 lJ5_397 eJ5_inflateIfNeededFor_a7421 pv_inflateIfNeededFor_a7421 i1 rfl ⟨by show d - 1 + 1 ≤ d; omega, Nat.zero_le _, Nat.zero_le _⟩ (s_inflateIf hl hI (by omega)) (fun _ _ h => absurd h id) (Nat.le_of_ble_eq_true rfl) ?_
  rintro w M' ⟨rfl, rfl⟩
  refine J.aload_n 2 dJ5_putStringAt_47b60_5 rfl rfl ?_
  refine J.aload_n 0 dJ5_putStringAt_47b60_6 rfl rfl ?_
  refine Y.gR 0 dJ5_putStringAt_47b60_7 fJ5_15 i1 (by decide) rfl i2 ?_
  refine J.iload_n 1 dJ5_putStringAt_47b60_10 rfl rfl ?_
  refine J.aload_n 0 dJ5_putStringAt_47b60_11 rfl rfl ?_
  refine Y.gI 1 1 rfl dJ5_putStringAt_47b60_12 fJ5_22 i1 (by decide) rfl ?_
  refine I.sx i5 ?_
  refine J.callVK (q := 5) (b' := (d - 1, 0, 0)) (mi' := mJ0_getBytes_840e7) [.ref v, .int (iI m), .int (iI 0)] dJ5_putStringAt_47b60_15 lJ5_399 eJ0_getBytes_840e7 rfl (by decide) ⟨by show d - 1 + 1 ≤ d; omega, Nat.zero_le _, Nat.zero_le _⟩ (s_getBytes hl i3 (by omega) (by omega)) (fun _ _ h => absurd h id) (Nat.le_of_ble_eq_true rfl) ?_
  rintro w M' ⟨rfl, rfl⟩
  exact J.vret rfl dJ5_putStringAt_47b60_18 ⟨rfl, rfl⟩
set_option maxHeartbeats 1000000 in
theorem s_appendS_5 {Γ : jE} (hl : Γ.1.stackTraces = false) {sh : List (Nat × Nat)} {t : Nat → Nat → Option Nat} {s : Nat → Int → Int} {q v cap : Nat} {T : Int → Int} {m : Int} {d : Nat} (hI : SBI sh t s q T m v cap) (hx : XB sh t s) (hlen : sh.length ≤ 800000) (hd : 3 ≤ d) (hm : m < 900) : Con Γ (d, 1, 3000) mJ5_append_cf1ce [.ref q, .ref 1000005] (jmx sh t s) (SBP q v sh t s (txS T m) (m + 6) 0 (some (.ref q))) X0 := by
  obtain ⟨i1, i2, i3, i4, i5, i6, i7, i8, i9⟩ := id hI
  refine Con.ofJ (by decide +kernel) (by simp [Value.category]) (Nat.le_of_ble_eq_true rfl) ?_ hl
  refine J.aload_n 1 dJ5_append_cf1ce_0 rfl rfl ?_
  refine J.ifnonnull 9 dJ5_append_cf1ce_1 (by decide) ?_
  refine J.aload_n 1 dJ5_append_cf1ce_9 rfl rfl ?_
  refine J.strCall (i := 5) (d' := d - 1) (mi' := mJ0_length_8abf5) (r := iI 6) [] (by decide) dJ5_append_cf1ce_10 lJ5_32 eJ0_length_8abf5 rfl (by show d - 1 + 1 ≤ d; omega) (fun v h => absurd h List.not_mem_nil) (fun adK adV => k_length (by decide) (by omega)) (Nat.le_of_ble_eq_true rfl) ?_
  refine J.istore_n 2 dJ5_append_cf1ce_13 rfl (by decide) rfl ?_
  refine J.aload_n 0 dJ5_append_cf1ce_14 rfl rfl ?_
  refine J.aload_n 0 dJ5_append_cf1ce_15 rfl rfl ?_
  refine Y.gI 3 3 rfl dJ5_append_cf1ce_16 fJ5_79 i1 (by decide) rfl ?_
  refine I.sx i6 ?_
  refine J.iload_n 2 dJ5_append_cf1ce_19 rfl rfl ?_
  refine I.add dJ5_append_cf1ce_20 ?_
  refine J.callVP (b' := (d - 1, 1, 3000)) (mi' := mJ5_ensureCapacityInternal_d00df) [.int (iI (m + 6))] dJ5_append_cf1ce_21 lJ5_100 eJ5_ensureCapacityInternal_d00df pv_ensureCapacityInternal_d00df i1 rfl ⟨by show d - 1 + 1 ≤ d; omega, Nat.le_refl _, Nat.le_refl _⟩ (s_ensure hl hI hx hlen (by omega) (by omega)) (fun _ _ h => absurd h id) (Nat.le_of_ble_eq_true rfl) ?_
  rintro w M' ⟨sh2, t2, s2, v2, cap2, rfl, rfl, F2, I2, hv2, hk2⟩
  obtain ⟨j1, j2, j3, j4, j5, j6, j7, j8, j9⟩ := id I2
  obtain ⟨⟨ext, he, hel⟩, X2, F2t, F2s⟩ := id F2
  have lq : q < sh2.length := get_lt j1
  have lv : v2 < sh2.length := get_lt j3
  refine J.aload_n 0 dJ5_append_cf1ce_24 rfl rfl ?_
  refine J.aload_n 0 dJ5_append_cf1ce_25 rfl rfl ?_
  refine Y.gI 3 3 rfl dJ5_append_cf1ce_26 fJ5_79 j1 (by decide) rfl ?_
  refine I.sx j6 ?_
  refine J.aload_n 1 dJ5_append_cf1ce_29 rfl rfl ?_
  refine J.callVP (b' := (d - 1, 0, 0)) (mi' := mJ5_putStringAt_47b60) [.int (iI m), .ref 1000005] dJ5_append_cf1ce_30 lJ5_208 eJ5_putStringAt_47b60 pv_putStringAt_47b60 j1 rfl ⟨by show d - 1 + 1 ≤ d; omega, Nat.zero_le _, Nat.zero_le _⟩ (s_putString hl I2 (by omega) (by omega)) (fun _ _ h => absurd h id) (Nat.le_of_ble_eq_true rfl) ?_
  rintro w M' ⟨rfl, rfl⟩
  refine J.aload_n 0 dJ5_append_cf1ce_33 rfl rfl ?_
  refine J.dupR dJ5_append_cf1ce_34 ?_
  refine Y.gI 3 3 rfl dJ5_append_cf1ce_35 fJ5_79 j1 (by decide) rfl ?_
  refine I.sx (show catS s2 v2 m q 3 = m from (if_neg (fun h => j4 h.1)).trans j6) ?_
  refine J.iload_n 2 dJ5_append_cf1ce_38 rfl rfl ?_
  refine I.add dJ5_append_cf1ce_39 ?_
  refine Y.pI 3 3 rfl dJ5_append_cf1ce_40 fJ5_79 j1 (by decide) rfl ?_
  refine J.aload_n 0 dJ5_append_cf1ce_43 rfl rfl ?_
  exact J.aret rfl dJ5_append_cf1ce_44 ⟨sh2, t2, _, v2, cap2, rfl, rfl, F2.same hv2 lq lv (fun a h g => by funext i; rw [up_ne (Or.inl h)]; exact if_neg (fun e => g e.1)), I2.putS (by omega) (by rw [up_ne (Or.inr (by decide))]; exact if_neg (fun e => j4 e.1)) (up_eq _ _ _ _) (fun i => by rw [up_ne (Or.inl (Ne.symm j4))]; unfold catS; by_cases h : m ≤ i ∧ i < m + 6 <;> simp [h]), hv2, by omega⟩
set_option maxHeartbeats 1000000 in
theorem s_appendS {Γ : jE} (hl : Γ.1.stackTraces = false) {sh : List (Nat × Nat)} {t : Nat → Nat → Option Nat} {s : Nat → Int → Int} {q v cap : Nat} {T : Int → Int} {m : Int} {d : Nat} (hI : SBI sh t s q T m v cap) (hx : XB sh t s) (hlen : sh.length ≤ 800000) (hd : 4 ≤ d) (hm : m < 900) : Con Γ (d, 1, 3000) mJ4_append_15ec4 [.ref q, .ref 1000005] (jmx sh t s) (SBP q v sh t s (txS T m) (m + 6) 0 (some (.ref q))) X0 := by
  obtain ⟨i1, i2, i3, i4, i5, i6, i7, i8, i9⟩ := id hI
  refine Con.ofJ (by decide +kernel) (by simp [Value.category]) (Nat.le_of_ble_eq_true rfl) ?_ hl
  refine J.aload_n 0 dJ4_append_15ec4_0 rfl rfl ?_
  refine J.aload_n 1 dJ4_append_15ec4_1 rfl rfl ?_
  refine J.callU (b' := (d - 1, 1, 3000)) (mi' := mJ5_append_cf1ce) [.ref 1000005] dJ4_append_15ec4_2 lJ4_29 eJ5_append_cf1ce (by decide) sup_sb (y9 := yJ5_isLatin1_aae02) rfl esJ5_isLatin1_aae02.1 i1 rfl ⟨by show d - 1 + 1 ≤ d; omega, Nat.le_refl _, Nat.le_refl _⟩ (s_appendS_5 hl hI hx hlen (by omega) hm) (fun _ _ h => h) (Nat.le_of_ble_eq_true rfl) ?_
  rintro w M' ⟨sh2, t2, s2, v2, cap2, rfl, rfl, F2, I2, hv2, hk2⟩
  refine J.popR dJ4_append_15ec4_5 ?_
  refine J.aload_n 0 dJ4_append_15ec4_6 rfl rfl ?_
  exact J.aret rfl dJ4_append_15ec4_7 ⟨sh2, t2, s2, v2, cap2, rfl, rfl, F2, I2, hv2, hk2⟩
