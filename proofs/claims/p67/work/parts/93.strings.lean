/-! builders made; Strings made and read -/
section R93
variable {Γ : jE} {b : Nat × Nat × Nat} {mi : jMI} {pc : Nat} {L : List (Option Value)} {S : List Value} {M : jM} {P : Option Value → jM → Prop} {X : String → jM → Prop}
set_option maxHeartbeats 1000000 in
theorem J.kStat {idx d' : Nat} {mi' : jMI} (As : List Value) (dd : decode mi.2.1 pc = .ok (.invokestatic idx, 3)) (hl : Cond.methodLink mi.1.cls idx mi'.1 ∈ jG) (hs : jSE mi' As.length) (hb : d' + 1 ≤ b.1) (hAs : ∀ v ∈ As, ∃ x, v = .int x)
    (hc : ∀ (adK adV : Nat → Nat), kCon Γ.1 d' mi' As adK adV none) (hcat : (S.map fun v => v.category).sum ≤ 8) (k : J Γ b mi (pc + 3) L S M P X) : J Γ b mi pc L (As.reverse ++ S) M P X := by
  intro p e R s m args below meth c A n0 ρ0 Q C F ρ κ ls H locs cells slots hW hL hS h1 h2
  have hS1 := jok_app hS
  have hS2 : ∀ v ∈ S, jok M.1.length v := hS1.2
  have hmap : As.map (jre ρ) = As := by
    refine (List.map_congr_left fun v hv => ?_).trans (List.map_id As)
    obtain ⟨x, rfl⟩ := hAs v hv
    rfl
  rw [List.map_append, List.map_reverse, hmap]
  obtain ⟨-, hz, hq, adV, hv5⟩ := C.2.2.2.2.2.2.2.2.2.2.2.2.1.2.2.2
  have hSS := hW.2.2.1
  have hA := C.2.2.2.2.2.2.2.2.2.2.1
  have hn : ∀ q, kA H.size q → A q := fun q h => hA q (Nat.le_trans hSS.1 h)
  have hM := hc (fun i => ρ0 (1000000 + i)) adV H.size
  have hg : GoodIn jG (va_wsS mi.1.cls idx mi'.1 (jws mi')) := by
    intro w hw
    rcases List.mem_append.mp hw with h | h
    · simp only [List.mem_cons, List.not_mem_nil, or_false] at h
      rcases h with rfl | rfl | rfl
      · exact jgood hl
      · exact jgood hs.2
      · exact jgood hs.1.2.1
    · exact jws_good hs.1 w h
  have hrm := jroom (R := R) (b' := (d', 0, 0)) hb hs.1.2.2.2 C.2.2.2.2.2.2.2.1 C.2.2.2.2.2.2.2.2.1
  have fx : CallFix p m c mi.2.1 mi.2.2.1 s args jG mi.1.cls := ⟨C.1, C.2.1, C.2.2.1, C.2.2.2.2.2.1, C.2.2.2.2.2.2.1⟩
  have hkB : ∀ U : State, U.heap = H → s.WarmedH U.vm → kB (fun i => ρ0 (1000000 + i)) adV H.size U := by
    intro U hU hw
    subst hU
    exact ⟨rfl, ((hz.kept hSS.2.1).narrow hn).moved hw.alike, ((hq.kept hSS.2.1).narrow hn).moved hw.alike, ((hv5.kept hSS.2.1).narrow hn).moved hw.alike⟩
  exact kRun (rest := S.map (jre ρ)) (va_runS (As := As) fx hM (va_cwS As.length C.2.2.2.2.2.2.1 hg rfl rfl rfl hs.1.2.2.1 hrm) ⟨kB_blind, fun U hU hw => ⟨rfl, hkB U hU hw⟩⟩ rfl rfl hL.2.1 rfl (lv_room (jcatS hcat)) dd ⟨by omega, by omega⟩) hSS hA
    (fun H1 locs1 _ hk hS3 => k p e R s m args below meth c A n0 ρ0 Q C F ρ κ ls H1 locs1 cells slots (jW_same hW hk hS3) hL hS2 h1 h2)
theorem Y.new {sh : List (Nat × Nat)} {t : Nat → Nat → Option Nat} {s : Nat → Int → Int} {idx ci n : Nat} {Cn : String} {T : u_T} (d : decode mi.2.1 pc = .ok (.new idx, 3)) (hc : vwCl[ci]? = some (Cn, T, n)) (hl : Cond.classLink mi.1.cls idx Cn ∈ jG) (hi : Cond.instantiable Cn n ∈ jG) (hini : Cond.initialized Cn ∈ jG) (h : XB sh t s) (hb : 1 ≤ b.2.1 ∧ n ≤ b.2.2)
    (k : J Γ (b.1, b.2.1 - 1, b.2.2 - n) mi (pc + 3) L (.ref sh.length :: S) (jmx (sh ++ [(ci, n)]) t s) P X) : J Γ b mi pc L S (jmx sh t s) P X := J.new jdef d hc hl hi hini h.fr hb k
end R93
/-- a String: its length, its letters -/
def STI (sh : List (Nat × Nat)) (t : Nat → Nat → Option Nat) (s : Nat → Int → Int) (q : Nat) (T : Int → Int) (n v : Nat) : Prop :=
  sh[q]? = some (9, 4) ∧ t q 0 = some v ∧ sh[v]? = some (101, n) ∧ s q 1 = 0 ∧ n ≤ 3000 ∧ ∀ i : Int, 0 ≤ i → i < n → s v i = T i ∧ 0 ≤ T i ∧ T i < 128
theorem dJ4_length_8abf5_0 : decode cJ4_length_8abf5 0 = .ok (.aload_n 0, 1) := by decide +kernel
theorem dJ4_length_8abf5_1 : decode cJ4_length_8abf5 1 = .ok (.invokespecial 343, 3) := by decide +kernel
theorem dJ4_length_8abf5_4 : decode cJ4_length_8abf5 4 = .ok (.ireturn, 1) := by decide +kernel
set_option maxHeartbeats 1000000 in
theorem s_init5 {Γ : jE} (hl : Γ.1.stackTraces = false) {sh : List (Nat × Nat)} {t : Nat → Nat → Option Nat} {s : Nat → Int → Int} {q : Nat} {d : Nat} (h0 : sh[q]? = some (10, 4)) (hx : XB sh t s) (hlen : sh.length ≤ 800000) (hz : s q 1 = 0) : Con Γ (d, 1, 16) mJ5_init_d00df [.ref q, .int (iI 16)] (jmx sh t s) (fun w M' => w = none ∧ M' = jmx (sh ++ [(101, 16)]) (jup2 t q 0 (some sh.length)) s) X0 := by
  refine Con.ofJ (by decide +kernel) (by simp [Value.category]) (Nat.le_of_ble_eq_true rfl) ?_ hl
  refine J.aload_n 0 dJ5_init_d00df_0 rfl rfl ?_
  refine J.objInit dJ5_init_d00df_1 lJ5_3 oi_1 oi_2 (Nat.le_of_ble_eq_true rfl) ?_
  refine J.getCS dJ5_init_d00df_4 sfJ5_18 ?_
  refine I.if_eq 25 dJ5_init_d00df_7 (by decide) (by omega) (fun h7 => ?_) (fun h7 => ?_)
  · exact absurd h7 (by omega)
  · skip
    refine J.aload_n 0 dJ5_init_d00df_10 rfl rfl ?_
    refine J.iload_n 1 dJ5_init_d00df_11 rfl rfl ?_
    refine Y.newB 16 dJ5_init_d00df_12 rfl (by decide) hx ⟨Nat.le_refl _, Nat.le_refl _⟩ ?_
    skip
    refine Y.pR 0 dJ5_init_d00df_14 fJ5_15 (get_app h0) (by decide) rfl (by rw [List.length_append]; exact Nat.lt_succ_self _) ?_
    refine J.aload_n 0 dJ5_init_d00df_17 rfl rfl ?_
    refine I.iconst dJ5_init_d00df_18 ?_
    refine Y.pB 1 1 rfl (by decide) (by decide) dJ5_init_d00df_19 fJ5_22 (get_app h0) (by decide) rfl ?_
    rw [up_own2 hz.symm]
    refine J.goto 38 dJ5_init_d00df_22 (by decide) ?_
    exact J.vret rfl dJ5_init_d00df_38 ⟨rfl, rfl⟩
set_option maxHeartbeats 1000000 in
theorem s_init {Γ : jE} (hl : Γ.1.stackTraces = false) {sh : List (Nat × Nat)} {t : Nat → Nat → Option Nat} {s : Nat → Int → Int} {q : Nat} {d : Nat} (h0 : sh[q]? = some (10, 4)) (hx : XB sh t s) (hlen : sh.length ≤ 800000) (hz : s q 1 = 0) (hd : 1 ≤ d) : Con Γ (d, 1, 16) mJ4_init_da8c8 [.ref q] (jmx sh t s) (fun w M' => w = none ∧ M' = jmx (sh ++ [(101, 16)]) (jup2 t q 0 (some sh.length)) s) X0 := by
  refine Con.ofJ (by decide +kernel) (by simp [Value.category]) (Nat.le_of_ble_eq_true rfl) ?_ hl
  refine J.aload_n 0 dJ4_init_da8c8_0 rfl rfl ?_
  refine I.bipush dJ4_init_da8c8_1 (by decide) ?_
  refine J.callI (b' := (d - 1, 1, 16)) (mi' := mJ5_init_d00df) [.int (iI 16)] dJ4_init_da8c8_3 lJ4_1 eJ5_init_d00df ⟨by show d - 1 + 1 ≤ d; omega, Nat.le_refl _, Nat.le_refl _⟩ (s_init5 hl h0 hx hlen hz) (fun _ _ h => h) (fun _ _ h => absurd h id) (Nat.le_of_ble_eq_true rfl) ?_
  rintro w M' ⟨rfl, rfl⟩
  exact J.vret rfl dJ4_init_da8c8_6 ⟨rfl, rfl⟩
set_option maxHeartbeats 1000000 in
theorem s_checkLength {Γ : jE} (hl : Γ.1.stackTraces = false) {sh : List (Nat × Nat)} {t : Nat → Nat → Option Nat} {s : Nat → Int → Int} {d : Nat} {a c : Int} (h : a ≤ c) (h2 : -1000000 ≤ a ∧ c ≤ 1000000) : Con Γ (d, 0, 0) mJ7_checkLength_df160 [.int (iI a), .int (iI c)] (jmx sh t s) (fun w M' => w = none ∧ M' = jmx sh t s) X0 := by
  refine Con.ofJ (by decide +kernel) (by simp [Value.category]) (Nat.le_of_ble_eq_true rfl) ?_ hl
  refine J.iload_n 1 dJ7_checkLength_df160_0 rfl rfl ?_
  refine J.iload_n 0 dJ7_checkLength_df160_1 rfl rfl ?_
  refine I.icmp_ge 37 dJ7_checkLength_df160_2 (by decide) (by omega) (by omega) (fun h2 => ?_) (fun h2 => ?_)
  · skip
    exact J.vret rfl dJ7_checkLength_df160_37 ⟨rfl, rfl⟩
  · exact absurd h2 (by omega)
set_option maxHeartbeats 1000000 in
theorem s_rangeB {Γ : jE} (hl : Γ.1.stackTraces = false) {sh : List (Nat × Nat)} {t : Nat → Nat → Option Nat} {s : Nat → Int → Int} {d : Nat} {v cap n : Nat} (hv : sh[v]? = some (101, cap)) (h9 : ∀ i : Nat, -128 ≤ s v i ∧ s v i < 128) (hx : XB sh t s) (hn : n ≤ cap ∧ cap ≤ 3000) (hd : 1 ≤ d) : Con Γ (d, 1, 3000) mJ7_copyOfRangeByte_39247 [.ref v, .int (iI 0), .int (iI (n : Int))] (jmx sh t s) (fun w M' => w = some (.ref sh.length) ∧ ∃ s', M' = jmx (sh ++ [(101, n)]) t s' ∧ (∀ a, a ≠ sh.length → s' a = s a) ∧ ∀ i : Int, 0 ≤ i → i < n → s' sh.length i = s v i) X0 := by
  refine Con.ofJ (by decide +kernel) (by simp [Value.category]) (Nat.le_of_ble_eq_true rfl) ?_ hl
  refine J.iload_n 1 dJ7_copyOfRangeByte_39247_0 rfl rfl ?_
  refine J.iload_n 2 dJ7_copyOfRangeByte_39247_1 rfl rfl ?_
  refine J.callSO (b' := (d - 1, 0, 0)) (mi' := mJ7_checkLength_df160) [.int (iI 0), .int (iI (n : Int))] dJ7_copyOfRangeByte_39247_2 lJ7_343 eJ7_checkLength_df160 ⟨by show d - 1 + 1 ≤ d; omega, Nat.zero_le _, Nat.zero_le _⟩ (s_checkLength hl (by omega) (by omega)) (fun _ _ h => absurd h id) (Nat.le_of_ble_eq_true rfl) ?_
  rintro w M' ⟨rfl, rfl⟩
  refine J.iload_n 2 dJ7_copyOfRangeByte_39247_5 rfl rfl ?_
  refine J.iload_n 1 dJ7_copyOfRangeByte_39247_6 rfl rfl ?_
  refine I.sub dJ7_copyOfRangeByte_39247_7 ?_
  refine J.istore_n 3 dJ7_copyOfRangeByte_39247_8 rfl (by decide) rfl ?_
  refine J.iload_n 3 dJ7_copyOfRangeByte_39247_9 rfl rfl ?_
  refine Y.newB n dJ7_copyOfRangeByte_39247_10 (by omega) (by omega) hx ⟨by show 1 ≤ 1; omega, by show n ≤ 3000; omega⟩ ?_
  refine J.astore dJ7_copyOfRangeByte_39247_12 (by decide) rfl ?_
  skip
  refine J.aload_n 0 dJ7_copyOfRangeByte_39247_14 rfl rfl ?_
  refine J.iload_n 1 dJ7_copyOfRangeByte_39247_15 rfl rfl ?_
  refine J.aload dJ7_copyOfRangeByte_39247_16 rfl ?_
  refine I.iconst dJ7_copyOfRangeByte_39247_18 ?_
  refine J.aload_n 0 dJ7_copyOfRangeByte_39247_19 rfl rfl ?_
  refine Y.alen dJ7_copyOfRangeByte_39247_20 (get_app hv) (by decide) ?_
  refine J.iload_n 1 dJ7_copyOfRangeByte_39247_21 rfl rfl ?_
  refine I.sub dJ7_copyOfRangeByte_39247_22 ?_
  refine J.iload_n 3 dJ7_copyOfRangeByte_39247_23 rfl rfl ?_
  refine I.mmin dJ7_copyOfRangeByte_39247_24 lJ7_304 (by omega) (by omega) (Nat.le_of_ble_eq_true rfl) ?_
  refine Y.copyb n dJ7_copyOfRangeByte_39247_27 lJ7_150 (get_app hv) get_end (by omega) (by omega) (by omega) (Nat.le_refl _) (fun i _ => h9 i) (Nat.le_of_ble_eq_true rfl) ?_
  refine J.aload dJ7_copyOfRangeByte_39247_30 rfl ?_
  exact J.bret rfl dJ7_copyOfRangeByte_39247_32 ⟨rfl, _, rfl, fun a ha => funext fun i => if_neg (fun e => ha e.1), fun i h0 h1 => if_pos ⟨rfl, h0, h1⟩⟩
set_option maxHeartbeats 1000000 in
theorem s_range {Γ : jE} (hl : Γ.1.stackTraces = false) {sh : List (Nat × Nat)} {t : Nat → Nat → Option Nat} {s : Nat → Int → Int} {d : Nat} {v cap n : Nat} (hv : sh[v]? = some (101, cap)) (h9 : ∀ i : Nat, -128 ≤ s v i ∧ s v i < 128) (hx : XB sh t s) (hn : n ≤ cap ∧ cap ≤ 3000) (hd : 2 ≤ d) : Con Γ (d, 1, 3000) mJ7_copyOfRange_39247 [.ref v, .int (iI 0), .int (iI (n : Int))] (jmx sh t s) (fun w M' => w = some (.ref sh.length) ∧ ∃ s', M' = jmx (sh ++ [(101, n)]) t s' ∧ (∀ a, a ≠ sh.length → s' a = s a) ∧ ∀ i : Int, 0 ≤ i → i < n → s' sh.length i = s v i) X0 := by
  refine Con.ofJ (by decide +kernel) (by simp [Value.category]) (Nat.le_of_ble_eq_true rfl) ?_ hl
  refine J.iload_n 1 dJ7_copyOfRange_39247_0 rfl rfl ?_
  refine I.if_ne 10 dJ7_copyOfRange_39247_1 (by decide) (by omega) (fun h1 => ?_) (fun h1 => ?_)
  · exact absurd h1 (by omega)
  · skip
    refine J.iload_n 2 dJ7_copyOfRange_39247_4 rfl rfl ?_
    refine J.aload_n 0 dJ7_copyOfRange_39247_5 rfl rfl ?_
    refine Y.alen dJ7_copyOfRange_39247_6 hv (by decide) ?_
    refine I.icmp_eq 17 dJ7_copyOfRange_39247_7 (by decide) (by omega) (by omega) (fun h7 => ?_) (fun h7 => ?_)
    · skip
      obtain rfl : n = cap := by omega
      refine J.aload_n 0 dJ7_copyOfRange_39247_17 rfl rfl ?_
      refine Y.cloneB rfl dJ7_copyOfRange_39247_18 dJ7_copyOfRange_39247_21 hv (by omega) (fun i _ => h9 i) hx ⟨by show 1 ≤ 1; omega, by show n ≤ 3000; omega⟩ (Nat.le_of_ble_eq_true rfl) ?_
      exact J.bret rfl dJ7_copyOfRange_39247_24 ⟨rfl, _, rfl, fun a ha => funext fun i => if_neg (fun e => ha e.1), fun i h0 h1 => if_pos ⟨rfl, h0⟩⟩
    · skip
      refine J.aload_n 0 dJ7_copyOfRange_39247_10 rfl rfl ?_
      refine J.iload_n 1 dJ7_copyOfRange_39247_11 rfl rfl ?_
      refine J.iload_n 2 dJ7_copyOfRange_39247_12 rfl rfl ?_
      refine J.callSO (b' := (d - 1, 1, 3000)) (mi' := mJ7_copyOfRangeByte_39247) [.ref v, .int (iI 0), .int (iI (n : Int))] dJ7_copyOfRange_39247_13 lJ7_339 eJ7_copyOfRangeByte_39247 ⟨by show d - 1 + 1 ≤ d; omega, Nat.le_refl _, Nat.le_refl _⟩ (s_rangeB hl hv h9 hx hn (by omega)) (fun _ _ h => absurd h id) (Nat.le_of_ble_eq_true rfl) ?_
      rintro w M' ⟨rfl, s2, rfl, h1, h2⟩
      exact J.bret rfl dJ7_copyOfRange_39247_16 ⟨rfl, s2, rfl, h1, h2⟩
set_option maxHeartbeats 1000000 in
theorem s_getValue {Γ : jE} (hl : Γ.1.stackTraces = false) {sh : List (Nat × Nat)} {t : Nat → Nat → Option Nat} {s : Nat → Int → Int} {q v cap : Nat} {T : Int → Int} {m : Int} {d : Nat} (hI : SBI sh t s q T m v cap) : Con Γ (d, 0, 0) mJ5_getValue_6d5f1 [.ref q] (jmx sh t s) (fun w M' => w = some (.ref v) ∧ M' = jmx sh t s) X0 := by
  obtain ⟨i1, i2, i3, i4, i5, i6, i7, i8, i9⟩ := id hI
  refine Con.ofJ (by decide +kernel) (by simp [Value.category]) (Nat.le_of_ble_eq_true rfl) ?_ hl
  refine J.aload_n 0 dJ5_getValue_6d5f1_0 rfl rfl ?_
  refine Y.gR 0 dJ5_getValue_6d5f1_1 fJ5_15 i1 (by decide) rfl i2 ?_
  exact J.bret rfl dJ5_getValue_6d5f1_4 ⟨rfl, rfl⟩
set_option maxHeartbeats 1000000 in
theorem s_length5 {Γ : jE} (hl : Γ.1.stackTraces = false) {sh : List (Nat × Nat)} {t : Nat → Nat → Option Nat} {s : Nat → Int → Int} {q v cap : Nat} {T : Int → Int} {m : Int} {d : Nat} (hI : SBI sh t s q T m v cap) : Con Γ (d, 0, 0) mJ5_length_8abf5 [.ref q] (jmx sh t s) (fun w M' => w = some (.int (iI m)) ∧ M' = jmx sh t s) X0 := by
  obtain ⟨i1, i2, i3, i4, i5, i6, i7, i8, i9⟩ := id hI
  refine Con.ofJ (by decide +kernel) (by simp [Value.category]) (Nat.le_of_ble_eq_true rfl) ?_ hl
  refine J.aload_n 0 dJ5_length_8abf5_0 rfl rfl ?_
  refine Y.gI 3 3 rfl dJ5_length_8abf5_1 fJ5_79 i1 (by decide) rfl ?_
  refine I.sx i6 ?_
  exact J.iret rfl dJ5_length_8abf5_4 ⟨rfl, rfl⟩
set_option maxHeartbeats 1000000 in
theorem s_length4 {Γ : jE} (hl : Γ.1.stackTraces = false) {sh : List (Nat × Nat)} {t : Nat → Nat → Option Nat} {s : Nat → Int → Int} {q v cap : Nat} {T : Int → Int} {m : Int} {d : Nat} (hI : SBI sh t s q T m v cap) (hd : 1 ≤ d) : Con Γ (d, 0, 0) mJ4_length_8abf5 [.ref q] (jmx sh t s) (fun w M' => w = some (.int (iI m)) ∧ M' = jmx sh t s) X0 := by
  obtain ⟨i1, i2, i3, i4, i5, i6, i7, i8, i9⟩ := id hI
  refine Con.ofJ (by decide +kernel) (by simp [Value.category]) (Nat.le_of_ble_eq_true rfl) ?_ hl
  refine J.aload_n 0 dJ4_length_8abf5_0 rfl rfl ?_
  refine J.callU (b' := (d - 1, 0, 0)) (mi' := mJ5_length_8abf5) [] dJ4_length_8abf5_1 lJ4_343 eJ5_length_8abf5 (by decide) sup_sb (y9 := yJ5_isLatin1_aae02) rfl esJ5_isLatin1_aae02.1 i1 rfl ⟨by show d - 1 + 1 ≤ d; omega, Nat.zero_le _, Nat.zero_le _⟩ (s_length5 hl hI) (fun _ _ h => h) (Nat.le_of_ble_eq_true rfl) ?_
  rintro w M' ⟨rfl, rfl⟩
  exact J.iret rfl dJ4_length_8abf5_4 ⟨rfl, rfl⟩
set_option maxHeartbeats 1000000 in
theorem s_strInit2 {Γ : jE} (hl : Γ.1.stackTraces = false) {sh : List (Nat × Nat)} {t : Nat → Nat → Option Nat} {s : Nat → Int → Int} {q v cap : Nat} {T : Int → Int} {m : Int} {u : Nat} {d : Nat} (hI : SBI sh t s q T m v cap) (hu : sh[u]? = some (9, 4)) (hz : s u 1 = 0) (hx : XB sh t s) (hlen : sh.length ≤ 800000) (hd : 3 ≤ d) : Con Γ (d, 1, 3000) mJ0_init_db425 [.ref u, .ref q, .null] (jmx sh t s) (fun w M' => w = none ∧ ∃ s', M' = jmx (sh ++ [(101, m.toNat)]) (jup2 t u 0 (some sh.length)) s' ∧ (∀ a, a ≠ sh.length → s' a = s a) ∧ ∀ i : Int, 0 ≤ i → i < m → s' sh.length i = T i) X0 := by
  obtain ⟨i1, i2, i3, i4, i5, i6, i7, i8, i9⟩ := id hI
  refine Con.ofJ (by decide +kernel) (by simp [Value.category]) (Nat.le_of_ble_eq_true rfl) ?_ hl
  refine J.aload_n 0 dJ0_init_db425_0 rfl rfl ?_
  refine J.objInit dJ0_init_db425_1 lJ0_1 oi_1 oi_2 (Nat.le_of_ble_eq_true rfl) ?_
  refine J.aload_n 1 dJ0_init_db425_4 rfl rfl ?_
  refine J.callVP (b' := (d - 1, 0, 0)) (mi' := mJ5_getValue_6d5f1) [] dJ0_init_db425_5 lJ0_552 eJ5_getValue_6d5f1 esJ5_getValue_6d5f1.1 i1 rfl ⟨by show d - 1 + 1 ≤ d; omega, Nat.zero_le _, Nat.zero_le _⟩ (s_getValue hl hI) (fun _ _ h => absurd h id) (Nat.le_of_ble_eq_true rfl) ?_
  rintro w M' ⟨rfl, rfl⟩
  refine J.astore_n 3 dJ0_init_db425_8 rfl (by decide) rfl ?_
  refine J.aload_n 1 dJ0_init_db425_9 rfl rfl ?_
  refine J.callVO (b' := (d - 1, 0, 0)) (mi' := mJ4_length_8abf5) (x := yJ5_length_8abf5) [] dJ0_init_db425_10 lJ0_549 eJ4_length_8abf5 sel_len sm_len eJ5_length_8abf5.1.1 eJ5_length_8abf5.2 eJ5_length_8abf5.1.2.2.1 i1 rfl ⟨by show d - 1 + 1 ≤ d; omega, Nat.zero_le _, Nat.zero_le _⟩ (s_length4 hl hI (by omega)) (fun _ _ h => h) (Nat.le_of_ble_eq_true rfl) ?_
  rintro w M' ⟨rfl, rfl⟩
  refine J.istore dJ0_init_db425_13 (by decide) rfl ?_
  refine J.aload_n 1 dJ0_init_db425_15 rfl rfl ?_
  refine J.callVP (b' := (d - 1, 0, 0)) (mi' := mJ5_isLatin1_aae02) [] dJ0_init_db425_16 lJ0_1047 eJ5_isLatin1_aae02 esJ5_isLatin1_aae02.1 i1 rfl ⟨by show d - 1 + 1 ≤ d; omega, Nat.zero_le _, Nat.zero_le _⟩ (s_isLatin1 hl hI) (fun _ _ h => absurd h id) (Nat.le_of_ble_eq_true rfl) ?_
  rintro w M' ⟨rfl, rfl⟩
  refine I.if_eq 41 dJ0_init_db425_19 (by decide) (by omega) (fun h19 => ?_) (fun h19 => ?_)
  · exact absurd h19 (by omega)
  · skip
    refine J.aload_n 0 dJ0_init_db425_22 rfl rfl ?_
    refine I.iconst dJ0_init_db425_23 ?_
    refine Y.pFB 1 1 rfl (by decide) (by decide) dJ0_init_db425_24 fJ0_15 hu (by decide) rfl rfl rfl ?_
    rw [up_own2 hz.symm]
    obtain ⟨n, rfl⟩ := Int.eq_ofNat_of_zero_le i7.1
    refine J.aload_n 0 dJ0_init_db425_27 rfl rfl ?_
    refine J.aload_n 3 dJ0_init_db425_28 rfl rfl ?_
    refine I.iconst dJ0_init_db425_29 ?_
    refine J.iload dJ0_init_db425_30 rfl ?_
    refine J.callSO (b' := (d - 1, 1, 3000)) (mi' := mJ7_copyOfRange_39247) [.ref v, .int (iI 0), .int (iI (n : Int))] dJ0_init_db425_32 lJ0_54 eJ7_copyOfRange_39247 ⟨by show d - 1 + 1 ≤ d; omega, Nat.le_refl _, Nat.le_refl _⟩ (s_range hl i3 i9 hx (by omega) (by omega)) (fun _ _ h => absurd h id) (Nat.le_of_ble_eq_true rfl) ?_
    rintro w M' ⟨rfl, s2, rfl, g1, g2⟩
    skip
    refine Y.pFR 0 dJ0_init_db425_35 fJ0_9 (get_app hu) (by decide) rfl rfl rfl (by rw [List.length_append]; exact Nat.lt_succ_self _) ?_
    refine J.goto 97 dJ0_init_db425_38 (by decide) ?_
    exact J.vret rfl dJ0_init_db425_97 ⟨rfl, s2, by rw [Int.toNat_natCast], g1, fun i h0 h1 => (g2 i h0 h1).trans (i8 i h0 h1)⟩
set_option maxHeartbeats 1000000 in
theorem s_strInit {Γ : jE} (hl : Γ.1.stackTraces = false) {sh : List (Nat × Nat)} {t : Nat → Nat → Option Nat} {s : Nat → Int → Int} {q v cap : Nat} {T : Int → Int} {m : Int} {u : Nat} {d : Nat} (hI : SBI sh t s q T m v cap) (hu : sh[u]? = some (9, 4)) (hz : s u 1 = 0) (hx : XB sh t s) (hlen : sh.length ≤ 800000) (hd : 4 ≤ d) : Con Γ (d, 1, 3000) mJ0_init_81219 [.ref u, .ref q] (jmx sh t s) (fun w M' => w = none ∧ ∃ s', M' = jmx (sh ++ [(101, m.toNat)]) (jup2 t u 0 (some sh.length)) s' ∧ (∀ a, a ≠ sh.length → s' a = s a) ∧ ∀ i : Int, 0 ≤ i → i < m → s' sh.length i = T i) X0 := by
  obtain ⟨i1, i2, i3, i4, i5, i6, i7, i8, i9⟩ := id hI
  refine Con.ofJ (by decide +kernel) (by simp [Value.category]) (Nat.le_of_ble_eq_true rfl) ?_ hl
  refine J.aload_n 0 dJ0_init_81219_0 rfl rfl ?_
  refine J.aload_n 1 dJ0_init_81219_1 rfl rfl ?_
  refine J.anull dJ0_init_81219_2 ?_
  refine J.callI (b' := (d - 1, 1, 3000)) (mi' := mJ0_init_db425) [.ref q, .null] dJ0_init_81219_3 lJ0_489 eJ0_init_db425 ⟨by show d - 1 + 1 ≤ d; omega, Nat.le_refl _, Nat.le_refl _⟩ (s_strInit2 hl hI hu hz hx hlen (by omega)) (fun _ _ h => h) (fun _ _ h => absurd h id) (Nat.le_of_ble_eq_true rfl) ?_
  rintro w M' ⟨rfl, s2, rfl, g1, g2⟩
  exact J.vret rfl dJ0_init_81219_6 ⟨rfl, s2, rfl, g1, g2⟩
set_option maxHeartbeats 1000000 in
theorem s_toString {Γ : jE} (hl : Γ.1.stackTraces = false) {sh : List (Nat × Nat)} {t : Nat → Nat → Option Nat} {s : Nat → Int → Int} {q v cap : Nat} {T : Int → Int} {m : Int} {d : Nat} (hI : SBI sh t s q T m v cap) (hx : XB sh t s) (hlen : sh.length ≤ 700000) (hT : ∀ i, 0 ≤ i → i < m → 0 ≤ T i ∧ T i < 128) (hd : 5 ≤ d) : Con Γ (d, 2, 3004) mJ4_toString_0e30d [.ref q] (jmx sh t s) (fun w M' => w = some (.ref sh.length) ∧ ∃ t' s', M' = jmx (sh ++ [(9, 4), (101, m.toNat)]) t' s' ∧ (∀ a, a < sh.length → t' a = t a ∧ s' a = s a) ∧ XB (sh ++ [(9, 4), (101, m.toNat)]) t' s' ∧ STI (sh ++ [(9, 4), (101, m.toNat)]) t' s' sh.length T m.toNat (sh.length + 1)) X0 := by
  obtain ⟨i1, i2, i3, i4, i5, i6, i7, i8, i9⟩ := id hI
  refine Con.ofJ (by decide +kernel) (by simp [Value.category]) (Nat.le_of_ble_eq_true rfl) ?_ hl
  refine Y.new (ci := 9) dJ4_toString_0e30d_0 rfl kJ4_18 iJ0 iniJ0 hx ⟨by show 1 ≤ 2; omega, by show 4 ≤ 3004; omega⟩ ?_
  have hx2 : XB (sh ++ [(9, 4)]) t s := hx.app (by omega)
  have hI2 : SBI (sh ++ [(9, 4)]) t s q T m v cap := ⟨get_app i1, i2, get_app i3, i4, i5, i6, i7, i8, i9⟩
  have el : (sh ++ [((9, 4) : Nat × Nat)]).length = sh.length + 1 := by rw [List.length_append]; rfl
  refine J.dupR dJ4_toString_0e30d_3 ?_
  refine J.aload_n 0 dJ4_toString_0e30d_4 rfl rfl ?_
  refine J.callI (b' := (d - 1, 1, 3000)) (mi' := mJ0_init_81219) [.ref q] dJ4_toString_0e30d_5 lJ4_137 eJ0_init_81219 ⟨by show d - 1 + 1 ≤ d; omega, by show 1 ≤ 2 - 1; omega, by show 3000 ≤ 3004 - 4; omega⟩ (s_strInit hl hI2 get_end ((hx.2 _ (Nat.le_refl _)).2 1) hx2 (by rw [el]; omega) (by omega)) (fun _ _ h => h) (fun _ _ h => absurd h id) (Nat.le_of_ble_eq_true rfl) ?_
  rintro w M' ⟨rfl, s2, rfl, g1, g2⟩
  rw [el] at g1 g2 ⊢
  have e2 : sh ++ [((9, 4) : Nat × Nat)] ++ [(101, m.toNat)] = sh ++ [(9, 4), (101, m.toNat)] := by rw [List.append_assoc]; rfl
  have el2 : (sh ++ [((9, 4) : Nat × Nat), (101, m.toNat)]).length = sh.length + 2 := by rw [List.length_append]; rfl
  rw [e2]
  refine J.aret rfl dJ4_toString_0e30d_8 ⟨rfl, _, s2, rfl, fun a ha => ⟨by funext i; unfold jup2; rw [if_neg (by omega)], g1 a (by omega)⟩, ⟨by rw [el2]; omega, fun a ha => ?_⟩, ?_⟩
  · rw [el2] at ha
    exact ⟨fun i => by unfold jup2; rw [if_neg (by omega)]; exact (hx.2 a (by omega)).1 i, fun i => by rw [g1 a (by omega)]; exact (hx.2 a (by omega)).2 i⟩
  · refine ⟨by rw [List.getElem?_append_right (Nat.le_refl _), Nat.sub_self]; rfl, if_pos ⟨rfl, rfl⟩, by rw [List.getElem?_append_right (by omega), Nat.add_sub_cancel_left]; rfl, by rw [g1 _ (by omega)]; exact (hx.2 _ (Nat.le_refl _)).2 1, by omega, fun i h0 h1 => ?_⟩
    exact ⟨g2 i h0 (by omega), hT i h0 (by omega)⟩
set_option maxHeartbeats 1000000 in
theorem t_coder {Γ : jE} (hl : Γ.1.stackTraces = false) {sh : List (Nat × Nat)} {t : Nat → Nat → Option Nat} {s : Nat → Int → Int} {q v n : Nat} {T : Int → Int} {d : Nat} (hI : STI sh t s q T n v) : Con Γ (d, 0, 0) mJ0_coder_7d493 [.ref q] (jmx sh t s) (fun w M' => w = some (.int (iI 0)) ∧ M' = jmx sh t s) X0 := by
  obtain ⟨i1, i2, i3, i4, i5, i6⟩ := id hI
  refine Con.ofJ (by decide +kernel) (by simp [Value.category]) (Nat.le_of_ble_eq_true rfl) ?_ hl
  refine J.getCS dJ0_coder_7d493_0 sfJ0_38 ?_
  refine I.if_eq 13 dJ0_coder_7d493_3 (by decide) (by omega) (fun h3 => ?_) (fun h3 => ?_)
  · exact absurd h3 (by omega)
  · skip
    refine J.aload_n 0 dJ0_coder_7d493_6 rfl rfl ?_
    refine Y.gI 1 1 rfl dJ0_coder_7d493_7 fJ0_15 i1 (by decide) rfl ?_
    refine I.sx i4 ?_
    refine J.goto 14 dJ0_coder_7d493_10 (by decide) ?_
    exact J.ret (v := some (.int (iI 0))) (Or.inr (Or.inl ⟨.byte, iI 0, rfl, rfl, rfl, dJ0_coder_7d493_14⟩)) ⟨rfl, rfl⟩ rfl
set_option maxHeartbeats 1000000 in
theorem t_isLatin1 {Γ : jE} (hl : Γ.1.stackTraces = false) {sh : List (Nat × Nat)} {t : Nat → Nat → Option Nat} {s : Nat → Int → Int} {q v n : Nat} {T : Int → Int} {d : Nat} (hI : STI sh t s q T n v) : Con Γ (d, 0, 0) mJ0_isLatin1_aae02 [.ref q] (jmx sh t s) (fun w M' => w = some (.int (iI 1)) ∧ M' = jmx sh t s) X0 := by
  obtain ⟨i1, i2, i3, i4, i5, i6⟩ := id hI
  refine Con.ofJ (by decide +kernel) (by simp [Value.category]) (Nat.le_of_ble_eq_true rfl) ?_ hl
  refine J.getCS dJ0_isLatin1_aae02_0 sfJ0_38 ?_
  refine I.if_eq 17 dJ0_isLatin1_aae02_3 (by decide) (by omega) (fun h3 => ?_) (fun h3 => ?_)
  · exact absurd h3 (by omega)
  · skip
    refine J.aload_n 0 dJ0_isLatin1_aae02_6 rfl rfl ?_
    refine Y.gI 1 1 rfl dJ0_isLatin1_aae02_7 fJ0_15 i1 (by decide) rfl ?_
    refine I.sx i4 ?_
    refine I.if_ne 17 dJ0_isLatin1_aae02_10 (by decide) (by omega) (fun h10 => ?_) (fun h10 => ?_)
    · exact absurd h10 (by omega)
    · skip
      refine I.iconst dJ0_isLatin1_aae02_13 ?_
      refine J.goto 18 dJ0_isLatin1_aae02_14 (by decide) ?_
      exact J.zret rfl rfl dJ0_isLatin1_aae02_18 ⟨rfl, rfl⟩
set_option maxHeartbeats 1000000 in
theorem t_length {Γ : jE} (hl : Γ.1.stackTraces = false) {sh : List (Nat × Nat)} {t : Nat → Nat → Option Nat} {s : Nat → Int → Int} {q v n : Nat} {T : Int → Int} {d : Nat} (hI : STI sh t s q T n v) (hd : 1 ≤ d) : Con Γ (d, 0, 0) mJ0_length_8abf5 [.ref q] (jmx sh t s) (fun w M' => w = some (.int (iI (n : Int))) ∧ M' = jmx sh t s) X0 := by
  obtain ⟨i1, i2, i3, i4, i5, i6⟩ := id hI
  refine Con.ofJ (by decide +kernel) (by simp [Value.category]) (Nat.le_of_ble_eq_true rfl) ?_ hl
  refine J.aload_n 0 dJ0_length_8abf5_0 rfl rfl ?_
  refine Y.gR 0 dJ0_length_8abf5_1 fJ0_9 i1 (by decide) rfl i2 ?_
  refine Y.alen dJ0_length_8abf5_4 i3 (by decide) ?_
  refine J.aload_n 0 dJ0_length_8abf5_5 rfl rfl ?_
  refine J.callV (b' := (d - 1, 0, 0)) (mi' := mJ0_coder_7d493) [] dJ0_length_8abf5_6 lJ0_335 eJ0_coder_7d493 i1 rfl ⟨by show d - 1 + 1 ≤ d; omega, Nat.zero_le _, Nat.zero_le _⟩ (t_coder hl hI) (fun _ _ h => absurd h id) (Nat.le_of_ble_eq_true rfl) ?_
  rintro w M' ⟨rfl, rfl⟩
  refine J.ishr dJ0_length_8abf5_9 ?_
  rw [shr0]
  skip
  exact J.iret rfl dJ0_length_8abf5_10 ⟨rfl, rfl⟩
set_option maxHeartbeats 1000000 in
theorem t_latCharAt {Γ : jE} (hl : Γ.1.stackTraces = false) {sh : List (Nat × Nat)} {t : Nat → Nat → Option Nat} {s : Nat → Int → Int} {v n : Nat} {d : Nat} (hv : sh[v]? = some (101, n)) (hn : n ≤ 3000) {i : Int} (hi : 0 ≤ i ∧ i < n) (hc : 0 ≤ s v i ∧ s v i < 128) (hd : 2 ≤ d) : Con Γ (d, 0, 0) mJ1_charAt_3b067 [.ref v, .int (iI i)] (jmx sh t s) (fun w M' => w = some (.int (iI (s v i))) ∧ M' = jmx sh t s) X0 := by
  refine Con.ofJ (by decide +kernel) (by simp [Value.category]) (Nat.le_of_ble_eq_true rfl) ?_ hl
  refine J.iload_n 1 dJ1_charAt_3b067_0 rfl rfl ?_
  refine J.aload_n 0 dJ1_charAt_3b067_1 rfl rfl ?_
  refine Y.alen dJ1_charAt_3b067_2 hv (by decide) ?_
  refine J.kStat (d' := d - 1) (mi' := mJ0_checkIndex_df160) [.int (iI i), .int (iI (n : Int))] dJ1_charAt_3b067_3 lJ1_9 eJ0_checkIndex_df160 (by show d - 1 + 1 ≤ d; omega) (fun v h => by simp only [List.mem_cons, List.not_mem_nil, or_false] at h; rcases h with rfl | rfl; exact ⟨_, rfl⟩; exact ⟨_, rfl⟩) (fun adK adV => k_check (by omega) (fun h => by have := (iI_lt (x := i) (y := 0) (by omega) (by omega)).mp h; omega) ((iI_lt (x := i) (y := (n : Int)) (by omega) (by omega)).mpr hi.2)) (Nat.le_of_ble_eq_true rfl) ?_
  refine J.aload_n 0 dJ1_charAt_3b067_6 rfl rfl ?_
  refine J.iload_n 1 dJ1_charAt_3b067_7 rfl rfl ?_
  refine Y.bald dJ1_charAt_3b067_8 hv (by omega) (by omega) ?_
  refine I.sipush dJ1_charAt_3b067_9 (by decide) ?_
  refine J.iand dJ1_charAt_3b067_12 ?_
  refine J.i2c dJ1_charAt_3b067_13 ?_
  rw [show (iI 255) = 255 from rfl, (lo_ch (x := s v i) ⟨hc.1, by omega⟩).2]
  exact J.ret (v := some (.int (iI (s v i)))) (Or.inr (Or.inl ⟨.char, iI (s v i), rfl, rfl, (lo_ch (x := s v i) ⟨hc.1, by omega⟩).1, dJ1_charAt_3b067_14⟩)) ⟨rfl, rfl⟩ rfl
set_option maxHeartbeats 1000000 in
theorem t_charAt {Γ : jE} (hl : Γ.1.stackTraces = false) {sh : List (Nat × Nat)} {t : Nat → Nat → Option Nat} {s : Nat → Int → Int} {q v n : Nat} {T : Int → Int} {d : Nat} (hI : STI sh t s q T n v) {i : Int} (hi : 0 ≤ i ∧ i < n) (hd : 3 ≤ d) : Con Γ (d, 0, 0) mJ0_charAt_5068e [.ref q, .int (iI i)] (jmx sh t s) (fun w M' => w = some (.int (iI (T i))) ∧ M' = jmx sh t s) X0 := by
  obtain ⟨i1, i2, i3, i4, i5, i6⟩ := id hI
  refine Con.ofJ (by decide +kernel) (by simp [Value.category]) (Nat.le_of_ble_eq_true rfl) ?_ hl
  refine J.aload_n 0 dJ0_charAt_5068e_0 rfl rfl ?_
  refine J.callV (b' := (d - 1, 0, 0)) (mi' := mJ0_isLatin1_aae02) [] dJ0_charAt_5068e_1 lJ0_492 eJ0_isLatin1_aae02 i1 rfl ⟨by show d - 1 + 1 ≤ d; omega, Nat.zero_le _, Nat.zero_le _⟩ (t_isLatin1 hl hI) (fun _ _ h => absurd h id) (Nat.le_of_ble_eq_true rfl) ?_
  rintro w M' ⟨rfl, rfl⟩
  refine I.if_eq 16 dJ0_charAt_5068e_4 (by decide) (by omega) (fun h4 => ?_) (fun h4 => ?_)
  · exact absurd h4 (by omega)
  · skip
    refine J.aload_n 0 dJ0_charAt_5068e_7 rfl rfl ?_
    refine Y.gR 0 dJ0_charAt_5068e_8 fJ0_9 i1 (by decide) rfl i2 ?_
    refine J.iload_n 1 dJ0_charAt_5068e_11 rfl rfl ?_
    have hc := i6 i hi.1 hi.2
    refine J.callSO (b' := (d - 1, 0, 0)) (mi' := mJ1_charAt_3b067) [.ref v, .int (iI i)] dJ0_charAt_5068e_12 lJ0_495 eJ1_charAt_3b067 ⟨by show d - 1 + 1 ≤ d; omega, Nat.zero_le _, Nat.zero_le _⟩ (t_latCharAt hl i3 i5 hi (by omega) (by omega)) (fun _ _ h => absurd h id) (Nat.le_of_ble_eq_true rfl) ?_
    rintro w M' ⟨rfl, rfl⟩
    rw [hc.1]
    exact J.ret (v := some (.int (iI (T i)))) (Or.inr (Or.inl ⟨.char, iI (T i), rfl, rfl, (lo_ch (x := T i) ⟨hc.2.1, by omega⟩).1, dJ0_charAt_5068e_15⟩)) ⟨rfl, rfl⟩ rfl
