theorem gJ0_9 : Cond.fieldLink RJ0 9 "java/lang/String" "value" "[B" ∈ jG := jG_mem 1338 (by decide +kernel) rfl
theorem gJ0_15 : Cond.fieldLink RJ0 15 "java/lang/String" "coder" "B" ∈ jG := jG_mem 1339 (by decide +kernel) rfl
/-! the Strings' methods: nothing is written -/
def kA (sz : Nat) : Nat → Prop := fun q => sz ≤ q
def kB (adK adV : Nat → Nat) (sz : Nat) (U : State) : Prop := U.heap.size = sz ∧ va_Z "java/lang/String" "COMPACT_STRINGS" "Z" (.int 1) (kA sz) U U.heap ∧ va_Zq "jdk/internal/util/Preconditions" "SIOOBE_FORMATTER" "Ljava/util/function/BiFunction;" (kA sz) U U.heap ∧ vk_S 6 jLen jByt adK adV (kA sz) U U.heap
def kQ (r : Option Int32) (sz : Nat) : Array Value → State → Outcome → State → Prop := fun _ st oc t => oc = .returned (r.map .int) ∧ va_F (kA sz) st t
def kCon (l : Launch) (d : Nat) (mi : jMI) (av : List Value) (adK adV : Nat → Nat) (r : Option Int32) : Prop := ∀ sz, Met l mi.1 (jws mi) (jrm (d, 0, 0)) (va_Pc av (kB adK adV sz)) (kQ r sz) 0 0 (kA sz)
def kC (d : Nat) (mi : jMI) (p : Program) (R : Room) (s : State) (m : MethodId) (args : Array Value) (c : Code) (adK adV : Nat → Nat) : Prop :=
  p.tables.exec = Jvm.exec ∧ c.code = mi.2.1 ∧ c.maxLocals = mi.2.2.1 ∧ s.vm.findClass mi.1.cls = some m.cls ∧ (∀ w ∈ jG, w.before args s = true) ∧ d + 16 ≤ R.frames ∧ 40 * d + 400 ≤ R.locals ∧ kB adK adV s.heap.size s
section JK
variable {p : Program} {l : Launch} {e : Env} {R : Room} {s : State} {m : MethodId} {args : Array Value} {below : List Frame} {meth : Method} {c : Code} {H : Heap} {locs : List Loc} {cells slots : Nat} {Q : State → Prop}
variable {pc d d' idx : Nat} {ls : Array Slot} {rest : List Value} {adK adV : Nat → Nat} {mi mi' : jMI}
theorem kB_call (h : kB adK adV s.heap.size s) (hS : va_S (kA s.heap.size) s.heap H locs) {U : State} (hU : U.heap = H) (hv : s.vm.Alike U.vm) : kB adK adV H.size U := by
  subst hU
  have hn : ∀ q, kA U.heap.size q → kA s.heap.size q := fun q h => Nat.le_trans hS.1 h
  exact ⟨rfl, ((h.2.1.kept hS.2.1).narrow hn).moved hv, ((h.2.2.1.kept hS.2.1).narrow hn).moved hv, ((h.2.2.2.kept hS.2.1).narrow hn).moved hv⟩
theorem kB_blind {av : List Value} {sz : Nat} : FrameBlind (va_Pc av (kB adK adV sz)) := by
  intro a U g mk h
  obtain ⟨h0, h1, h2, h3, h4⟩ := h
  exact ⟨h0, h1, h2.moved (u := U) (U := U.calling g mk a) (Vm.Alike.refl U.vm), h3.moved (u := U) (U := U.calling g mk a) (Vm.Alike.refl U.vm), h4.moved (u := U) (U := U.calling g mk a) (Vm.Alike.refl U.vm)⟩
theorem kRun {r : Option Int32} {st0 : List Value} {a : Array Value} (hr : va_Run p l e R s m args below meth c H locs cells slots 0 0 (F0 m pc ls st0) rest (kQ r H.size a) (kA H.size)) {A0 : Nat → Prop} (hS : va_S A0 s.heap H locs) (hA : ∀ q, s.heap.size ≤ q → A0 q)
    (kk : ∀ (H1 : Heap) (locs1 : List Loc), H.size ≤ H1.size → (∀ q : Nat, q < H.size → H1[q]? = H[q]?) → va_S A0 s.heap H1 locs1 → W p l e R s m args below meth c H1 locs1 cells slots Q (F0 m (pc + 3) ls ((r.map Value.int).toList ++ rest))) : W p l e R s m args below meth c H locs cells slots Q (F0 m pc ls st0) := by
  intro T hT X
  obtain ⟨v, st₀, t, T', L, h0, X', hL, e1, e2, ⟨hv, hz, hk⟩, st⟩ := hr T hT X
  cases hv
  rw [h0] at hz hk
  have hk' : ∀ q : Nat, q < H.size → T'.heap[q]? = H[q]? := fun q h => by rw [e1]; exact hk q h (by unfold kA; omega)
  obtain ⟨t2, a1, b1⟩ := kk T'.heap (locs ++ L) (by rw [e1]; exact hz) hk'
    ⟨Nat.le_trans hS.1 (by rw [e1]; exact hz), fun q h1 h2 => by rw [hk' q (Nat.lt_of_lt_of_le h1 hS.1)]; exact hS.2.1 q h1 h2, fun q hq => by
      rcases List.mem_append.mp hq with h | h
      · exact hS.2.2 q h
      · exact hA _ (Nat.le_trans hS.1 (hL q h))⟩ T' rfl X'
  exact ⟨t2, st t2 a1, b1⟩
theorem kCallV (C : kC d mi p R s m args c adK adV) (hS : va_S (kA s.heap.size) s.heap H locs) (hls : ls.size = mi.2.2.1) (hcs : cells ≤ R.cells ∧ slots ≤ R.slots) {i : Nat} (hi : i < 6) (As : List Value) {r : Option Int32} (dd : decode mi.2.1 pc = .ok (.invokevirtual idx, 3)) (hl : Cond.methodLink mi.1.cls idx mi'.1 ∈ jG) (hs : jVE mi' As.length) (hcl : mi'.1.cls = "java/lang/String") (hb : d' + 1 ≤ d)
    (hc : kCon l d' mi' (.ref (adK i) :: As) adK adV r) (hcat : (rest.map fun v => v.category).sum ≤ 8)
    (kk : ∀ (H1 : Heap) (locs1 : List Loc), va_S (kA s.heap.size) s.heap H1 locs1 → W p l e R s m args below meth c H1 locs1 cells slots Q (F0 m (pc + 3) ls ((r.map Value.int).toList ++ rest))) : W p l e R s m args below meth c H locs cells slots Q (F0 m pc ls (As.reverse ++ .ref (adK i) :: rest)) := by
  obtain ⟨c1, c2, c3, c4, c5, c6, c7, c8⟩ := C
  have hM := hc H.size
  have hg : GoodIn jG (wsV mi.1.cls idx mi'.1.cls mi'.1 (jws mi')) := by
    intro w hw
    rcases List.mem_append.mp hw with h | h
    · simp only [List.mem_cons, List.not_mem_nil, or_false] at h
      rcases h with rfl | rfl | rfl | rfl
      · exact jgood hl
      · exact jgood hs.2.1
      · exact jgood hs.2.2
      · exact jgood hs.1.2.1
    · exact jws_good hs.1 w h
  have hrm := jroom (R := R) (b' := (d', 0, 0)) hb hs.1.2.2.2 c6 c7
  have hrv := vk_recv c8.2.2.2 hi hS
  exact kRun (va_runV (As := As) ⟨c1, c2, c3, c4, c5⟩ hM (cwV As.length c5 hg rfl rfl rfl ⟨rfl, hs.1.2.2.1⟩ hrm) ⟨kB_blind, by rw [hcl]; exact hrv, fun U hU hw => ⟨rfl, kB_call c8 hS hU hw.alike⟩⟩ rfl rfl hls rfl (lv_room hcat) dd ⟨by omega, by omega⟩) hS (fun q h => h) (fun H1 locs1 _ _ hS1 => kk H1 locs1 hS1)
theorem kCallS (C : kC d mi p R s m args c adK adV) (hS : va_S (kA s.heap.size) s.heap H locs) (hls : ls.size = mi.2.2.1) (hcs : cells ≤ R.cells ∧ slots ≤ R.slots) (As : List Value) {r : Option Int32} (dd : decode mi.2.1 pc = .ok (.invokestatic idx, 3)) (hl : Cond.methodLink mi.1.cls idx mi'.1 ∈ jG) (hs : jSE mi' As.length) (hb : d' + 1 ≤ d)
    (hc : kCon l d' mi' As adK adV r) (hcat : (rest.map fun v => v.category).sum ≤ 8)
    (kk : ∀ (H1 : Heap) (locs1 : List Loc), va_S (kA s.heap.size) s.heap H1 locs1 → W p l e R s m args below meth c H1 locs1 cells slots Q (F0 m (pc + 3) ls ((r.map Value.int).toList ++ rest))) : W p l e R s m args below meth c H locs cells slots Q (F0 m pc ls (As.reverse ++ rest)) := by
  obtain ⟨c1, c2, c3, c4, c5, c6, c7, c8⟩ := C
  have hM := hc H.size
  have hg : GoodIn jG (va_wsS mi.1.cls idx mi'.1 (jws mi')) := by
    intro w hw
    rcases List.mem_append.mp hw with h | h
    · simp only [List.mem_cons, List.not_mem_nil, or_false] at h
      rcases h with rfl | rfl | rfl
      · exact jgood hl
      · exact jgood hs.2
      · exact jgood hs.1.2.1
    · exact jws_good hs.1 w h
  have hrm := jroom (R := R) (b' := (d', 0, 0)) hb hs.1.2.2.2 c6 c7
  exact kRun (va_runS (As := As) ⟨c1, c2, c3, c4, c5⟩ hM (va_cwS As.length c5 hg rfl rfl rfl hs.1.2.2.1 hrm) ⟨kB_blind, fun U hU hw => ⟨rfl, kB_call c8 hS hU hw.alike⟩⟩ rfl rfl hls rfl (lv_room hcat) dd ⟨by omega, by omega⟩) hS (fun q h => h) (fun H1 locs1 _ _ hS1 => kk H1 locs1 hS1)
end JK
theorem kCon.of {l : Launch} {d : Nat} {mi : jMI} {av : List Value} {adK adV : Nat → Nat} {r : Option Int32} (hpl : plainName mi.1.cls = true) (hn : (lg_sl av).length ≤ mi.2.2.1)
    (k : ∀ (p : Program) (e : Env) (s : State) (m : MethodId) (args : Array Value) (below : List Frame) (meth : Method) (c : Code) (ls : Array Slot) (Q : State → Prop), kC d mi p (jrm (d, 0, 0)) s m args c adK adV → va_S (kA s.heap.size) s.heap s.heap [] → lv_has ls mi.2.2.1 (lv_args 0 av) →
      (∀ (H : Heap) (locs : List Loc) (ls : Array Slot) (pc : Nat), va_S (kA s.heap.size) s.heap H locs → (match r with | none => mi.2.2.2 = none ∧ decode mi.2.1 pc = .ok (.return_, 1) | some x => ∃ ty, mi.2.2.2 = some ty ∧ narrow ty (.int x) = .int x ∧ decode mi.2.1 pc = .ok (.ireturn, 1)) → W p l e (jrm (d, 0, 0)) s m args below meth c H locs 0 0 Q (F0 m pc ls (r.map Value.int).toList)) →
      W p l e (jrm (d, 0, 0)) s m args below meth c s.heap [] 0 0 Q (F0 m 0 ls [])) : kCon l d mi av adK adV r := by
  intro sz
  refine Met.ofW (cc := mi.2.1) (maxL := mi.2.2.1) (ret := mi.2.2.2) hpl rfl ?_
  intro p e s m args below meth c s₁ B hml hv
  obtain ⟨rfl, hB⟩ := hv
  have hsz := hB.1
  subst hsz
  have hts := atoms_spec (ws := jws mi) B.pre
  have hl := lv_entry av (n := mi.2.2.1) hn
  rw [lg_entry_eq]
  generalize (lg_sl av ++ List.replicate (mi.2.2.1 - (lg_sl av).length) Slot.unset).toArray = ls at hl ⊢
  refine k p e s m _ below meth c ls _ ⟨B.exec, B.bytes, hml, findClass_of_methodNamed B.named, fun w hw => hts w (List.mem_cons_of_mem _ hw), Nat.le_refl _, Nat.le_refl _, hB⟩ va_S.rf hl ?_
  intro H locs ls pc hS hr
  cases r with
  | none => exact W.vret B.exec B.bytes (B.returns.trans hr.1) (fun t ht hW => ⟨rfl, hS.F ht⟩) hS.2.2 hr.2
  | some x =>
    obtain ⟨ty, h1, h2, h3⟩ := hr
    exact W.zret B.exec B.bytes (B.returns.trans h1) h2 (fun t ht hW => ⟨rfl, hS.F ht⟩) hS.2.2 h3
theorem k_coder {l : Launch} {d i : Nat} {adK adV : Nat → Nat} (hi : i < 6) : kCon l d mJ0_coder_7d493 [.ref (adK i)] adK adV (some 0) := by
  refine kCon.of (by decide) (Nat.le_of_ble_eq_true rfl) fun p e s m args below meth c ls Q C hS hl hret => ?_
  refine va_gets C.1 C.2.1 C.2.2.2.2.2.2.2.2.1 hS C.2.2.2.1 (C.2.2.2.2.1 _ sfJ0_38) (fun _ h => h) dJ0_coder_7d493_0 ?_
  refine lv_if_eq C.1 C.2.1 dJ0_coder_7d493_3 (tgt := 13) (by decide) (fun h => absurd h (by decide)) (fun _ => ?_)
  refine lv_aload_n C.1 C.2.1 dJ0_coder_7d493_6 rfl (lv_at hl 0 rfl) ?_
  refine vk_getf C.1 C.2.1 (C.2.2.2.2.2.2.2.2.2.2.1 i hi).2.1 hS C.2.2.2.1 (C.2.2.2.2.1 _ gJ0_15) (fun _ h => h) dJ0_coder_7d493_7 ?_
  refine lv_goto C.1 C.2.1 dJ0_coder_7d493_10 (tgt := 14) (by decide) ?_
  exact hret _ _ _ 14 hS ⟨.byte, rfl, by decide, dJ0_coder_7d493_14⟩
theorem k_isLatin1 {l : Launch} {d i : Nat} {adK adV : Nat → Nat} (hi : i < 6) : kCon l d mJ0_isLatin1_aae02 [.ref (adK i)] adK adV (some 1) := by
  refine kCon.of (by decide) (Nat.le_of_ble_eq_true rfl) fun p e s m args below meth c ls Q C hS hl hret => ?_
  refine va_gets C.1 C.2.1 C.2.2.2.2.2.2.2.2.1 hS C.2.2.2.1 (C.2.2.2.2.1 _ sfJ0_38) (fun _ h => h) dJ0_isLatin1_aae02_0 ?_
  refine lv_if_eq C.1 C.2.1 dJ0_isLatin1_aae02_3 (tgt := 17) (by decide) (fun h => absurd h (by decide)) (fun _ => ?_)
  refine lv_aload_n C.1 C.2.1 dJ0_isLatin1_aae02_6 rfl (lv_at hl 0 rfl) ?_
  refine vk_getf C.1 C.2.1 (C.2.2.2.2.2.2.2.2.2.2.1 i hi).2.1 hS C.2.2.2.1 (C.2.2.2.2.1 _ gJ0_15) (fun _ h => h) dJ0_isLatin1_aae02_7 ?_
  refine lv_if_ne C.1 C.2.1 dJ0_isLatin1_aae02_10 (tgt := 17) (by decide) (fun h => absurd rfl h) (fun _ => ?_)
  refine lv_iconst (v := 1) C.1 C.2.1 dJ0_isLatin1_aae02_13 (by decide) ?_
  refine lv_goto C.1 C.2.1 dJ0_isLatin1_aae02_14 (tgt := 18) (by decide) ?_
  exact hret _ _ _ 18 hS ⟨.boolean, rfl, by decide, dJ0_isLatin1_aae02_18⟩
theorem k_length {l : Launch} {d i : Nat} {adK adV : Nat → Nat} (hi : i < 6) (hd : 1 ≤ d) : kCon l d mJ0_length_8abf5 [.ref (adK i)] adK adV (some (Int32.ofNat (jLen.getD i 0) >>> ((0 : Int32) &&& 31))) := by
  refine kCon.of (by decide) (Nat.le_of_ble_eq_true rfl) fun p e s m args below meth c ls Q C hS hl hret => ?_
  refine lv_aload_n C.1 C.2.1 dJ0_length_8abf5_0 rfl (lv_at hl 0 rfl) ?_
  refine vk_getf C.1 C.2.1 (C.2.2.2.2.2.2.2.2.2.2.1 i hi).2.2.1 hS C.2.2.2.1 (C.2.2.2.2.1 _ gJ0_9) (fun _ h => h) dJ0_length_8abf5_1 ?_
  refine va_tlen C.1 C.2.1 (C.2.2.2.2.2.2.2.2.2.2.1 i hi).2.2.2 hS rfl dJ0_length_8abf5_4 ?_
  refine lv_aload_n C.1 C.2.1 dJ0_length_8abf5_5 rfl (lv_at hl 0 rfl) ?_
  refine kCallV (d' := d - 1) (mi' := mJ0_coder_7d493) C hS hl.1 ⟨Nat.zero_le _, Nat.zero_le _⟩ hi [] dJ0_length_8abf5_6 lJ0_335 eJ0_coder_7d493 rfl (by omega) (k_coder hi) (Nat.le_of_ble_eq_true rfl) (fun H1 locs1 hS => ?_)
  refine lv_ishr C.1 C.2.1 dJ0_length_8abf5_9 ?_
  exact hret _ _ _ 10 hS ⟨.int, rfl, rfl, dJ0_length_8abf5_10⟩
theorem k_preCheck {l : Launch} {d : Nat} {adK adV : Nat → Nat} {i n : Int32} {v : Value} (hv : v.category = 1) (h0 : ¬ i < 0) (h1 : i < n) : kCon l d mJ3_checkIndex_8e157 [.int i, .int n, v] adK adV (some i) := by
  refine kCon.of (by decide) (by show (lg_sl [Value.int i, .int n, v]).length ≤ 3; rw [jsl_len _ (by intro w hw; simp only [List.mem_cons, List.not_mem_nil, or_false] at hw; rcases hw with rfl | rfl | rfl; exact rfl; exact rfl; exact hv)]; exact Nat.le_refl _) fun p e s m args below meth c ls Q C hS hl hret => ?_
  have l0 : ls[0]? = some (.val (.int i)) := hl.2.2 (0, .int i) (jargs_mem [Value.int i, .int n, v] 0 0 _ (by intro w hw; simp only [List.mem_cons, List.not_mem_nil, or_false] at hw; rcases hw with rfl | rfl | rfl; exact rfl; exact rfl; exact hv) rfl)
  have l1 : ls[1]? = some (.val (.int n)) := hl.2.2 (1, .int n) (jargs_mem [Value.int i, .int n, v] 0 1 _ (by intro w hw; simp only [List.mem_cons, List.not_mem_nil, or_false] at hw; rcases hw with rfl | rfl | rfl; exact rfl; exact rfl; exact hv) rfl)
  refine lv_iload_n C.1 C.2.1 dJ3_checkIndex_8e157_0 rfl l0 ?_
  refine lv_if_lt C.1 C.2.1 dJ3_checkIndex_8e157_1 (tgt := 9) (by decide) (fun h => absurd h h0) (fun _ => ?_)
  refine lv_iload_n C.1 C.2.1 dJ3_checkIndex_8e157_4 rfl l0 ?_
  refine lv_iload_n C.1 C.2.1 dJ3_checkIndex_8e157_5 rfl l1 ?_
  refine lv_icmp_lt C.1 C.2.1 dJ3_checkIndex_8e157_6 (tgt := 16) (by decide) (fun _ => ?_) (fun h => absurd h1 h)
  refine lv_iload_n C.1 C.2.1 dJ3_checkIndex_8e157_16 rfl l0 ?_
  exact hret _ _ _ 17 hS ⟨.int, rfl, rfl, dJ3_checkIndex_8e157_17⟩
theorem k_check {l : Launch} {d : Nat} {adK adV : Nat → Nat} {i n : Int32} (hd : 1 ≤ d) (h0 : ¬ i < 0) (h1 : i < n) : kCon l d mJ0_checkIndex_df160 [.int i, .int n] adK adV none := by
  refine kCon.of (by decide) (Nat.le_of_ble_eq_true rfl) fun p e s m args below meth c ls Q C hS hl hret => ?_
  refine lv_iload_n C.1 C.2.1 dJ0_checkIndex_df160_0 rfl (lv_at hl 0 rfl) ?_
  refine lv_iload_n C.1 C.2.1 dJ0_checkIndex_df160_1 rfl (lv_at hl 1 rfl) ?_
  have hz : ∃ v : Value, v.category = 1 ∧ va_Z "jdk/internal/util/Preconditions" "SIOOBE_FORMATTER" "Ljava/util/function/BiFunction;" v (kA s.heap.size) s s.heap := by
    rcases C.2.2.2.2.2.2.2.2.2.1 with h | ⟨t, h⟩
    · exact ⟨.null, rfl, h⟩
    · exact ⟨.ref t, rfl, h⟩
  obtain ⟨v, hv, hz⟩ := hz
  refine va_gets C.1 C.2.1 hz hS C.2.2.2.1 (C.2.2.2.2.1 _ sfJ0_1053) (fun _ h => h) dJ0_checkIndex_df160_2 ?_
  refine kCallS (d' := d - 1) (mi' := mJ3_checkIndex_8e157) C hS hl.1 ⟨Nat.zero_le _, Nat.zero_le _⟩ [.int i, .int n, v] dJ0_checkIndex_df160_5 lJ0_1059 eJ3_checkIndex_8e157 (by omega) (k_preCheck hv h0 h1) (Nat.le_of_ble_eq_true rfl) (fun H1 locs1 hS => ?_)
  refine lv_pop C.1 C.2.1 dJ0_checkIndex_df160_8 rfl ?_
  exact hret _ _ _ 9 hS ⟨rfl, dJ0_checkIndex_df160_9⟩
def kCh (i : Nat) (k : Int32) : Int32 := ((((jByt.getD i []).getD k.toNatClampNeg 0) &&& 255).toUInt32 % 65536).toInt32
theorem k_latCharAt {l : Launch} {d i : Nat} {k : Int32} {adK adV : Nat → Nat} (hi : i < 6) (hd : 2 ≤ d) (h0 : ¬ k < 0) (h1 : k < Int32.ofNat (jLen.getD i 0)) (h2 : vp_in k (jLen.getD i 0)) (hn : narrow .char (.int (kCh i k)) = .int (kCh i k)) : kCon l d mJ1_charAt_3b067 [.ref (adV i), .int k] adK adV (some (kCh i k)) := by
  refine kCon.of (by decide) (Nat.le_of_ble_eq_true rfl) fun p e s m args below meth c ls Q C hS hl hret => ?_
  refine lv_iload_n C.1 C.2.1 dJ1_charAt_3b067_0 rfl (lv_at hl 1 rfl) ?_
  refine lv_aload_n C.1 C.2.1 dJ1_charAt_3b067_1 rfl (lv_at hl 0 rfl) ?_
  refine va_tlen C.1 C.2.1 (C.2.2.2.2.2.2.2.2.2.2.1 i hi).2.2.2 hS rfl dJ1_charAt_3b067_2 ?_
  refine kCallS (d' := d - 1) (mi' := mJ0_checkIndex_df160) C hS hl.1 ⟨Nat.zero_le _, Nat.zero_le _⟩ [.int k, .int _] dJ1_charAt_3b067_3 lJ1_9 eJ0_checkIndex_df160 (by omega) (k_check (by omega) h0 h1) (Nat.le_of_ble_eq_true rfl) (fun H1 locs1 hS => ?_)
  refine lv_aload_n C.1 C.2.1 dJ1_charAt_3b067_6 rfl (lv_at hl 0 rfl) ?_
  refine lv_iload_n C.1 C.2.1 dJ1_charAt_3b067_7 rfl (lv_at hl 1 rfl) ?_
  refine va_tb C.1 C.2.1 (C.2.2.2.2.2.2.2.2.2.2.1 i hi).2.2.2 hS h2 rfl dJ1_charAt_3b067_8 ?_
  refine lv_sipush (v := 255) C.1 C.2.1 dJ1_charAt_3b067_9 (by decide) ?_
  refine lv_iand C.1 C.2.1 dJ1_charAt_3b067_12 ?_
  refine lv_i2c (v := kCh i k) C.1 C.2.1 dJ1_charAt_3b067_13 rfl ?_
  exact hret _ _ _ 14 hS ⟨.char, rfl, hn, dJ1_charAt_3b067_14⟩
theorem k_charAt {l : Launch} {d i : Nat} {k : Int32} {adK adV : Nat → Nat} (hi : i < 6) (hd : 3 ≤ d) (h0 : ¬ k < 0) (h1 : k < Int32.ofNat (jLen.getD i 0)) (h2 : vp_in k (jLen.getD i 0)) (hn : narrow .char (.int (kCh i k)) = .int (kCh i k)) : kCon l d mJ0_charAt_5068e [.ref (adK i), .int k] adK adV (some (kCh i k)) := by
  refine kCon.of (by decide) (Nat.le_of_ble_eq_true rfl) fun p e s m args below meth c ls Q C hS hl hret => ?_
  refine lv_aload_n C.1 C.2.1 dJ0_charAt_5068e_0 rfl (lv_at hl 0 rfl) ?_
  refine kCallV (d' := d - 1) (mi' := mJ0_isLatin1_aae02) C hS hl.1 ⟨Nat.zero_le _, Nat.zero_le _⟩ hi [] dJ0_charAt_5068e_1 lJ0_492 eJ0_isLatin1_aae02 rfl (by omega) (k_isLatin1 hi) (Nat.le_of_ble_eq_true rfl) (fun H1 locs1 hS => ?_)
  refine lv_if_eq C.1 C.2.1 dJ0_charAt_5068e_4 (tgt := 16) (by decide) (fun h => absurd h (by decide)) (fun _ => ?_)
  refine lv_aload_n C.1 C.2.1 dJ0_charAt_5068e_7 rfl (lv_at hl 0 rfl) ?_
  refine vk_getf C.1 C.2.1 (C.2.2.2.2.2.2.2.2.2.2.1 i hi).2.2.1 hS C.2.2.2.1 (C.2.2.2.2.1 _ gJ0_9) (fun _ h => h) dJ0_charAt_5068e_8 ?_
  refine lv_iload_n C.1 C.2.1 dJ0_charAt_5068e_11 rfl (lv_at hl 1 rfl) ?_
  refine kCallS (d' := d - 1) (mi' := mJ1_charAt_3b067) C hS hl.1 ⟨Nat.zero_le _, Nat.zero_le _⟩ [.ref _, .int k] dJ0_charAt_5068e_12 lJ0_495 eJ1_charAt_3b067 (by omega) (k_latCharAt hi (by omega) h0 h1 h2 hn) (Nat.le_of_ble_eq_true rfl) (fun H1 locs1 hS => ?_)
  exact hret _ _ _ 15 hS ⟨.char, rfl, hn, dJ0_charAt_5068e_15⟩
