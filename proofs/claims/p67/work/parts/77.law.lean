abbrev mL_law : jMI := (yL_law, cL_law, 9, some .boolean)
section JW
variable {Γ : jE} {b : Nat × Nat × Nat} {mi : jMI} {hh : List (Nat × Nat × Nat × Nat)} {pc : Nat} {L : List (Option Value)} {S : List Value} {M : jM} {P : Option Value → jM → Prop} {X : String → jM → Prop}
/-- the judgement in a method with a table of its own -/
def JH (Γ : jE) (b : Nat × Nat × Nat) (mi : jMI) (hh : List (Nat × Nat × Nat × Nat)) (pc : Nat) (L : List (Option Value)) (S : List Value) (M : jM) (P : Option Value → jM → Prop) : Prop :=
  ∀ (p : Program) (e : Env) (R : Room) (s : State) (m : MethodId) (args : Array Value) (below : List Frame) (meth : Method) (c : Code) (A : Nat → Prop) (n0 : Nat) (ρ0 : Nat → Nat) (Q : State → Prop),
    c.exceptionTable.toList = tableOf hh → jC Γ b.1 mi p R s m args meth c A ρ0 → jF Γ mi p e R s m args below meth c A n0 ρ0 Q P X0 →
    ∀ (ρ : Nat → Nat) (κ : Nat → ClassId) (ls : Array Slot) (H : Heap) (locs : List Loc) (cells slots : Nat),
      jW Γ s A n0 ρ0 M ρ κ H locs → jL ρ M.1.length mi.2.2.1 L ls → (∀ v ∈ S, jok M.1.length v) → cells + b.2.1 ≤ R.cells → slots + b.2.2 ≤ R.slots →
      W p Γ.1 e R s m args below meth c H locs cells slots Q (F0 m pc ls (S.map (jre ρ)))
theorem JH.of (k : J Γ b mi pc L S M P X0) : JH Γ b mi hh pc L S M P := fun p e R s m args below meth c A n0 ρ0 Q _ C F => k p e R s m args below meth c A n0 ρ0 Q C F
theorem JH.iconst {n : Int} (v : Int32) (d : decode mi.2.1 pc = .ok (.iconst n, 1)) (hv : Int32.ofInt n = v) (k : JH Γ b mi hh (pc + 1) L (.int v :: S) M P) : JH Γ b mi hh pc L S M P := by
  intro p e R s m args below meth c A n0 ρ0 Q hT C F ρ κ ls H locs cells slots hW hL hS h1 h2
  exact lv_iconst C.1 C.2.1 d hv (k p e R s m args below meth c A n0 ρ0 Q hT C F ρ κ ls H locs cells slots hW hL (jS_c (v := .int v) trivial hS) h1 h2)
theorem JH.iload {i : Nat} {x : Int32} (d : decode mi.2.1 pc = .ok (.iload i, 2)) (hl : L[i]? = some (some (.int x))) (k : JH Γ b mi hh (pc + 2) L (.int x :: S) M P) : JH Γ b mi hh pc L S M P := by
  intro p e R s m args below meth c A n0 ρ0 Q hT C F ρ κ ls H locs cells slots hW hL hS h1 h2
  exact lv_iload C.1 C.2.1 d (hL.2.2.2 i _ hl).1 (k p e R s m args below meth c A n0 ρ0 Q hT C F ρ κ ls H locs cells slots hW hL (jS_c (v := .int x) trivial hS) h1 h2)
theorem JH.iload_n {j : Fin 4} (i : Nat) {x : Int32} (d : decode mi.2.1 pc = .ok (.iload_n j, 1)) (hi : (j : Nat) = i) (hl : L[i]? = some (some (.int x))) (k : JH Γ b mi hh (pc + 1) L (.int x :: S) M P) : JH Γ b mi hh pc L S M P := by
  intro p e R s m args below meth c A n0 ρ0 Q hT C F ρ κ ls H locs cells slots hW hL hS h1 h2
  exact lv_iload_n C.1 C.2.1 d hi (hL.2.2.2 i _ hl).1 (k p e R s m args below meth c A n0 ρ0 Q hT C F ρ κ ls H locs cells slots hW hL (jS_c (v := .int x) trivial hS) h1 h2)
theorem JH.aload {i : Nat} {x : Nat} (d : decode mi.2.1 pc = .ok (.aload i, 2)) (hl : L[i]? = some (some (.ref x))) (k : JH Γ b mi hh (pc + 2) L (.ref x :: S) M P) : JH Γ b mi hh pc L S M P := by
  intro p e R s m args below meth c A n0 ρ0 Q hT C F ρ κ ls H locs cells slots hW hL hS h1 h2
  exact lv_aload C.1 C.2.1 d (hL.2.2.2 i _ hl).1 (k p e R s m args below meth c A n0 ρ0 Q hT C F ρ κ ls H locs cells slots hW hL (jS_c (v := .ref x) (hL.2.2.2 i _ hl).2 hS) h1 h2)
theorem JH.aload_n {j : Fin 4} (i : Nat) {x : Nat} (d : decode mi.2.1 pc = .ok (.aload_n j, 1)) (hi : (j : Nat) = i) (hl : L[i]? = some (some (.ref x))) (k : JH Γ b mi hh (pc + 1) L (.ref x :: S) M P) : JH Γ b mi hh pc L S M P := by
  intro p e R s m args below meth c A n0 ρ0 Q hT C F ρ κ ls H locs cells slots hW hL hS h1 h2
  exact lv_aload_n C.1 C.2.1 d hi (hL.2.2.2 i _ hl).1 (k p e R s m args below meth c A n0 ρ0 Q hT C F ρ κ ls H locs cells slots hW hL (jS_c (v := .ref x) (hL.2.2.2 i _ hl).2 hS) h1 h2)
/-- a handler that drops what it caught and answers k -/
def jHd (mi : jMI) (hp : Nat) (k : Int32) : Prop := (∃ (j : Fin 4) (n : Int), (j : Nat) < mi.2.2.1 ∧ Int32.ofInt n = k ∧ decode mi.2.1 hp = .ok (.astore_n j, 1) ∧ decode mi.2.1 (hp + 1) = .ok (.iconst n, 1) ∧ decode mi.2.1 (hp + 2) = .ok (.ireturn, 1)) ∨
  (∃ (i : Nat) (n : Int), i < mi.2.2.1 ∧ Int32.ofInt n = k ∧ decode mi.2.1 hp = .ok (.astore i, 2) ∧ decode mi.2.1 (hp + 2) = .ok (.iconst n, 1) ∧ decode mi.2.1 (hp + 3) = .ok (.ireturn, 1))
/-- an exception that leaves the call at pc is caught here, and k answered -/
def jCatch (mi : jMI) (hh : List (Nat × Nat × Nat × Nat)) (pc : Nat) (E : String) (k : Int32) : Prop :=
  ∃ (pre : List ExceptionTableEntry) (x : ExceptionTableEntry) (suf : List ExceptionTableEntry), tableOf hh = pre ++ x :: suf ∧ (∀ z ∈ pre, z.catchType ≠ 0 ∧ Cond.classLink mi.1.cls z.catchType "java/lang/IndexOutOfBoundsException" ∈ jG ∧ E = "java/lang/IllegalStateException") ∧
    covers x pc = true ∧ x.catchType ≠ 0 ∧ Cond.classLink mi.1.cls x.catchType E ∈ jG ∧ Cond.castable E E ∈ lw_tbl ∧ jHd mi x.handlerPc k
theorem jHd_run {p : Program} {e : Env} {R : Room} {s : State} {m : MethodId} {args : Array Value} {below : List Frame} {meth : Method} {c : Code} {A : Nat → Prop} {n0 d hp q : Nat} {ρ0 ρ : Nat → Nat} {κ : Nat → ClassId} {Q : State → Prop} {H : Heap} {locs : List Loc} {cells slots : Nat} {ls : Array Slot} {k : Int32}
    (h : jHd mi hp k) (hr : mi.2.2.2 = some .int) (C : jC Γ d mi p R s m args meth c A ρ0) (F : jF Γ mi p e R s m args below meth c A n0 ρ0 Q P X) (hW : jW Γ s A n0 ρ0 M ρ κ H locs) (hL : jL ρ M.1.length mi.2.2.1 L ls) (h1 : cells ≤ R.cells) (h2 : slots ≤ R.slots) (hP : P (some (.int k)) M) :
    W p Γ.1 e R s m args below meth c H locs cells slots Q (F0 m hp ls [.ref q]) := by
  have end9 : ∀ (ls' : Array Slot) (pc' : Nat) (n : Int), Int32.ofInt n = k → decode mi.2.1 pc' = .ok (.iconst n, 1) → decode mi.2.1 (pc' + 1) = .ok (.ireturn, 1) → W p Γ.1 e R s m args below meth c H locs cells slots Q (F0 m pc' ls' []) := fun ls' pc' n hn d1 d2 =>
    lv_iconst C.1 C.2.1 d1 hn (F.1 M ρ κ ls' H locs cells slots (pc' + 1) (some (.int k)) hP hW (fun w hw => by cases hw; trivial) h1 h2 (Or.inr (Or.inl ⟨.int, k, hr, rfl, rfl, d2⟩)))
  rcases h with ⟨j, n, hj, hn, d0, d1, d2⟩ | ⟨i, n, hi, hn, d0, d1, d2⟩
  · exact lv_astore_n C.1 C.2.1 d0 rfl (jas_has hL) hj rfl (fun ls' _ => end9 ls' _ n hn d1 d2)
  · exact lv_astore C.1 C.2.1 d0 (jas_has hL) hi rfl (fun ls' _ => end9 ls' _ n hn d1 d2)
set_option maxHeartbeats 1000000 in
theorem JH.callVC {q idx : Nat} {b' : Nat × Nat × Nat} {mi' : jMI} (As : List Value) {P' : Option Value → jM → Prop} {X' : String → jM → Prop} (d : decode mi.2.1 pc = .ok (.invokevirtual idx, 3)) (hl : Cond.methodLink mi.1.cls idx mi'.1 ∈ jG) (hs : jVE mi' As.length) {ci n : Nat} (hq : M.1[q]? = some (ci, n)) (hqc : (vwCl[ci]?).map (fun z => z.1) = some mi'.1.cls) (hb : b'.1 + 1 ≤ b.1 ∧ b'.2.1 ≤ b.2.1 ∧ b'.2.2 ≤ b.2.2) (hc : Con Γ b' mi' (.ref q :: As) M P' X') (hr : mi.2.2.2 = some .int)
    (hX : ∀ E M', X' E M' → ∃ k, jCatch mi hh pc E k ∧ P (some (.int k)) M') (hcat : (S.map fun v => v.category).sum ≤ 8)
    (k : ∀ v M', P' v M' → J Γ (b.1, b.2.1 - b'.2.1, b.2.2 - b'.2.2) mi (pc + 3) L (v.toList ++ S) M' P X0) : JH Γ b mi hh pc L (As.reverse ++ .ref q :: S) M P := by
  intro p e R s m args below meth c A n0 ρ0 Q hT C F ρ κ ls H locs cells slots hW hL hS h1 h2
  have hS1 := jok_app hS
  have hok : ∀ v ∈ As, jok M.1.length v := fun v hv => hS1.1 v (List.mem_reverse.mpr hv)
  have hpre := jPre_call C hW
  have hokq : ∀ v ∈ Value.ref q :: As, jok M.1.length v := List.forall_mem_cons.mpr ⟨hS1.2 _ List.mem_cons_self, hok⟩
  have hS2 : ∀ v ∈ S, jok M.1.length v := jS_tl hS1.2
  rw [List.map_append, List.map_reverse]
  have hM := hc ρ κ H.size hokq
  have hrm := jroom (R := R) hb.1 hs.1.2.2.2 C.2.2.2.2.2.2.2.1 C.2.2.2.2.2.2.2.2.1
  have fx : CallFix p m c mi.2.1 mi.2.2.1 s args jG mi.1.cls := ⟨C.1, C.2.1, C.2.2.1, C.2.2.2.2.2.1, C.2.2.2.2.2.2.1⟩
  have hg : GoodIn jG (wsV mi.1.cls idx mi'.1.cls mi'.1 (jws mi')) := by
    intro w hw
    rcases List.mem_append.mp hw with h | h
    · simp only [List.mem_cons, List.not_mem_nil, or_false] at h
      rcases h with rfl | rfl | rfl | rfl
      · exact jgood hl
      · exact jgood hs.2.1
      · exact jgood hs.2.2
      · exact jgood hs.1.2.1
    · exact jws_good hs.1 w h
  obtain ⟨q', hq', hqn⟩ := Option.map_eq_some_iff.mp hqc
  have he := jw_at (ρ := ρ) (κ := κ) hq
  have hci : ci < 100 := Nat.lt_of_lt_of_le (List.getElem?_eq_some_iff.mp hq').1 (Nat.le_of_ble_eq_true rfl)
  rw [jcell_obj hci] at he
  have hrv := va_recv C.2.2.2.2.2.2.2.2.2.1 hW.1 hq' he
  rw [hqn] at hrv
  have hts := C.2.2.2.2.2.2.1
  have hN := C.2.2.2.2.2.2.2.2.2.2.2.2.2.2.1
  exact jcont C hW hL hS2 h1 h2 hb.2 (vx_runV (As := As.map (jre ρ)) fx hM (cwV As.length C.2.2.2.2.2.2.1 hg rfl rfl rfl ⟨rfl, hs.1.2.2.1⟩ hrm) ⟨jPre_blind, hrv, fun U hU hw => ⟨rfl, hpre U hU hw⟩⟩ rfl (List.length_map _) hL.2.1 rfl (lv_room (jcatS hcat)) d ⟨by omega, by omega⟩)
    (fun M' ρ' κ' H1 locs1 E q9 ce gX gW gL g1 g2 g3 => by
      obtain ⟨k9, ⟨pre, x, suf, t1, t2, t3, t4, t5, t6, t7⟩, hP9⟩ := hX E M' gX
      exact vx_catch C.2.2.2.2.2.1 pre x suf (hT.trans t1) (fun z hz => by
        obtain ⟨u1, u2, u3⟩ := t2 z hz
        exact Or.inr ⟨u1, _, hts _ u2, by rw [u3]; exact hN.2.2.2.1⟩) t3 t4 (hts _ t5) ((hN.2.1 _ _ t6).use rfl) g1 g2 g3
        (jHd_run t7 hr C F gW gL (by omega) (by omega) hP9))
    (fun v M' ρ' κ' H1 locs1 gP gW gL gok => k v M' gP p e R s m args below meth c A n0 ρ0 Q C F ρ' κ' ls H1 locs1 _ _ gW gL gok (by show _ + _ + (_ - _) ≤ _; omega) (by show _ + _ + (_ - _) ≤ _; omega))
def jwsW (mi : jMI) (hh : List (Nat × Nat × Nat × Nat)) : List Cond := Cond.codeWith mi.1 mi.2.1 mi.2.2.1 mi.2.2.2 hh :: jG
/-- the contract of such a method: it throws nothing -/
def ConW (Γ : jE) (b : Nat × Nat × Nat) (mi : jMI) (hh : List (Nat × Nat × Nat × Nat)) (av : List Value) (M : jM) (P : Option Value → jM → Prop) : Prop :=
  ∀ (ρ : Nat → Nat) (κ : Nat → ClassId) (sz : Nat), (∀ v ∈ av, jok M.1.length v) → vx_Met Γ.1 mi.1 (jwsW mi hh) (jrm b) (va_Pc (av.map (jre ρ)) (jPre Γ ρ κ M sz)) (jQ Γ ρ κ M sz P) (jXC Γ ρ κ M sz X0) b.2.1 b.2.2 (va_A (jw ρ κ M) sz)
set_option maxHeartbeats 1000000 in
theorem ConW.ofJ {av : List Value} (hpl : plainName mi.1.cls = true) (hc : ∀ w ∈ av, w.category = 1) (hn : av.length ≤ mi.2.2.1) (hret : mi.2.2.2 = some .int) (hnm : mi.1.name ≠ "<init>") (k : JH Γ b mi hh 0 (jent mi.2.2.1 av) [] M P) (hl : Γ.1.stackTraces = false) : ConW Γ b mi hh av M P := by
  intro ρ κ sz hok
  refine vx_ofWH (cc := mi.2.1) (maxL := mi.2.2.1) (ret := mi.2.2.2) (hh := hh) hpl rfl ?_
  intro p e s m args below meth c s₁ B hml hv
  obtain ⟨rfl, hsz, hI, hK, hD, hX, hnst, hstr⟩ := hv
  subst hsz
  have hl0 := lv_entry (av.map (jre ρ)) (n := mi.2.2.1) (by rw [jsl_len _ (by intro w hw; obtain ⟨x, hx, rfl⟩ := List.mem_map.mp hw; rw [jre_cat]; exact hc x hx), List.length_map]; exact hn)
  rw [lg_entry_eq]
  generalize (lg_sl (av.map (jre ρ)) ++ List.replicate (mi.2.2.1 - (lg_sl (av.map (jre ρ))).length) Slot.unset).toArray = ls at hl0 ⊢
  have hts := atoms_spec (ws := jwsW mi hh) B.pre
  have htab := vx_table (x := mi.1) B (hts _ List.mem_cons_self)
  refine k p e (jrm b) s m _ below meth c (va_A (jw ρ κ M) s.heap.size) M.1.length ρ _ htab ⟨B.exec, B.bytes, hml, B.returns, B.notSynchronized, findClass_of_methodNamed B.named, fun w hw => hts w (List.mem_cons_of_mem _ hw), Nat.le_refl _, Nat.le_refl _, hK, fun q h => Or.inr h, hl, hX, fun h => absurd h hnm, hnst, hstr⟩ ⟨?_, ?_, ?_⟩ ρ κ ls s.heap [] 0 0 ⟨hI.1, hD.self, va_S.rf, hI.2.1, hI.2.2, Nat.le_refl _, fun _ _ => rfl⟩ (jent_L hc hn hok hl0) (fun v hv => absurd hv List.not_mem_nil) (Nat.le_of_eq (Nat.zero_add _)) (Nat.le_of_eq (Nat.zero_add _))
  · intro M' ρ' κ' ls' H' locs' cells' slots' pc' v hP hW hvok hc1 hs1 hr
    refine vx_ret (W.widen (k := b.2.1) (n := b.2.2) hc1 hs1 ?_)
    have hq : ∀ (o : Option Value), o = v.map (jre ρ') → ∀ t : State, t.heap = H' → s.WarmedH t.vm → jQ Γ ρ κ M s.heap.size P (av.map (jre ρ)).toArray s (.returned o) t := fun o ho t htt hww => by
      obtain ⟨⟨q1, q2, q3, q4⟩, q5⟩ := jPost_of hW htt hww.alike
      exact ⟨⟨v, M', ρ', κ', by rw [ho], hP, hvok, q1, q2, q3, q4⟩, q5⟩
    have hf : ∀ q ∈ locs', va_A (jw ρ κ M) s.heap.size q.base := hW.2.2.1.2.2
    rcases hr with ⟨r1, rfl, r3⟩ | ⟨ty, x, r1, rfl, r2, r3⟩ | ⟨x, r1, rfl, r3⟩ | ⟨ty, w, r1, r0, rfl, r2, r3⟩
    · rw [hret] at r1; cases r1
    · exact W.zret B.exec B.bytes (B.returns.trans r1) r2 (hq (some (.int x)) rfl) hf r3
    · rw [hret] at r1; cases r1
    · rw [hret] at r1; cases r1; rcases r0 with ⟨_, h⟩ | ⟨_, h⟩ <;> cases h
  · intro M' ρ' κ' ls' H' locs' cells' slots' pc' st E q ce hX'
    exact absurd hX' id
  · intro M' ρ' κ' ls' H' locs' cells' slots' pc' st E text names ik is ic hX'
    exact absurd hX' id
def jSW (mi' : jMI) (hh : List (Nat × Nat × Nat × Nat)) (n : Nat) : Prop := Cond.codeWith mi'.1 mi'.2.1 mi'.2.2.1 mi'.2.2.2 hh ∈ jG ∧ Cond.initialized mi'.1.cls ∈ jG ∧ (mi'.1.cls ≠ "java/lang/invoke/MethodHandle" ∧ mi'.1.cls ≠ "java/lang/invoke/VarHandle" ∧ (parseMethodDescriptor mi'.1.desc).map (fun d => d.parameters.length) = some n) ∧ mi'.2.2.1 ≤ 21 ∧ Cond.static mi'.1 ∈ jG
set_option maxHeartbeats 1000000 in
theorem J.callSW {idx : Nat} {b' : Nat × Nat × Nat} {mi' : jMI} (As : List Value) {P' : Option Value → jM → Prop} (d : decode mi.2.1 pc = .ok (.invokestatic idx, 3)) (hl : Cond.methodLink mi.1.cls idx mi'.1 ∈ jG) (hs : jSW mi' hh As.length) (hb : b'.1 + 1 ≤ b.1 ∧ b'.2.1 ≤ b.2.1 ∧ b'.2.2 ≤ b.2.2) (hc : ConW Γ b' mi' hh As M P') (hcat : (S.map fun v => v.category).sum ≤ 8)
    (k : ∀ v M', P' v M' → J Γ (b.1, b.2.1 - b'.2.1, b.2.2 - b'.2.2) mi (pc + 3) L (v.toList ++ S) M' P X) : J Γ b mi pc L (As.reverse ++ S) M P X := by
  intro p e R s m args below meth c A n0 ρ0 Q C F ρ κ ls H locs cells slots hW hL hS h1 h2
  have hS1 := jok_app hS
  have hok : ∀ v ∈ As, jok M.1.length v := fun v hv => hS1.1 v (List.mem_reverse.mpr hv)
  have hpre := jPre_call C hW
  have hS2 : ∀ v ∈ S, jok M.1.length v := hS1.2
  rw [List.map_append, List.map_reverse]
  have hM := hc ρ κ H.size hok
  have hrm := jroom (R := R) hb.1 hs.2.2.2.1 C.2.2.2.2.2.2.2.1 C.2.2.2.2.2.2.2.2.1
  have fx : CallFix p m c mi.2.1 mi.2.2.1 s args jG mi.1.cls := ⟨C.1, C.2.1, C.2.2.1, C.2.2.2.2.2.1, C.2.2.2.2.2.2.1⟩
  have hg : GoodIn jG (va_wsS mi.1.cls idx mi'.1 (jwsW mi' hh)) := by
    intro w hw
    rcases List.mem_append.mp hw with h | h
    · simp only [List.mem_cons, List.not_mem_nil, or_false] at h
      rcases h with rfl | rfl | rfl
      · exact jgood hl
      · exact jgood hs.2.2.2.2
      · exact jgood hs.2.1
    · exact jgood ((List.mem_cons.mp h).elim (fun e => e ▸ hs.1) id)
  exact jcont C hW hL hS2 h1 h2 hb.2 (vx_runSX (As := As.map (jre ρ)) fx hM (vx_cwSW As.length C.2.2.2.2.2.2.1 hg rfl rfl rfl hs.2.2.1 hrm) ⟨jPre_blind, fun U hU hw => ⟨rfl, hpre U hU hw⟩⟩ rfl (List.length_map _) hL.2.1 rfl (lv_room (jcatS hcat)) d ⟨by omega, by omega⟩)
    (fun M' ρ' κ' H1 locs1 E q9 ce gX _ _ _ _ _ => absurd gX id) (fun v M' ρ' κ' H1 locs1 gP gW gL gok => k v M' gP p e R s m args below meth c A n0 ρ0 Q C F ρ' κ' ls H1 locs1 _ _ gW gL gok (by show _ + _ + (_ - _) ≤ _; omega) (by show _ + _ + (_ - _) ≤ _; omega))
theorem jL_set2 {ρ : Nat → Nat} {n nL i : Nat} {L : List (Option Value)} {ls ls' : Array Slot} {v : Value} (hL : jL ρ n nL L ls) (hc : jcat L i = true) (hnx : L[i + 1]? = some none) (hv : jok n v)
    (h : lv_has ls' nL ((i, jre ρ v) :: (jas ρ L).filter (fun q => !(q.1 == i) && (!(q.1 == i + 1) && !(q.1 + 1 == i && q.2.category == 2))))) : jL ρ n nL (L.set i (some v)) ls' := by
  refine ⟨h.2.1, h.1, by rw [List.length_set]; exact hL.2.2.1, fun k w hk => ?_⟩
  rw [List.getElem?_set] at hk
  by_cases hki : i = k
  · subst hki
    rw [if_pos rfl] at hk
    split at hk
    · cases hk
      exact ⟨h.2.2 _ List.mem_cons_self, hv⟩
    · cases hk
  · rw [if_neg hki] at hk
    refine ⟨h.2.2 (k, jre ρ w) (List.mem_cons_of_mem _ (List.mem_filter.mpr ⟨jas_mem hk, ?_⟩)), (hL.2.2.2 k w hk).2⟩
    have h1 : (k == i) = false := by simpa using fun e : k = i => hki e.symm
    have h3 : (k == i + 1) = false := by
      rw [beq_eq_false_iff_ne]
      intro e
      rw [e, hnx] at hk
      cases hk
    simp only [h1, h3, Bool.not_false, Bool.true_and, Bool.not_eq_true', Bool.and_eq_false_iff, beq_eq_false_iff_ne]
    by_cases h2 : k + 1 = i
    · right
      subst h2
      rw [jre_cat]
      have hc2 := hc
      simp only [jcat, hk] at hc2
      simpa using hc2
    · left; exact h2
theorem J.dstore {i : Nat} {x : UInt64} (d : decode mi.2.1 pc = .ok (.dstore i, 2)) (hn : i + 1 < mi.2.2.1) (hc : jcat L i = true) (hnx : L[i + 1]? = some none) (k : J Γ b mi (pc + 2) (L.set i (some (.double x))) S M P X) : J Γ b mi pc L (.double x :: S) M P X := by
  intro p e R s m args below meth c A n0 ρ0 Q C F ρ κ ls H locs cells slots hW hL hS h1 h2
  exact lv_dstore C.1 C.2.1 d (jas_has hL) hn rfl (fun ls' hl' => k p e R s m args below meth c A n0 ρ0 Q C F ρ κ ls' H locs cells slots hW (jL_set2 (v := .double x) hL hc hnx (jS_hd hS) hl') (jS_tl hS) h1 h2)
theorem I.sld {Ls j : Nat} {xs : Nat → Int32} {z : Int} (hsc : Γ.2.2 = some (Ls, xs)) (hz : z = (j : Int)) (hj : j < Ls) (hL : Ls ≤ 3072) (d : decode mi.2.1 pc = .ok (.iaload, 1)) (kk : J Γ b mi (pc + 1) L (.int (iI (xs j).toInt) :: S) M P X) : J Γ b mi pc L (.int (iI z) :: .ref 2000000 :: S) M P X := by
  subst hz
  refine J.sld hsc d (iI_in (by omega) (by omega)) ?_
  rw [iI_clamp (by omega), Int.toNat_natCast]
  rw [iI_of] at kk
  exact kk
theorem I.slen {Ls : Nat} {xs : Nat → Int32} (hsc : Γ.2.2 = some (Ls, xs)) (d : decode mi.2.1 pc = .ok (.arraylength, 1)) (kk : J Γ b mi (pc + 1) L (.int (iI (Ls : Int)) :: S) M P X) : J Γ b mi pc L (.ref 2000000 :: S) M P X := J.slen hsc d kk
theorem I.icmpS {x : Int32} {off : Int} (tgt : Nat) (d : decode mi.2.1 pc = .ok (.if_icmp .eq off, 3)) (ht : (pc : Int) + off = (tgt : Int)) (k : J Γ b mi tgt L S M P X) : J Γ b mi pc L (.int x :: .int x :: S) M P X := J.icmp_eq tgt d ht (fun _ => k) (fun h => absurd rfl h)
theorem I.if_eq0 {off : Int} (tgt : Nat) (d : decode mi.2.1 pc = .ok (.ifCond .eq off, 3)) (ht : (pc : Int) + off = (tgt : Int)) (k : J Γ b mi tgt L S M P X) : J Γ b mi pc L (.int (iI 0) :: S) M P X := J.if_eq tgt d ht (fun _ => k) (fun h => absurd rfl h)
theorem I.if_ne0 {off : Int} {tgt : Nat} (d : decode mi.2.1 pc = .ok (.ifCond .ne off, 3)) (ht : (pc : Int) + off = (tgt : Int)) (k : J Γ b mi (pc + 3) L S M P X) : J Γ b mi pc L (.int (iI 0) :: S) M P X := J.if_ne tgt d ht (fun h => absurd rfl h) (fun _ => k)
theorem I.if_ne1 {z : Int} (hz : z = 1 ∨ z = 2) {off : Int} (tgt : Nat) (d : decode mi.2.1 pc = .ok (.ifCond .ne off, 3)) (ht : (pc : Int) + off = (tgt : Int)) (k : J Γ b mi tgt L S M P X) : J Γ b mi pc L (.int (iI z) :: S) M P X := J.if_ne tgt d ht (fun _ => k) (fun h => by rcases hz with rfl | rfl <;> exact absurd h (by decide))
/-- what a method of the law answers: 0 and its answer in out, or the number of what was thrown -/
def LwQ (Q : Int → (Nat → Int → Int) → Prop) (X1 X2 : (Nat → Int → Int) → Prop) : Option Value → jM → Prop := fun v M' => ∃ s' ε' k, v = some (.int (iI k)) ∧ M' = jmem s' ε' ∧ ((k = 0 ∧ ∃ r, Q r s' ∧ ε'.1 142 0 = (iI r).toInt64) ∨ (k = 1 ∧ X1 s') ∨ (k = 2 ∧ X2 s'))
def LwD (Q : UInt64 → (Nat → Int → Int) → Prop) (X1 : (Nat → Int → Int) → Prop) : Option Value → jM → Prop := fun v M' => ∃ s' ε' k, v = some (.int (iI k)) ∧ M' = jmem s' ε' ∧ ((k = 0 ∧ ∃ r, Q r s' ∧ ε'.2 143 0 = r) ∨ (k = 1 ∧ X1 s'))
def LwV (Q X1 : (Nat → Int → Int) → Prop) : Option Value → jM → Prop := fun v M' => ∃ s' ε' k, v = some (.int (iI k)) ∧ M' = jmem s' ε' ∧ ((k = 0 ∧ Q s') ∨ (k = 1 ∧ X1 s'))
end JW
