/-! calls of inherited, private and static methods of other classes; the JDK's statics -/
section J9
variable {Γ : jE} {b : Nat × Nat × Nat} {mi : jMI} {pc : Nat} {L : List (Option Value)} {S : List Value} {M : jM} {P : Option Value → jM → Prop} {X : String → jM → Prop}
set_option maxHeartbeats 1000000 in
theorem J.callVP {q idx : Nat} {b' : Nat × Nat × Nat} {mi' : jMI} (As : List Value) {P' : Option Value → jM → Prop} {X' : String → jM → Prop} (d : decode mi.2.1 pc = .ok (.invokevirtual idx, 3)) (hl : Cond.methodLink mi.1.cls idx mi'.1 ∈ jG) {Cn : String} (hs : jME mi' As.length ∧ Cond.instanceMethod mi'.1 ∈ jG) (hsel : Cond.selects Cn mi'.1 mi'.1 ∈ jG) {ci n : Nat} (hq : M.1[q]? = some (ci, n)) (hqc : (vwCl[ci]?).map (fun z => z.1) = some Cn) (hb : b'.1 + 1 ≤ b.1 ∧ b'.2.1 ≤ b.2.1 ∧ b'.2.2 ≤ b.2.2) (hc : Con Γ b' mi' (.ref q :: As) M P' X') (hX : ∀ E M', X' E M' → X E M') (hcat : (S.map fun v => v.category).sum ≤ 8)
    (k : ∀ v M', P' v M' → J Γ (b.1, b.2.1 - b'.2.1, b.2.2 - b'.2.2) mi (pc + 3) L (v.toList ++ S) M' P X) : J Γ b mi pc L (As.reverse ++ .ref q :: S) M P X := by
  intro p e R s m args below meth c A n0 ρ0 Q C F ρ κ ls H locs cells slots hW hL hS h1 h2
  have hS1 := jok_app hS
  have hok : ∀ v ∈ As, jok M.1.length v := fun v hv => hS1.1 v (List.mem_reverse.mpr hv)
  have hpre := jPre_call C hW
  have hokq : ∀ v ∈ Value.ref q :: As, jok M.1.length v := List.forall_mem_cons.mpr ⟨hS1.2 _ List.mem_cons_self, hok⟩
  have hS2 : ∀ v ∈ S, jok M.1.length v := jS_tl hS1.2
  rw [List.map_append, List.map_reverse]
  have hM := hc ρ κ H.size hokq
  have hrm := jroom (R := R) hb.1 hs.1.2.2.2 C.2.2.2.2.2.2.2.1 C.2.2.2.2.2.2.2.2.1
  have fx : CallFix p m c mi.2.1 mi.2.2.1 s args jG mi.1.cls := ⟨C.1, C.2.1, C.2.2.1, C.2.2.2.2.2.1, C.2.2.2.2.2.2.1⟩
  have hts := C.2.2.2.2.2.2.1
  have hcb := callB_of (own := mi.1.cls) (index := idx) (R := R) As.length hts (jws_good hs.1) rfl rfl rfl (hts _ hs.1.2.1) (hts _ hl) hs.1.2.2.1 hrm
  obtain ⟨q', hq', hqn⟩ := Option.map_eq_some_iff.mp hqc
  have he := jw_at (ρ := ρ) (κ := κ) hq
  have hci : ci < 100 := Nat.lt_of_lt_of_le (List.getElem?_eq_some_iff.mp hq').1 (Nat.le_of_ble_eq_true rfl)
  rw [jcell_obj hci] at he
  have hrv := va_recv C.2.2.2.2.2.2.2.2.2.1 hW.1 hq' he
  rw [hqn] at hrv
  exact jcont C hW hL hS2 h1 h2 hb.2 (vx_runV (As := As.map (jre ρ)) fx hM ⟨hcb, hts _ hs.2, hts _ hsel⟩ ⟨jPre_blind, hrv, fun U hU hw => ⟨rfl, hpre U hU hw⟩⟩ rfl (List.length_map _) hL.2.1 rfl (lv_room (jcatS hcat)) d ⟨by omega, by omega⟩)
    (fun M' ρ' κ' H1 locs1 E q9 ce gX gW gL g1 g2 g3 => F.2.1 M' ρ' κ' ls H1 locs1 _ _ pc _ E q9 ce (hX E M' gX) gW (by omega) (by omega) g1 g2 g3) (fun v M' ρ' κ' H1 locs1 gP gW gL gok => k v M' gP p e R s m args below meth c A n0 ρ0 Q C F ρ' κ' ls H1 locs1 _ _ gW gL gok (by show _ + _ + (_ - _) ≤ _; omega) (by show _ + _ + (_ - _) ≤ _; omega))
set_option maxHeartbeats 1000000 in
theorem J.callSO {idx : Nat} {b' : Nat × Nat × Nat} {mi' : jMI} (As : List Value) {P' : Option Value → jM → Prop} {X' : String → jM → Prop} (d : decode mi.2.1 pc = .ok (.invokestatic idx, 3)) (hl : Cond.methodLink mi.1.cls idx mi'.1 ∈ jG) (hs : jSE mi' As.length) (hb : b'.1 + 1 ≤ b.1 ∧ b'.2.1 ≤ b.2.1 ∧ b'.2.2 ≤ b.2.2) (hc : Con Γ b' mi' As M P' X') (hX : ∀ E M', X' E M' → X E M') (hcat : (S.map fun v => v.category).sum ≤ 8)
    (k : ∀ v M', P' v M' → J Γ (b.1, b.2.1 - b'.2.1, b.2.2 - b'.2.2) mi (pc + 3) L (v.toList ++ S) M' P X) : J Γ b mi pc L (As.reverse ++ S) M P X := by
  intro p e R s m args below meth c A n0 ρ0 Q C F ρ κ ls H locs cells slots hW hL hS h1 h2
  have hS1 := jok_app hS
  have hok : ∀ v ∈ As, jok M.1.length v := fun v hv => hS1.1 v (List.mem_reverse.mpr hv)
  have hpre := jPre_call C hW
  have hS2 : ∀ v ∈ S, jok M.1.length v := hS1.2
  rw [List.map_append, List.map_reverse]
  have hM := hc ρ κ H.size hok
  have hrm := jroom (R := R) hb.1 hs.1.2.2.2 C.2.2.2.2.2.2.2.1 C.2.2.2.2.2.2.2.2.1
  have fx : CallFix p m c mi.2.1 mi.2.2.1 s args jG mi.1.cls := ⟨C.1, C.2.1, C.2.2.1, C.2.2.2.2.2.1, C.2.2.2.2.2.2.1⟩
  have hts := C.2.2.2.2.2.2.1
  have hcb := callB_of (own := mi.1.cls) (index := idx) (R := R) As.length hts (jws_good hs.1) rfl rfl rfl (hts _ hs.1.2.1) (hts _ hl) hs.1.2.2.1 hrm
  exact jcont C hW hL hS2 h1 h2 hb.2 (vx_runS (As := As.map (jre ρ)) fx hM ⟨hcb, hts _ hs.2⟩ ⟨jPre_blind, fun U hU hw => ⟨rfl, hpre U hU hw⟩⟩ rfl (List.length_map _) hL.2.1 rfl (lv_room (jcatS hcat)) d ⟨by omega, by omega⟩)
    (fun M' ρ' κ' H1 locs1 E q9 ce gX gW gL g1 g2 g3 => F.2.1 M' ρ' κ' ls H1 locs1 _ _ pc _ E q9 ce (hX E M' gX) gW (by omega) (by omega) g1 g2 g3) (fun v M' ρ' κ' H1 locs1 gP gW gL gok => k v M' gP p e R s m args below meth c A n0 ρ0 Q C F ρ' κ' ls H1 locs1 _ _ gW gL gok (by show _ + _ + (_ - _) ≤ _; omega) (by show _ + _ + (_ - _) ≤ _; omega))
set_option maxHeartbeats 1000000 in
theorem J.callU {q idx : Nat} {b' : Nat × Nat × Nat} {mi' : jMI} (As : List Value) {P' : Option Value → jM → Prop} {X' : String → jM → Prop} (d : decode mi.2.1 pc = .ok (.invokespecial idx, 3)) (hl : Cond.methodLink mi.1.cls idx mi'.1 ∈ jG) (hs : jME mi' As.length ∧ Cond.instanceMethod mi'.1 ∈ jG) (hno : mi'.1.name ≠ "<init>") (hsu : Cond.superclass mi.1.cls mi'.1.cls ∈ jG) {C9 : String} {y9 : MethodName} (h9 : y9.cls = mi'.1.cls) (hni : Cond.selects C9 y9 y9 ∈ jG) {Cn : String} {ci n : Nat} (hq : M.1[q]? = some (ci, n)) (hqc : (vwCl[ci]?).map (fun z => z.1) = some Cn) (hb : b'.1 + 1 ≤ b.1 ∧ b'.2.1 ≤ b.2.1 ∧ b'.2.2 ≤ b.2.2) (hc : Con Γ b' mi' (.ref q :: As) M P' X') (hX0 : ∀ E M', ¬ X' E M') (hcat : (S.map fun v => v.category).sum ≤ 8)
    (k : ∀ v M', P' v M' → J Γ (b.1, b.2.1 - b'.2.1, b.2.2 - b'.2.2) mi (pc + 3) L (v.toList ++ S) M' P X) : J Γ b mi pc L (As.reverse ++ .ref q :: S) M P X := by
  intro p e R s m args below meth c A n0 ρ0 Q C F ρ κ ls H locs cells slots hW hL hS h1 h2
  have hS1 := jok_app hS
  have hok : ∀ v ∈ As, jok M.1.length v := fun v hv => hS1.1 v (List.mem_reverse.mpr hv)
  have hpre := jPre_call C hW
  have hokq : ∀ v ∈ Value.ref q :: As, jok M.1.length v := List.forall_mem_cons.mpr ⟨hS1.2 _ List.mem_cons_self, hok⟩
  have hS2 : ∀ v ∈ S, jok M.1.length v := jS_tl hS1.2
  rw [List.map_append, List.map_reverse]
  have hM := hc ρ κ H.size hokq
  have hrm := jroom (R := R) hb.1 hs.1.2.2.2 C.2.2.2.2.2.2.2.1 C.2.2.2.2.2.2.2.2.1
  have fx : CallFix p m c mi.2.1 mi.2.2.1 s args jG mi.1.cls := ⟨C.1, C.2.1, C.2.2.1, C.2.2.2.2.2.1, C.2.2.2.2.2.2.1⟩
  have hts := C.2.2.2.2.2.2.1
  have hM := vx_toMet hM (fun E st t h => by obtain ⟨⟨M', _, _, hx, _⟩, _⟩ := h; exact hX0 _ _ hx)
  have hcb := callB_of (own := mi.1.cls) (index := idx) (R := R) As.length hts (jws_good hs.1) rfl rfl rfl (hts _ hs.1.2.1) (hts _ hl) hs.1.2.2.1 hrm
  have hsm : (Cond.sameMethod mi'.1.cls mi'.1.cls mi'.1.name mi'.1.desc).before args s = true := by
    obtain ⟨mk, methM, hnamed, -⟩ := Cond.instanceMethod_spec (hts _ hs.2)
    have hfound : s.methodFound? mi'.1.cls mi'.1.name mi'.1.desc = some mk := State.methodFound?_of_named hnamed ⟨hs.1.2.2.1.1, hs.1.2.2.1.2.1⟩
    have hn2 : s.methodNamed? ⟨mi'.1.cls, mi'.1.name, mi'.1.desc⟩ = some mk := hnamed
    obtain ⟨c2, r2, m2, u1, u2, u3, u4, kP, hkP, hkPi⟩ := Cond.selects_spec (hts _ hni)
    have hfc : s.vm.findClass mi'.1.cls = some m2.cls := by rw [← h9]; exact findClass_of_methodNamed u3
    simp [Cond.before, Cond.holds, Cond.value, hfound, hn2, hfc, hkP, hkPi]
  have hcs : va_CS R s args mi.1.cls idx mi'.1 mi'.2.1 mi'.2.2.1 mi'.2.2.2 (jws mi') (jrm b') b'.2.1 b'.2.2 As.length := ⟨⟨hcb.1, hcb.2.1, hcb.2.2.1, hcb.2.2.2.1, hcb.2.2.2.2.1, hcb.2.2.2.2.2.1⟩, hts _ hl, hsm, hts _ hsu, hts _ hs.2, hts _ hs.1.2.1, hcb.2.2.2.2.2.2.1, hno, hcb.2.2.2.2.2.2.2.2.2.1⟩
  obtain ⟨q', hq', hqn⟩ := Option.map_eq_some_iff.mp hqc
  have he := jw_at (ρ := ρ) (κ := κ) hq
  have hci : ci < 100 := Nat.lt_of_lt_of_le (List.getElem?_eq_some_iff.mp hq').1 (Nat.le_of_ble_eq_true rfl)
  rw [jcell_obj hci] at he
  have hrv := va_recv C.2.2.2.2.2.2.2.2.2.1 hW.1 hq' he
  rw [hqn] at hrv
  exact jcont C hW hL hS2 h1 h2 hb.2 (vx_ofRun (va_runSU (As := As.map (jre ρ)) (hqn ▸ (C.2.2.2.2.2.2.2.2.2.1.1 ci q' hq').2) fx hM hcs ⟨jPre_blind, hrv, fun U hU hw => ⟨rfl, hpre U hU hw⟩⟩ rfl (List.length_map _) hL.2.1 rfl (lv_room (jcatS hcat)) d ⟨by omega, by omega⟩))
    (fun M' ρ' κ' H1 locs1 E q9 ce gX gW gL g1 g2 g3 => F.2.1 M' ρ' κ' ls H1 locs1 _ _ pc _ E q9 ce (absurd gX (hX0 E M')) gW (by omega) (by omega) g1 g2 g3) (fun v M' ρ' κ' H1 locs1 gP gW gL gok => k v M' gP p e R s m args below meth c A n0 ρ0 Q C F ρ' κ' ls H1 locs1 _ _ gW gL gok (by show _ + _ + (_ - _) ≤ _; omega) (by show _ + _ + (_ - _) ≤ _; omega))
set_option maxHeartbeats 1000000 in
theorem J.callVO {q idx : Nat} {b' : Nat × Nat × Nat} {mi' : jMI} {x : MethodName} (As : List Value) {P' : Option Value → jM → Prop} {X' : String → jM → Prop} (d : decode mi.2.1 pc = .ok (.invokevirtual idx, 3)) (hl : Cond.methodLink mi.1.cls idx x ∈ jG) {Cn : String} (hs : jME mi' As.length ∧ Cond.instanceMethod mi'.1 ∈ jG) (hsel : Cond.selects Cn x mi'.1 ∈ jG) (hxs : Cond.sameMethod x.cls x.cls x.name x.desc ∈ jG) {bx : ByteArray} {lx : Nat} {rx : Option FieldType} (hxc : Cond.code x bx lx rx ∈ jG) (hxi : Cond.instanceMethod x ∈ jG) (hxd : x.cls ≠ "java/lang/invoke/MethodHandle" ∧ x.cls ≠ "java/lang/invoke/VarHandle" ∧ (parseMethodDescriptor x.desc).map (fun d => d.parameters.length) = some As.length) {ci n : Nat} (hq : M.1[q]? = some (ci, n)) (hqc : (vwCl[ci]?).map (fun z => z.1) = some Cn) (hb : b'.1 + 1 ≤ b.1 ∧ b'.2.1 ≤ b.2.1 ∧ b'.2.2 ≤ b.2.2) (hc : Con Γ b' mi' (.ref q :: As) M P' X') (hX0 : ∀ E M', ¬ X' E M') (hcat : (S.map fun v => v.category).sum ≤ 8)
    (k : ∀ v M', P' v M' → J Γ (b.1, b.2.1 - b'.2.1, b.2.2 - b'.2.2) mi (pc + 3) L (v.toList ++ S) M' P X) : J Γ b mi pc L (As.reverse ++ .ref q :: S) M P X := by
  intro p e R s m args below meth c A n0 ρ0 Q C F ρ κ ls H locs cells slots hW hL hS h1 h2
  have hS1 := jok_app hS
  have hok : ∀ v ∈ As, jok M.1.length v := fun v hv => hS1.1 v (List.mem_reverse.mpr hv)
  have hpre := jPre_call C hW
  have hokq : ∀ v ∈ Value.ref q :: As, jok M.1.length v := List.forall_mem_cons.mpr ⟨hS1.2 _ List.mem_cons_self, hok⟩
  have hS2 : ∀ v ∈ S, jok M.1.length v := jS_tl hS1.2
  rw [List.map_append, List.map_reverse]
  have hM := hc ρ κ H.size hokq
  have hrm := jroom (R := R) hb.1 hs.1.2.2.2 C.2.2.2.2.2.2.2.1 C.2.2.2.2.2.2.2.2.1
  have fx : CallFix p m c mi.2.1 mi.2.2.1 s args jG mi.1.cls := ⟨C.1, C.2.1, C.2.2.1, C.2.2.2.2.2.1, C.2.2.2.2.2.2.1⟩
  have hts := C.2.2.2.2.2.2.1
  have hM := vx_toMet hM (fun E st t h => by obtain ⟨⟨M', _, _, hx, _⟩, _⟩ := h; exact hX0 _ _ hx)
  have hg : GoodIn jG (va_wsO mi.1.cls idx Cn x.cls x mi'.1 (jws mi')) := by
    intro w hw
    rcases List.mem_append.mp hw with h | h
    · simp only [List.mem_cons, List.not_mem_nil, or_false] at h
      rcases h with rfl | rfl | rfl | rfl | rfl | rfl
      · exact jgood hl
      · exact jgood hxs
      · exact jgood hxi
      · exact jgood hsel
      · exact jgood hs.2
      · exact jgood hs.1.2.1
    · exact jws_good hs.1 w h
  obtain ⟨q', hq', hqn⟩ := Option.map_eq_some_iff.mp hqc
  have he := jw_at (ρ := ρ) (κ := κ) hq
  have hci : ci < 100 := Nat.lt_of_lt_of_le (List.getElem?_eq_some_iff.mp hq').1 (Nat.le_of_ble_eq_true rfl)
  rw [jcell_obj hci] at he
  have hrv := va_recv C.2.2.2.2.2.2.2.2.2.1 hW.1 hq' he
  rw [hqn] at hrv
  exact jcont C hW hL hS2 h1 h2 hb.2 (vx_ofRun (va_runU (As := As.map (jre ρ)) fx hM (va_cwO As.length C.2.2.2.2.2.2.1 hg rfl rfl rfl hxc hxd hrm) ⟨jPre_blind, hrv, fun U hU hw => ⟨rfl, hpre U hU hw⟩⟩ rfl (List.length_map _) hL.2.1 rfl (lv_room (jcatS hcat)) d ⟨by omega, by omega⟩))
    (fun M' ρ' κ' H1 locs1 E q9 ce gX gW gL g1 g2 g3 => F.2.1 M' ρ' κ' ls H1 locs1 _ _ pc _ E q9 ce (absurd gX (hX0 E M')) gW (by omega) (by omega) g1 g2 g3) (fun v M' ρ' κ' H1 locs1 gP gW gL gok => k v M' gP p e R s m args below meth c A n0 ρ0 Q C F ρ' κ' ls H1 locs1 _ _ gW gL gok (by show _ + _ + (_ - _) ≤ _; omega) (by show _ + _ + (_ - _) ≤ _; omega))
set_option maxHeartbeats 1000000 in
theorem J.callVK {q idx : Nat} {b' : Nat × Nat × Nat} {mi' : jMI} (As : List Value) {P' : Option Value → jM → Prop} {X' : String → jM → Prop} (d : decode mi.2.1 pc = .ok (.invokevirtual idx, 3)) (hl : Cond.methodLink mi.1.cls idx mi'.1 ∈ jG) (hs : jVE mi' As.length) (hcl : mi'.1.cls = "java/lang/String") (hi : q < 6) (hb : b'.1 + 1 ≤ b.1 ∧ b'.2.1 ≤ b.2.1 ∧ b'.2.2 ≤ b.2.2) (hc : Con Γ b' mi' (.ref (1000000 + q) :: As) M P' X') (hX : ∀ E M', X' E M' → X E M') (hcat : (S.map fun v => v.category).sum ≤ 8)
    (k : ∀ v M', P' v M' → J Γ (b.1, b.2.1 - b'.2.1, b.2.2 - b'.2.2) mi (pc + 3) L (v.toList ++ S) M' P X) : J Γ b mi pc L (As.reverse ++ .ref (1000000 + q) :: S) M P X := by
  intro p e R s m args below meth c A n0 ρ0 Q C F ρ κ ls H locs cells slots hW hL hS h1 h2
  have hS1 := jok_app hS
  have hok : ∀ v ∈ As, jok M.1.length v := fun v hv => hS1.1 v (List.mem_reverse.mpr hv)
  have hpre := jPre_call C hW
  have hokq : ∀ v ∈ Value.ref (1000000 + q) :: As, jok M.1.length v := List.forall_mem_cons.mpr ⟨hS1.2 _ List.mem_cons_self, hok⟩
  have hS2 : ∀ v ∈ S, jok M.1.length v := jS_tl hS1.2
  rw [List.map_append, List.map_reverse]
  have hM := hc ρ κ H.size hokq
  have hrm := jroom (R := R) hb.1 hs.1.2.2.2 C.2.2.2.2.2.2.2.1 C.2.2.2.2.2.2.2.2.1
  have fx : CallFix p m c mi.2.1 mi.2.2.1 s args jG mi.1.cls := ⟨C.1, C.2.1, C.2.2.1, C.2.2.2.2.2.1, C.2.2.2.2.2.2.1⟩
  have hg : GoodIn jG (wsV mi.1.cls idx mi'.1.cls mi'.1 (jws mi')) := by
    intro w hw
    rcases List.mem_append.mp hw with h | h
    · simp only [List.mem_cons, List.not_mem_nil, or_false] at h
      rcases h with rfl | rfl | rfl | rfl
      · exact jgood hl
      · exact jgood hs.2.1
      · exact jgood hs.2.2
      · exact jgood hs.1.2.1
    · exact jws_good hs.1 w h
  obtain ⟨-, hz, hqq, adV, hv5⟩ := C.2.2.2.2.2.2.2.2.2.2.2.2.1.2.2.2
  have hρ : ρ (1000000 + q) = ρ0 (1000000 + q) := hW.2.2.2.2.2.2 _ (Or.inr (Nat.le_add_right _ _))
  have hrv := vk_recv hv5 hi hW.2.2.1
  have hrv2 : ∃ cell : Cell, H[ρ (1000000 + q)]? = some cell ∧ cell.vm.isStatics = false ∧ s.vm.findClass mi'.1.cls = some cell.cls := by
    rw [hρ, hcl]; exact hrv
  exact jcont C hW hL hS2 h1 h2 hb.2 (vx_runV (As := As.map (jre ρ)) fx hM (cwV As.length C.2.2.2.2.2.2.1 hg rfl rfl rfl ⟨rfl, hs.1.2.2.1⟩ hrm) ⟨jPre_blind, hrv2, fun U hU hw => ⟨rfl, hpre U hU hw⟩⟩ rfl (List.length_map _) hL.2.1 rfl (lv_room (jcatS hcat)) d ⟨by omega, by omega⟩)
    (fun M' ρ' κ' H1 locs1 E q9 ce gX gW gL g1 g2 g3 => F.2.1 M' ρ' κ' ls H1 locs1 _ _ pc _ E q9 ce (hX E M' gX) gW (by omega) (by omega) g1 g2 g3) (fun v M' ρ' κ' H1 locs1 gP gW gL gok => k v M' gP p e R s m args below meth c A n0 ρ0 Q C F ρ' κ' ls H1 locs1 _ _ gW gL gok (by show _ + _ + (_ - _) ≤ _; omega) (by show _ + _ + (_ - _) ≤ _; omega))
theorem J.getCS {idx : Nat} (d : decode mi.2.1 pc = .ok (.getstatic idx, 3)) (hl : Cond.fieldLink mi.1.cls idx "java/lang/String" "COMPACT_STRINGS" "Z" ∈ jG) (k : J Γ b mi (pc + 3) L (.int (iI 1) :: S) M P X) : J Γ b mi pc L S M P X := by
  intro p e R s m args below meth c A n0 ρ0 Q C F ρ κ ls H locs cells slots hW hL hS h1 h2
  have hx := C.2.2.2.2.2.2.2.2.2.2.2.2.1.2.2.2
  exact va_gets C.1 C.2.1 hx.2.1 hW.2.2.1 C.2.2.2.2.2.1 (C.2.2.2.2.2.2.1 _ hl) (fun _ h => h) d (k p e R s m args below meth c A n0 ρ0 Q C F ρ κ ls H locs cells slots hW hL (jS_c (v := .int (iI 1)) trivial hS) h1 h2)
theorem J.getDig {idx : Nat} (d : decode mi.2.1 pc = .ok (.getstatic idx, 3)) (hl : Cond.fieldLink mi.1.cls idx "java/lang/Integer" "DigitOnes" "[B" ∈ jG) (k : J Γ b mi (pc + 3) L (.ref 2000001 :: S) M P X) : J Γ b mi pc L S M P X := by
  intro p e R s m args below meth c A n0 ρ0 Q C F ρ κ ls H locs cells slots hW hL hS h1 h2
  have hx := C.2.2.2.2.2.2.2.2.2.2.2.2.1.2.2.2
  have hρ : ρ 2000001 = ρ0 2000001 := hW.2.2.2.2.2.2 _ (Or.inr (Nat.le_of_ble_eq_true rfl))
  have := k p e R s m args below meth c A n0 ρ0 Q C F ρ κ ls H locs cells slots hW hL (jS_c (v := .ref 2000001) (Or.inr (Nat.le_of_ble_eq_true rfl)) hS) h1 h2
  refine va_gets C.1 C.2.1 hx.1.1 hW.2.2.1 C.2.2.2.2.2.1 (C.2.2.2.2.2.2.1 _ hl) (fun _ h => h) d ?_
  rw [← hρ]
  exact this
theorem J.dig {z : Int} (h0 : 0 ≤ z ∧ z < 10) (d : decode mi.2.1 pc = .ok (.baload, 1)) (k : J Γ b mi (pc + 1) L (.int (iI (48 + z)) :: S) M P X) : J Γ b mi pc L (.int (iI z) :: .ref 2000001 :: S) M P X := by
  intro p e R s m args below meth c A n0 ρ0 Q C F ρ κ ls H locs cells slots hW hL hS h1 h2
  have hx := C.2.2.2.2.2.2.2.2.2.2.2.2.1.2.2.2
  have hρ : ρ 2000001 = ρ0 2000001 := hW.2.2.2.2.2.2 _ (Or.inr (Nat.le_of_ble_eq_true rfl))
  have := k p e R s m args below meth c A n0 ρ0 Q C F ρ κ ls H locs cells slots hW hL (jS_c (v := .int (iI (48 + z))) trivial (jS_tl (jS_tl hS))) h1 h2
  obtain ⟨n, rfl⟩ := Int.eq_ofNat_of_zero_le h0.1
  rw [List.map_cons, List.map_cons, show jre ρ (.ref 2000001) = .ref (ρ0 2000001) by rw [← hρ]; rfl]
  exact va_tb C.1 C.2.1 hx.1.2 hW.2.2.1 (iI_in (z := (n : Int)) (n := 100) ⟨by omega, by omega⟩ (by decide)) (v := .int (iI (48 + n))) (by rw [iI_clamp (by omega)]; show Value.int (Int32.ofNat (48 + (n : Int).toNat % 10)) = _; rw [Int.toNat_natCast, Nat.mod_eq_of_lt (by omega)]; rfl) d this
end J9
