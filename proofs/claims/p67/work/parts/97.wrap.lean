/-! handlers that answer a number -/
section JW7
variable {Γ : jE} {b : Nat × Nat × Nat} {mi : jMI} {hh : List (Nat × Nat × Nat × Nat)} {pc : Nat} {L : List (Option Value)} {S : List Value} {M : jM} {P : Option Value → jM → Prop} {X : String → jM → Prop}
theorem JH.if_eq {x : Int32} {off : Int} (tgt : Nat) (d : decode mi.2.1 pc = .ok (.ifCond .eq off, 3)) (ht : (pc : Int) + off = (tgt : Int)) (kt : x = 0 → JH Γ b mi hh tgt L S M P) (kf : ¬ x = 0 → JH Γ b mi hh (pc + 3) L S M P) : JH Γ b mi hh pc L (.int x :: S) M P := by
  intro p e R s m args below meth c A n0 ρ0 Q hT C F ρ κ ls H locs cells slots hW hL hS h1 h2
  exact lv_if_eq C.1 C.2.1 d ht (fun h => kt h p e R s m args below meth c A n0 ρ0 Q hT C F ρ κ ls H locs cells slots hW hL (jS_tl hS) h1 h2) (fun h => kf h p e R s m args below meth c A n0 ρ0 Q hT C F ρ κ ls H locs cells slots hW hL (jS_tl hS) h1 h2)
theorem JH.if_ne {x : Int32} {off : Int} (tgt : Nat) (d : decode mi.2.1 pc = .ok (.ifCond .ne off, 3)) (ht : (pc : Int) + off = (tgt : Int)) (kt : ¬ x = 0 → JH Γ b mi hh tgt L S M P) (kf : x = 0 → JH Γ b mi hh (pc + 3) L S M P) : JH Γ b mi hh pc L (.int x :: S) M P := by
  intro p e R s m args below meth c A n0 ρ0 Q hT C F ρ κ ls H locs cells slots hW hL hS h1 h2
  exact lv_if_ne C.1 C.2.1 d ht (fun h => kt h p e R s m args below meth c A n0 ρ0 Q hT C F ρ κ ls H locs cells slots hW hL (jS_tl hS) h1 h2) (fun h => kf h p e R s m args below meth c A n0 ρ0 Q hT C F ρ κ ls H locs cells slots hW hL (jS_tl hS) h1 h2)
theorem JH.icmp_ne {x y : Int32} {off : Int} (tgt : Nat) (d : decode mi.2.1 pc = .ok (.if_icmp .ne off, 3)) (ht : (pc : Int) + off = (tgt : Int)) (kt : ¬ x = y → JH Γ b mi hh tgt L S M P) (kf : x = y → JH Γ b mi hh (pc + 3) L S M P) : JH Γ b mi hh pc L (.int y :: .int x :: S) M P := by
  intro p e R s m args below meth c A n0 ρ0 Q hT C F ρ κ ls H locs cells slots hW hL hS h1 h2
  exact lv_icmp_ne C.1 C.2.1 d ht (fun h => kt h p e R s m args below meth c A n0 ρ0 Q hT C F ρ κ ls H locs cells slots hW hL (jS_tl (jS_tl hS)) h1 h2) (fun h => kf h p e R s m args below meth c A n0 ρ0 Q hT C F ρ κ ls H locs cells slots hW hL (jS_tl (jS_tl hS)) h1 h2)
theorem JH.goto {off : Int} (tgt : Nat) (d : decode mi.2.1 pc = .ok (.goto off, 3)) (ht : (pc : Int) + off = (tgt : Int)) (k : JH Γ b mi hh tgt L S M P) : JH Γ b mi hh pc L S M P := by
  intro p e R s m args below meth c A n0 ρ0 Q hT C F ρ κ ls H locs cells slots hW hL hS h1 h2
  exact lv_goto C.1 C.2.1 d ht (k p e R s m args below meth c A n0 ρ0 Q hT C F ρ κ ls H locs cells slots hW hL hS h1 h2)
theorem IH.if_eq {x : Int} {off : Int} (tgt : Nat) (d : decode mi.2.1 pc = .ok (.ifCond .eq off, 3)) (ht : (pc : Int) + off = (tgt : Int)) (hx : -2147483648 ≤ x ∧ x < 2147483648) (kt : x = 0 → JH Γ b mi hh tgt L S M P) (kf : x ≠ 0 → JH Γ b mi hh (pc + 3) L S M P) : JH Γ b mi hh pc L (.int (iI x) :: S) M P := by
  have h0 : (-2147483648 : Int) ≤ 0 ∧ (0 : Int) < 2147483648 := by decide
  exact JH.if_eq tgt d ht (fun h => kt ((iI_inj hx h0).mp h)) (fun h => kf fun e => h ((iI_inj hx h0).mpr e))
theorem IH.if_ne {x : Int} {off : Int} (tgt : Nat) (d : decode mi.2.1 pc = .ok (.ifCond .ne off, 3)) (ht : (pc : Int) + off = (tgt : Int)) (hx : -2147483648 ≤ x ∧ x < 2147483648) (kt : x ≠ 0 → JH Γ b mi hh tgt L S M P) (kf : x = 0 → JH Γ b mi hh (pc + 3) L S M P) : JH Γ b mi hh pc L (.int (iI x) :: S) M P := by
  have h0 : (-2147483648 : Int) ≤ 0 ∧ (0 : Int) < 2147483648 := by decide
  exact JH.if_ne tgt d ht (fun h => kt fun e => h ((iI_inj hx h0).mpr e)) (fun h => kf ((iI_inj hx h0).mp h))
theorem IH.icmp_ne {x y : Int} {off : Int} (tgt : Nat) (d : decode mi.2.1 pc = .ok (.if_icmp .ne off, 3)) (ht : (pc : Int) + off = (tgt : Int)) (hx : -2147483648 ≤ x ∧ x < 2147483648) (hy : -2147483648 ≤ y ∧ y < 2147483648) (kt : x ≠ y → JH Γ b mi hh tgt L S M P) (kf : x = y → JH Γ b mi hh (pc + 3) L S M P) : JH Γ b mi hh pc L (.int (iI y) :: .int (iI x) :: S) M P := JH.icmp_ne tgt d ht (fun h => kt fun e => h ((iI_inj hx hy).mpr e)) (fun h => kf ((iI_inj hx hy).mp h))
/-- what a handler pushes -/
def jPush (mi : jMI) (pc w : Nat) (k : Int32) : Prop := (∃ v : Int, decode mi.2.1 pc = .ok (.bipush v, 2) ∧ (Int8.ofInt v).toInt32 = k ∧ w = 2) ∨ (∃ v : Int, decode mi.2.1 pc = .ok (.sipush v, 3) ∧ (Int16.ofInt v).toInt32 = k ∧ w = 3)
def jHdB (mi : jMI) (hp : Nat) (k : Int32) : Prop := (∃ (j : Fin 4) (w : Nat), (j : Nat) < mi.2.2.1 ∧ decode mi.2.1 hp = .ok (.astore_n j, 1) ∧ jPush mi (hp + 1) w k ∧ decode mi.2.1 (hp + 1 + w) = .ok (.ireturn, 1)) ∨
  (∃ (i w : Nat), i < mi.2.2.1 ∧ decode mi.2.1 hp = .ok (.astore i, 2) ∧ jPush mi (hp + 2) w k ∧ decode mi.2.1 (hp + 2 + w) = .ok (.ireturn, 1))
theorem jHdB_run {p : Program} {e : Env} {R : Room} {s : State} {m : MethodId} {args : Array Value} {below : List Frame} {meth : Method} {c : Code} {A : Nat → Prop} {n0 d hp q : Nat} {ρ0 ρ : Nat → Nat} {κ : Nat → ClassId} {Q : State → Prop} {H : Heap} {locs : List Loc} {cells slots : Nat} {ls : Array Slot} {k : Int32}
    (h : jHdB mi hp k) (hr : mi.2.2.2 = some .int) (C : jC Γ d mi p R s m args meth c A ρ0) (F : jF Γ mi p e R s m args below meth c A n0 ρ0 Q P X) (hW : jW Γ s A n0 ρ0 M ρ κ H locs) (hL : jL ρ M.1.length mi.2.2.1 L ls) (h1 : cells ≤ R.cells) (h2 : slots ≤ R.slots) (hP : P (some (.int k)) M) :
    W p Γ.1 e R s m args below meth c H locs cells slots Q (F0 m hp ls [.ref q]) := by
  have end9 : ∀ (ls' : Array Slot) (pc' w : Nat), jPush mi pc' w k → decode mi.2.1 (pc' + w) = .ok (.ireturn, 1) → W p Γ.1 e R s m args below meth c H locs cells slots Q (F0 m pc' ls' []) := fun ls' pc' w hu d2 => by
    have fin : W p Γ.1 e R s m args below meth c H locs cells slots Q (F0 m (pc' + w) ls' [.int k]) := F.1 M ρ κ ls' H locs cells slots (pc' + w) (some (.int k)) hP hW (fun w hw => by cases hw; trivial) h1 h2 (Or.inr (Or.inl ⟨.int, k, hr, rfl, rfl, d2⟩))
    rcases hu with ⟨v, d1, hv, rfl⟩ | ⟨v, d1, hv, rfl⟩
    · exact lv_bipush C.1 C.2.1 d1 hv fin
    · exact lv_sipush C.1 C.2.1 d1 hv fin
  rcases h with ⟨j, w, hj, d0, hu, d2⟩ | ⟨i, w, hi, d0, hu, d2⟩
  · exact lv_astore_n C.1 C.2.1 d0 rfl (jas_has hL) hj rfl (fun ls' _ => end9 ls' _ w hu d2)
  · exact lv_astore C.1 C.2.1 d0 (jas_has hL) hi rfl (fun ls' _ => end9 ls' _ w hu d2)
def jCatchB (mi : jMI) (hh : List (Nat × Nat × Nat × Nat)) (pc : Nat) (E : String) (k : Int32) : Prop :=
  ∃ (pre : List ExceptionTableEntry) (x : ExceptionTableEntry) (suf : List ExceptionTableEntry), tableOf hh = pre ++ x :: suf ∧ (∀ z ∈ pre, z.catchType ≠ 0 ∧ Cond.classLink mi.1.cls z.catchType "java/lang/IndexOutOfBoundsException" ∈ jG ∧ E = "java/lang/IllegalStateException") ∧
    covers x pc = true ∧ x.catchType ≠ 0 ∧ Cond.classLink mi.1.cls x.catchType E ∈ jG ∧ Cond.castable E E ∈ lw_tbl ∧ jHdB mi x.handlerPc k
set_option maxHeartbeats 1000000 in
theorem JH.callB {q idx : Nat} {b' : Nat × Nat × Nat} {mi' : jMI} (As : List Value) {P' : Option Value → jM → Prop} {X' : String → jM → Prop} (d : decode mi.2.1 pc = .ok (.invokevirtual idx, 3)) (hl : Cond.methodLink mi.1.cls idx mi'.1 ∈ jG) (hs : jVE mi' As.length) {ci n : Nat} (hq : M.1[q]? = some (ci, n)) (hqc : (vwCl[ci]?).map (fun z => z.1) = some mi'.1.cls) (hb : b'.1 + 1 ≤ b.1 ∧ b'.2.1 ≤ b.2.1 ∧ b'.2.2 ≤ b.2.2) (hc : Con Γ b' mi' (.ref q :: As) M P' X') (hr : mi.2.2.2 = some .int)
    (hX : ∀ E M', X' E M' → ∃ k, jCatchB mi hh pc E k ∧ P (some (.int k)) M') (hcat : (S.map fun v => v.category).sum ≤ 8)
    (k : ∀ v M', P' v M' → J Γ (b.1, b.2.1 - b'.2.1, b.2.2 - b'.2.2) mi (pc + 3) L (v.toList ++ S) M' P X0) : JH Γ b mi hh pc L (As.reverse ++ .ref q :: S) M P := by
  intro p e R s m args below meth c A n0 ρ0 Q hT C F ρ κ ls H locs cells slots hW hL hS h1 h2
  have hS1 := jok_app hS
  have hok : ∀ v ∈ As, jok M.1.length v := fun v hv => hS1.1 v (List.mem_reverse.mpr hv)
  have hpre := jPre_call C hW
  have hokq : ∀ v ∈ Value.ref q :: As, jok M.1.length v := List.forall_mem_cons.mpr ⟨hS1.2 _ List.mem_cons_self, hok⟩
  have hS2 : ∀ v ∈ S, jok M.1.length v := jS_tl hS1.2
  rw [List.map_append, List.map_reverse]
  have hM := hc ρ κ H.size hokq
  have hrm := jroom (R := R) hb.1 hs.1.2.2.2 C.2.2.2.2.2.2.2.1 C.2.2.2.2.2.2.2.2.1
  have fx : CallFix p m c mi.2.1 mi.2.2.1 s args jG mi.1.cls := ⟨C.1, C.2.1, C.2.2.1, C.2.2.2.2.2.1, C.2.2.2.2.2.2.1⟩
  have hg : GoodIn jG (wsV mi.1.cls idx mi'.1.cls mi'.1 (jws mi')) := by
    intro w hw
    rcases List.mem_append.mp hw with h | h
    · simp only [List.mem_cons, List.not_mem_nil, or_false] at h
      rcases h with rfl | rfl | rfl | rfl
      · exact jgood hl
      · exact jgood hs.2.1
      · exact jgood hs.2.2
      · exact jgood hs.1.2.1
    · exact jws_good hs.1 w h
  obtain ⟨q', hq', hqn⟩ := Option.map_eq_some_iff.mp hqc
  have he := jw_at (ρ := ρ) (κ := κ) hq
  have hci : ci < 100 := Nat.lt_of_lt_of_le (List.getElem?_eq_some_iff.mp hq').1 (Nat.le_of_ble_eq_true rfl)
  rw [jcell_obj hci] at he
  have hrv := va_recv C.2.2.2.2.2.2.2.2.2.1 hW.1 hq' he
  rw [hqn] at hrv
  have hts := C.2.2.2.2.2.2.1
  have hN := C.2.2.2.2.2.2.2.2.2.2.2.2.2.2.1
  exact jcont C hW hL hS2 h1 h2 hb.2 (vx_runV (As := As.map (jre ρ)) fx hM (cwV As.length C.2.2.2.2.2.2.1 hg rfl rfl rfl ⟨rfl, hs.1.2.2.1⟩ hrm) ⟨jPre_blind, hrv, fun U hU hw => ⟨rfl, hpre U hU hw⟩⟩ rfl (List.length_map _) hL.2.1 rfl (lv_room (jcatS hcat)) d ⟨by omega, by omega⟩)
    (fun M' ρ' κ' H1 locs1 E q9 ce gX gW gL g1 g2 g3 => by
      obtain ⟨k9, ⟨pre, x, suf, t1, t2, t3, t4, t5, t6, t7⟩, hP9⟩ := hX E M' gX
      exact vx_catch C.2.2.2.2.2.1 pre x suf (hT.trans t1) (fun z hz => by
        obtain ⟨u1, u2, u3⟩ := t2 z hz
        exact Or.inr ⟨u1, _, hts _ u2, by rw [u3]; exact hN.2.2.2.1⟩) t3 t4 (hts _ t5) ((hN.2.1 _ _ t6).use rfl) g1 g2 g3
        (jHdB_run t7 hr C F gW gL (by omega) (by omega) hP9))
    (fun v M' ρ' κ' H1 locs1 gP gW gL gok => k v M' gP p e R s m args below meth c A n0 ρ0 Q C F ρ' κ' ls H1 locs1 _ _ gW gL gok (by show _ + _ + (_ - _) ≤ _; omega) (by show _ + _ + (_ - _) ≤ _; omega))
end JW7
theorem mix_same {s s' : Nat → Int → Int} (h : HiE s s') : mix s' s = s' := by
  funext q i
  by_cases g : q < 137
  · rw [mix_lo g]
  · rw [mix_hi (by omega)]; exact (h q i (by omega)).symm
theorem jmem_mix {sh : List (Nat × Nat)} {t : Nat → Nat → Option Nat} {s s1 s2 : Nat → Int → Int} (h : jmem s1 e0 = jmem s2 e0) : jmx sh t (mix s1 s) = jmx sh t (mix s2 s) := by
  have e : (fun q (k : Nat) => iI (s1 q k)) = fun q (k : Nat) => iI (s2 q k) := congrArg (fun z : jM => z.2.2.1) h
  unfold jmx
  congr 3
  funext q k
  by_cases g : q < 137
  · rw [mix_lo g, mix_lo g]; exact congrFun (congrFun e q) k
  · rw [mix_hi (by omega), mix_hi (by omega)]
theorem FQ.rq {sh : List (Nat × Nat)} {t : Nat → Nat → Option Nat} {s : Nat → Int → Int} {Q : Int → (Nat → Int → Int) → Prop} {v : Option Value} {M : jM} (h : FQ sh t s (RQ Q e0) v M) (hh : ∀ w s', Q w s' → HiE s s') : ∃ w s', v = some (.int (iI w)) ∧ M = jmx sh t s' ∧ Q w s' := by
  obtain ⟨s1, ⟨w, s2, rfl, e, hq⟩, rfl⟩ := h
  exact ⟨w, s2, rfl, by rw [jmem_mix e, mix_same (hh w s2 hq)], hq⟩
theorem RQ.ok {Q : Int → (Nat → Int → Int) → Prop} {v : Option Value} {M' : jM} (h : RQ Q e0 v M') : (∃ s', M' = jmem s' e0) ∧ (v = none ∨ ∃ x, v = some (.int x)) := by
  obtain ⟨w, s2, rfl, e, hq⟩ := h
  exact ⟨⟨s2, e⟩, Or.inr ⟨_, rfl⟩⟩
section Y97
variable {Γ : jE} {b : Nat × Nat × Nat} {mi : jMI} {pc : Nat} {L : List (Option Value)} {S : List Value} {P : Option Value → jM → Prop} {X : String → jM → Prop}
variable {sh : List (Nat × Nat)} {t : Nat → Nat → Option Nat} {s : Nat → Int → Int}
theorem PF.at0 (hp : PF sh t) : sh[0]? = some (8, 12) := (hp.2 0 (by decide)).1
theorem ok137 {As : List Value} (h : ∀ v ∈ As, ∃ x, v = .int x) : ∀ v ∈ Value.ref 0 :: As, jok 137 v := List.forall_mem_cons.mpr ⟨Or.inl (by decide), fun v hv => by obtain ⟨x, rfl⟩ := h v hv; trivial⟩
/-- a method of the class, over a larger memory -/
theorem Y.pub (hp : PF sh t) {idx : Nat} {b' : Nat × Nat × Nat} {mi' : jMI} (As : List Value) {Q : Int → (Nat → Int → Int) → Prop} {X' : String → jM → Prop} (d : decode mi.2.1 pc = .ok (.invokevirtual idx, 3)) (hl : Cond.methodLink mi.1.cls idx mi'.1 ∈ jG) (hs : jVE mi' As.length) (hcl : mi'.1.cls = RX8) (hb : b'.1 + 1 ≤ b.1 ∧ b'.2.1 ≤ b.2.1 ∧ b'.2.2 ≤ b.2.2)
    (hc : Con Γ b' mi' (.ref 0 :: As) (jmem s e0) (RQ Q e0) X') (hX : ∀ E M', ¬ X' E M') (hAs : ∀ v ∈ As, ∃ x, v = .int x) (hh : ∀ w s', Q w s' → HiE s s') (hcat : (S.map fun v => v.category).sum ≤ 8)
    (k : ∀ w s', Q w s' → J Γ (b.1, b.2.1 - b'.2.1, b.2.2 - b'.2.2) mi (pc + 3) L (.int (iI w) :: S) (jmx sh t s') P X) : J Γ b mi pc L (As.reverse ++ .ref 0 :: S) (jmx sh t s) P X := by
  refine J.callV As d hl hs (show (jmx sh t s).1[0]? = some (8, 12) from hp.at0) (by rw [hcl]; rfl) hb (Con.frame hp (ok137 hAs) (fun v M' h => RQ.ok h) (fun E M' h => absurd h (hX E M')) hc) (fun E M' h => by obtain ⟨s', h, -⟩ := h; exact absurd h (hX E _)) hcat ?_
  intro v M' h
  obtain ⟨w, s', rfl, rfl, hq⟩ := FQ.rq h hh
  exact k w s' hq
theorem Con.weak {mi' : jMI} {b' : Nat × Nat × Nat} {av : List Value} {M : jM} {P P' : Option Value → jM → Prop} {X X' : String → jM → Prop} (h : Con Γ b' mi' av M P X) (hP : ∀ v M', P v M' → P' v M') (hX : ∀ E M', X E M' → X' E M') : Con Γ b' mi' av M P' X' := by
  intro ρ κ sz hok
  refine (h ρ κ sz hok).mono (fun _ _ h => h) (fun a st o t _ _ h => ?_) (fun a E st t _ _ h => ?_) (fun _ h => h)
  · obtain ⟨⟨v, M', ρ', κ', e, hp, hr⟩, h2⟩ := h
    exact ⟨⟨v, M', ρ', κ', e, hP _ _ hp, hr⟩, h2⟩
  · obtain ⟨⟨M', ρ', κ', hx, hr⟩, h2⟩ := h
    exact ⟨⟨M', ρ', κ', hX _ _ hx, hr⟩, h2⟩
theorem RI.rq {mi' : jMI} {b' : Nat × Nat × Nat} {av : List Value} {r : Int} {X' : String → jM → Prop} (h : Con Γ b' mi' av (jmem s e0) (RI r s e0) X') : Con Γ b' mi' av (jmem s e0) (RQ (fun w s' => w = r ∧ s' = s) e0) X' := Con.weak h (fun v M' h => by obtain ⟨rfl, rfl⟩ := h; exact ⟨r, s, rfl, rfl, rfl, rfl⟩) (fun _ _ h => h)
/-- a static method of the law with handlers -/
theorem Y.wrap (hp : PF sh t) {hh : List (Nat × Nat × Nat × Nat)} {idx : Nat} {b' : Nat × Nat × Nat} {mi' : jMI} (As : List Value) {Q : Int → (Nat → Int → Int) → Prop} (d : decode mi.2.1 pc = .ok (.invokestatic idx, 3)) (hl : Cond.methodLink mi.1.cls idx mi'.1 ∈ jG) (hs : jSW mi' hh (As.length + 1)) (hb : b'.1 + 1 ≤ b.1 ∧ b'.2.1 ≤ b.2.1 ∧ b'.2.2 ≤ b.2.2)
    (hc : ConW Γ b' mi' hh (.ref 0 :: As) (jmem s e0) (RQ Q e0)) (hAs : ∀ v ∈ As, ∃ x, v = .int x) (hH : ∀ w s', Q w s' → HiE s s') (hcat : (S.map fun v => v.category).sum ≤ 8)
    (k : ∀ w s', Q w s' → J Γ (b.1, b.2.1 - b'.2.1, b.2.2 - b'.2.2) mi (pc + 3) L (.int (iI w) :: S) (jmx sh t s') P X) : J Γ b mi pc L ((.ref 0 :: As).reverse ++ S) (jmx sh t s) P X := by
  refine J.callSW (.ref 0 :: As) d hl hs hb (ConW.frame hp (ok137 hAs) (fun v M' h => RQ.ok h) hc) hcat ?_
  intro v M' h
  obtain ⟨w, s', rfl, rfl, hq⟩ := FQ.rq h hH
  exact k w s' hq
end Y97
