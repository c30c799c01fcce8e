/-! THE CLAIM OUT OF ONE WALK OF THE LAW'S BODY. Your part is whole_start (and what it stands on); all else here is the same for every law, but numbers. -/
def R_law : String := "DominoChainsLaw"
def lw_P (b : Addr) (xs : List Int32) (args : Array Value) (s : State) : Prop := args = #[.ref b] ∧ s.IntsAt b xs ∧ xs.length ≤ 3072 ∧ (Jvm.Cond.and given_1 narrow_1).before args s = true
/-- what a walk over the start with the record d0 says of its end, said of the start itself -/
theorem lw_closed {s t : State} {o : Outcome} {d0 : Drawn} {L : List Loc} {k n : Nat} (hd0 : s.drawn.sameBut d0 lw_cs) (hv : ∃ v, o = .returned v) (hW : (s.setDrawn d0).WarmedH t.vm) (hs : (s.setDrawn d0).sameButNew ({ t with vm := s.vm } : State) L k n) : State.butDraws s t lw_cs (fun t1 => Framed s o t1 L k n) := by
  have h2 : t.drawn = d0 := congrArg State.drawn hs.1
  refine ⟨⟨hv, hW, State.sameButNew.setDrawn hs s.drawn⟩, ?_, by decide⟩
  rw [h2]
  exact hd0
def lw_Q (_ : Array Value) (s : State) (o : Outcome) (t : State) : Prop := o = .returned (some (.int 1)) ∧ State.butDraws s t lw_cs (fun t1 => Framed s o t1 [] 601024 7293034)
def lw_Z (below : List Frame) (a : Array Value) (s : State) : State → Prop := fun t => ∃ o, t.status = .running ∧ Ended t below o ∧ lw_Q a s o t
/-- the law's own end, with 1 on the stack, nothing written that was there before, its room as the claim has it; d0: the record of draws at this point (at the entry s.drawn: begin with 'refine W.base ?_' and 'have hd0 := Drawn.sameBut.refl s.drawn lw_cs') -/
theorem lw_ret {p : Program} {l : Launch} {e : Env} {s : State} {m : MethodId} {below : List Frame} {meth : Method} {c : Code} {b : Nat} {d0 : Drawn} (hd0 : s.drawn.sameBut d0 lw_cs) (hx : p.tables.exec = Jvm.exec) (hb : c.code = code) (hr : meth.sig.returnType = ret) (hlocks : meth.locks = false) {pc : Nat} {H : Heap} {ls : Array Slot} (hdg : decode code pc = .ok (.ireturn, 1)) : W p l e room_1 (s.setDrawn d0) m #[Value.ref b] below meth c H [] 601024 7293034 (lw_Z below #[Value.ref b] s) (F0 m pc ls [.int 1]) := by
  intro T hT X
  obtain ⟨fs, hret, hrun, hended, hW, hframe⟩ := X.leave (v := some (.int 1)) (hlocks := hlocks) (fun h => by rw [hr] at h; cases h)
  have hmeth' : T.vm.method? m = some meth := X.method'
  refine ⟨T.setFrames fs, ?_, .returned (some (.int 1)), hrun, hended, rfl, lw_closed hd0 ⟨_, rfl⟩ hW hframe⟩
  jvm_step X.here [X.here.top, hx, hb, hdg, hmeth', hr, ret, narrow_b1]
  (try refine ⟨rfl, ?_⟩); (try refine ⟨rfl, ?_⟩)
  first | (intro acts; rw [hret _ acts rfl rfl rfl]) | rw [hret _ _ rfl rfl rfl]
  exact Steps.refl _
/-- what holds at the law's entry: the machine, the code, the tables' words (any of lw_tbl by 'hts w (by decide +kernel)'), the script of L ints xs at the cell b, what the Statement gives of the start (any of its parts by flat_of_before) -/
def lw_At (p : Program) (s : State) (m : MethodId) (meth : Method) (c : Code) (b L : Nat) (xs : Nat → Int32) : Prop :=
  p.tables.exec = Jvm.exec ∧ c.code = code ∧ meth.sig.returnType = ret ∧ c.maxLocals = 9 ∧ s.vm.findClass R_law = some m.cls ∧ (∀ w ∈ lw_tbl, w.before #[Value.ref b] s = true) ∧ va_X b L xs s s.heap ∧ b < s.heap.size ∧ meth.locks = false ∧ (Jvm.Cond.and given_1 narrow_1).before #[Value.ref b] s = true

def lwTm : Nat → Term := fun i => match i with
  | 0 => .string "DominoChains$Parser" 49
  | 1 => .string "DominoChains$Parser" 116
  | 2 => .string "DominoChains$Parser" 122
  | 3 => .string "DominoChains$Parser" 124
  | _ => .string "DominoChains$Parser" 129
theorem lw_words {args : Array Value} {s : State} (hs : ∀ w ∈ flatC (Jvm.Cond.and given_1 narrow_1), w.before args s = true) (hA : ∀ a : Nat, a < s.heap.size → ¬ (fun q : Nat => s.heap.size ≤ q) a) :
    ∃ adK adV : Nat → Nat, vk_S 5 jLen jByt adK adV (fun q : Nat => s.heap.size ≤ q) s s.heap ∧ ∀ i : Nat, i < 5 → (lwTm i).eval args s none [] s = some (.ref (adK i)) := by
  refine vk_Sof (fun i hi => ?_) (fun i hi => ?_) (fun i hi => ?_) (fun i hi => ?_) (fun i hi => ?_) (fun i hi j hj => ?_) (fun i j hi hj hij => ?_) hA
  · match i, hi with
    | 0, _ => decide
    | 1, _ => decide
    | 2, _ => decide
    | 3, _ => decide
    | 4, _ => decide
    | i + 5, hi => exact absurd hi (by omega)
  · match i, hi with
    | 0, _ => exact hs _ (by decide +kernel)
    | 1, _ => exact hs _ (by decide +kernel)
    | 2, _ => exact hs _ (by decide +kernel)
    | 3, _ => exact hs _ (by decide +kernel)
    | 4, _ => exact hs _ (by decide +kernel)
    | i + 5, hi => exact absurd hi (by omega)
  · match i, hi with
    | 0, _ => exact hs _ (by decide +kernel)
    | 1, _ => exact hs _ (by decide +kernel)
    | 2, _ => exact hs _ (by decide +kernel)
    | 3, _ => exact hs _ (by decide +kernel)
    | 4, _ => exact hs _ (by decide +kernel)
    | i + 5, hi => exact absurd hi (by omega)
  · match i, hi with
    | 0, _ => exact hs _ (by decide +kernel)
    | 1, _ => exact hs _ (by decide +kernel)
    | 2, _ => exact hs _ (by decide +kernel)
    | 3, _ => exact hs _ (by decide +kernel)
    | 4, _ => exact hs _ (by decide +kernel)
    | i + 5, hi => exact absurd hi (by omega)
  · match i, hi with
    | 0, _ => exact hs _ (by decide +kernel)
    | 1, _ => exact hs _ (by decide +kernel)
    | 2, _ => exact hs _ (by decide +kernel)
    | 3, _ => exact hs _ (by decide +kernel)
    | 4, _ => exact hs _ (by decide +kernel)
    | i + 5, hi => exact absurd hi (by omega)
  · match i, hi, j, hj with
    | 0, _, 0, _ => exact hs _ (by decide +kernel)
    | 0, _, 1, _ => exact hs _ (by decide +kernel)
    | 0, _, 2, _ => exact hs _ (by decide +kernel)
    | 0, _, 3, _ => exact hs _ (by decide +kernel)
    | 0, _, 4, _ => exact hs _ (by decide +kernel)
    | 1, _, 0, _ => exact hs _ (by decide +kernel)
    | 1, _, 1, _ => exact hs _ (by decide +kernel)
    | 1, _, 2, _ => exact hs _ (by decide +kernel)
    | 1, _, 3, _ => exact hs _ (by decide +kernel)
    | 2, _, 0, _ => exact hs _ (by decide +kernel)
    | 2, _, 1, _ => exact hs _ (by decide +kernel)
    | 2, _, 2, _ => exact hs _ (by decide +kernel)
    | 2, _, 3, _ => exact hs _ (by decide +kernel)
    | 2, _, 4, _ => exact hs _ (by decide +kernel)
    | 3, _, 0, _ => exact hs _ (by decide +kernel)
    | 3, _, 1, _ => exact hs _ (by decide +kernel)
    | 3, _, 2, _ => exact hs _ (by decide +kernel)
    | 3, _, 3, _ => exact hs _ (by decide +kernel)
    | 4, _, 0, _ => exact hs _ (by decide +kernel)
    | 4, _, 1, _ => exact hs _ (by decide +kernel)
    | 4, _, 2, _ => exact hs _ (by decide +kernel)
    | 4, _, 3, _ => exact hs _ (by decide +kernel)
    | 0, _, j + 5, hj => exact absurd hj (by have e : jLen.getD 0 0 = 5 := rfl; omega)
    | 1, _, j + 4, hj => exact absurd hj (by have e : jLen.getD 1 0 = 4 := rfl; omega)
    | 2, _, j + 5, hj => exact absurd hj (by have e : jLen.getD 2 0 = 5 := rfl; omega)
    | 3, _, j + 4, hj => exact absurd hj (by have e : jLen.getD 3 0 = 4 := rfl; omega)
    | 4, _, j + 4, hj => exact absurd hj (by have e : jLen.getD 4 0 = 4 := rfl; omega)
    | i + 5, hi, _, _ => exact absurd hi (by omega)
  · match i, j, hi, hj with
    | 0, 0, _, _ => exact absurd rfl hij
    | 0, 1, _, _ => exact Or.inl (hs _ (by decide +kernel))
    | 0, 2, _, _ => exact Or.inl (hs _ (by decide +kernel))
    | 0, 3, _, _ => exact Or.inl (hs _ (by decide +kernel))
    | 0, 4, _, _ => exact Or.inl (hs _ (by decide +kernel))
    | 1, 0, _, _ => exact Or.inr (hs _ (by decide +kernel))
    | 1, 1, _, _ => exact absurd rfl hij
    | 1, 2, _, _ => exact Or.inl (hs _ (by decide +kernel))
    | 1, 3, _, _ => exact Or.inl (hs _ (by decide +kernel))
    | 1, 4, _, _ => exact Or.inl (hs _ (by decide +kernel))
    | 2, 0, _, _ => exact Or.inr (hs _ (by decide +kernel))
    | 2, 1, _, _ => exact Or.inr (hs _ (by decide +kernel))
    | 2, 2, _, _ => exact absurd rfl hij
    | 2, 3, _, _ => exact Or.inl (hs _ (by decide +kernel))
    | 2, 4, _, _ => exact Or.inl (hs _ (by decide +kernel))
    | 3, 0, _, _ => exact Or.inr (hs _ (by decide +kernel))
    | 3, 1, _, _ => exact Or.inr (hs _ (by decide +kernel))
    | 3, 2, _, _ => exact Or.inr (hs _ (by decide +kernel))
    | 3, 3, _, _ => exact absurd rfl hij
    | 3, 4, _, _ => exact Or.inl (hs _ (by decide +kernel))
    | 4, 0, _, _ => exact Or.inr (hs _ (by decide +kernel))
    | 4, 1, _, _ => exact Or.inr (hs _ (by decide +kernel))
    | 4, 2, _, _ => exact Or.inr (hs _ (by decide +kernel))
    | 4, 3, _, _ => exact Or.inr (hs _ (by decide +kernel))
    | 4, 4, _, _ => exact absurd rfl hij
    | i + 5, _, hi, _ => exact absurd hi (by omega)
    | _, j + 5, _, hj => exact absurd hj (by omega)
theorem lw_known {args : Array Value} {s : State} (hG : ∀ w ∈ jG, w.before args s = true) : ∃ D : va_G, va_K D vwCl [] s := by
  obtain ⟨c0, i0, k0⟩ := u_known (C := RX0) (T := TX0) (N := 3) (n := 3) hG uX0 (hG _ iX0)
  obtain ⟨c1, i1, k1⟩ := u_known (C := RX1) (T := TX1) (N := 6) (n := 6) hG uX1 (hG _ iX1)
  obtain ⟨c2, i2, k2⟩ := u_known (C := RX2) (T := TX2) (N := 2) (n := 2) hG uX2 (hG _ iX2)
  obtain ⟨c3, i3, k3⟩ := u_known (C := RX3) (T := TX3) (N := 6) (n := 6) hG uX3 (hG _ iX3)
  obtain ⟨c4, i4, k4⟩ := u_known (C := RX4) (T := TX4) (N := 5) (n := 5) hG uX4 (hG _ iX4)
  obtain ⟨c5, i5, k5⟩ := u_known (C := RX5) (T := TX5) (N := 13) (n := 13) hG uX5 (hG _ iX5)
  obtain ⟨c6, i6, k6⟩ := u_known (C := RX6) (T := TX6) (N := 13) (n := 13) hG uX6 (hG _ iX6)
  obtain ⟨c7, i7, k7⟩ := u_known (C := RX7) (T := TX7) (N := 2) (n := 2) hG uX7 (hG _ iX7)
  obtain ⟨c8, i8, k8⟩ := u_known (C := RX8) (T := TX8) (N := 12) (n := 12) hG uX8 (hG _ iX8)
  obtain ⟨c9, i9, k9⟩ := u_known (C := RX9) (T := TX9) (N := 17) (n := 17) hG uX9 (hG _ iX9)
  refine ⟨(fun k => match k with | 0 => c0 | 1 => c1 | 2 => c2 | 3 => c3 | 4 => c4 | 5 => c5 | 6 => c6 | 7 => c7 | 8 => c8 | _ => c9, fun k => match k with | 0 => i0 | 1 => i1 | 2 => i2 | 3 => i3 | 4 => i4 | 5 => i5 | 6 => i6 | 7 => i7 | 8 => i8 | _ => i9), fun k q hq => ?_, fun k q h => by simp at h⟩
  match k, hq with
  | 0, hq => cases hq; exact k0
  | 1, hq => cases hq; exact k1
  | 2, hq => cases hq; exact k2
  | 3, hq => cases hq; exact k3
  | 4, hq => cases hq; exact k4
  | 5, hq => cases hq; exact k5
  | 6, hq => cases hq; exact k6
  | 7, hq => cases hq; exact k7
  | 8, hq => cases hq; exact k8
  | 9, hq => cases hq; exact k9
  | k + 10, hq => simp [vwCl] at hq
theorem lw_strs {args : Array Value} {s : State} (hts : ∀ w ∈ lw_tbl, w.before args s = true) (hs : ∀ w ∈ flatC (Jvm.Cond.and given_1 narrow_1), w.before args s = true) {adK ρ0 : Nat → Nat} (had : ∀ i : Nat, i < 5 → (lwTm i).eval args s none [] s = some (.ref (adK i))) (hρ : ∀ i, i < 5 → ρ0 (1000000 + i) = adK i) :
    ∀ t ∈ jStr, ∃ a, vk_R t.1 t.2.1 t.2.2 a s ∧ (∀ i, jStrNo t.2.2 = some i → ρ0 (1000000 + i) = a) := by
  have hst : ∀ (own : String) (k : Nat) (tx : String), (Cond.stringRef own k tx).before args s = true → (Cond.exactly (.string own k) "java/lang/String").before args s = true → jStrNo tx = none → ∃ a, vk_R own k tx a s ∧ (∀ i, jStrNo tx = some i → ρ0 (1000000 + i) = a) := fun own k tx h1 h2 h3 => by
    obtain ⟨a, c, cA, kA, q1, -⟩ := Cond.exactly_spec (args := args) (first := s) (o := none) (s := s) (idx := []) (t := .string own k) (cls := "java/lang/String") h2
    exact ⟨a, vk_R.of h1 q1, fun i hi => by rw [h3] at hi; cases hi⟩
  exact List.forall_mem_cons.mpr ⟨hst _ _ _ (hts _ (List.mem_of_getElem? (i := 892) (by decide +kernel))) (hs _ (by decide +kernel)) (by decide), List.forall_mem_cons.mpr ⟨hst _ _ _ (hts _ (List.mem_of_getElem? (i := 941) (by decide +kernel))) (hs _ (by decide +kernel)) (by decide), List.forall_mem_cons.mpr ⟨hst _ _ _ (hts _ (List.mem_of_getElem? (i := 1105) (by decide +kernel))) (hs _ (by decide +kernel)) (by decide), List.forall_mem_cons.mpr ⟨hst _ _ _ (hts _ (List.mem_of_getElem? (i := 1245) (by decide +kernel))) (hs _ (by decide +kernel)) (by decide), List.forall_mem_cons.mpr ⟨hst _ _ _ (hts _ (List.mem_of_getElem? (i := 1348) (by decide +kernel))) (hs _ (by decide +kernel)) (by decide), List.forall_mem_cons.mpr ⟨hst _ _ _ (hts _ (List.mem_of_getElem? (i := 1369) (by decide +kernel))) (hs _ (by decide +kernel)) (by decide), List.forall_mem_cons.mpr ⟨hst _ _ _ (hts _ (List.mem_of_getElem? (i := 1395) (by decide +kernel))) (hs _ (by decide +kernel)) (by decide), List.forall_mem_cons.mpr ⟨hst _ _ _ (hts _ (List.mem_of_getElem? (i := 1421) (by decide +kernel))) (hs _ (by decide +kernel)) (by decide), List.forall_mem_cons.mpr ⟨hst _ _ _ (hts _ (List.mem_of_getElem? (i := 1429) (by decide +kernel))) (hs _ (by decide +kernel)) (by decide), List.forall_mem_cons.mpr ⟨hst _ _ _ (hts _ (List.mem_of_getElem? (i := 1438) (by decide +kernel))) (hs _ (by decide +kernel)) (by decide), List.forall_mem_cons.mpr ⟨hst _ _ _ (hts _ (List.mem_of_getElem? (i := 1450) (by decide +kernel))) (hs _ (by decide +kernel)) (by decide), List.forall_mem_cons.mpr ⟨hst _ _ _ (hts _ (List.mem_of_getElem? (i := 1466) (by decide +kernel))) (hs _ (by decide +kernel)) (by decide), List.forall_mem_cons.mpr ⟨hst _ _ _ (hts _ (List.mem_of_getElem? (i := 1154) (by decide +kernel))) (hs _ (by decide +kernel)) (by decide), List.forall_mem_cons.mpr ⟨hst _ _ _ (hts _ (List.mem_of_getElem? (i := 1135) (by decide +kernel))) (hs _ (by decide +kernel)) (by decide), List.forall_mem_cons.mpr ⟨hst _ _ _ (hts _ (List.mem_of_getElem? (i := 1203) (by decide +kernel))) (hs _ (by decide +kernel)) (by decide), List.forall_mem_cons.mpr ⟨hst _ _ _ (hts _ (List.mem_of_getElem? (i := 1215) (by decide +kernel))) (hs _ (by decide +kernel)) (by decide), List.forall_mem_cons.mpr ⟨hst _ _ _ (hts _ (List.mem_of_getElem? (i := 1292) (by decide +kernel))) (hs _ (by decide +kernel)) (by decide), List.forall_mem_cons.mpr ⟨hst _ _ _ (hts _ (List.mem_of_getElem? (i := 1257) (by decide +kernel))) (hs _ (by decide +kernel)) (by decide), List.forall_mem_cons.mpr ⟨⟨adK 0, vk_R.of (hts _ (List.mem_of_getElem? (i := 976) (by decide +kernel))) (had 0 (by decide)), fun i hi => by cases (Option.some.inj ((show jStrNo "round" = some 0 from by decide).symm.trans hi)); exact hρ 0 (by decide)⟩, List.forall_mem_cons.mpr ⟨⟨adK 1, vk_R.of (hts _ (List.mem_of_getElem? (i := 1075) (by decide +kernel))) (had 1 (by decide)), fun i hi => by cases (Option.some.inj ((show jStrNo "left" = some 1 from by decide).symm.trans hi)); exact hρ 1 (by decide)⟩, List.forall_mem_cons.mpr ⟨⟨adK 2, vk_R.of (hts _ (List.mem_of_getElem? (i := 1088) (by decide +kernel))) (had 2 (by decide)), fun i hi => by cases (Option.some.inj ((show jStrNo "right" = some 2 from by decide).symm.trans hi)); exact hρ 2 (by decide)⟩, List.forall_mem_cons.mpr ⟨⟨adK 3, vk_R.of (hts _ (List.mem_of_getElem? (i := 1089) (by decide +kernel))) (had 3 (by decide)), fun i hi => by cases (Option.some.inj ((show jStrNo "pass" = some 3 from by decide).symm.trans hi)); exact hρ 3 (by decide)⟩, List.forall_mem_cons.mpr ⟨⟨adK 4, vk_R.of (hts _ (List.mem_of_getElem? (i := 1094) (by decide +kernel))) (had 4 (by decide)), fun i hi => by cases (Option.some.inj ((show jStrNo "next" = some 4 from by decide).symm.trans hi)); exact hρ 4 (by decide)⟩, fun t ht => absurd ht List.not_mem_nil⟩⟩⟩⟩⟩⟩⟩⟩⟩⟩⟩⟩⟩⟩⟩⟩⟩⟩⟩⟩⟩⟩⟩
set_option maxHeartbeats 4000000 in
theorem whole_start {p : Program} {e : Env} {s : State} {m : MethodId} {below : List Frame} {meth : Method} {c : Code} (l : Launch) (hflags : l.flags = flags0) {b L : Nat} {xs : Nat → Int32} (hL : L ≤ 3072) (C0 : lw_At p s m meth c b L xs) : W p l e room_1 s m #[Value.ref b] below meth c s.heap [] 0 0 (lw_Z below #[Value.ref b] s) (entryFrame m ([Value.ref b] : List Value).toArray 9) := by
  obtain ⟨hx, hb, hr, hml, hown, hts, hX, hbl, hlocks, hgv⟩ := id C0
  have hs := flat_of_before _ hgv
  have hd0 := Drawn.sameBut.refl s.drawn lw_cs
  have hst : l.stackTraces = false := by unfold Launch.stackTraces; rw [hflags]; decide
  have hG : ∀ w ∈ jG, w.before #[Value.ref b] s = true := fun w hw => hts w (List.mem_filter.mp hw).1
  have hA : ∀ a : Nat, a < s.heap.size → ¬ (fun q : Nat => s.heap.size ≤ q) a := fun a h => Nat.not_le.mpr h
  obtain ⟨adK, adV, hS, had⟩ := lw_words hs hA
  obtain ⟨D, hK⟩ := lw_known hG
  obtain ⟨ρ0, hρ2, hρ1⟩ : ∃ ρ0 : Nat → Nat, ρ0 2000000 = b ∧ ∀ i, i < 5 → ρ0 (1000000 + i) = adK i := ⟨fun k => if k = 2000000 then b else adK (k - 1000000), if_pos rfl, fun i hi => by
    show (if 1000000 + i = 2000000 then b else adK (1000000 + i - 1000000)) = adK i
    rw [if_neg (by omega), Nat.add_sub_cancel_left]⟩
  have hS2 : vk_S 5 jLen jByt (fun i => ρ0 (1000000 + i)) adV (fun q : Nat => s.heap.size ≤ q) s s.heap := by
    refine ⟨fun i hi => ?_, fun i j hi hj e => hS.2 i j hi hj ?_⟩
    · have h := hS.1 i hi
      rw [← hρ1 i hi] at h
      exact h
    · rw [← hρ1 i hi, ← hρ1 j hj]; exact e
  have hT1 := vx_Zqof (A := fun q : Nat => s.heap.size ≤ q) (hts _ (List.mem_of_getElem? (i := 877) (by decide +kernel))) (hts _ (List.mem_of_getElem? (i := 119) (by decide +kernel))) (hs (.isRef (.static "java/lang/Throwable" "UNASSIGNED_STACK" "[Ljava/lang/StackTraceElement;")) (by decide +kernel)) hA
  have hT2 := vx_Zqof (A := fun q : Nat => s.heap.size ≤ q) (hts _ (List.mem_of_getElem? (i := 879) (by decide +kernel))) (hts _ (List.mem_of_getElem? (i := 119) (by decide +kernel))) (hs (.isRef (.static "java/lang/Throwable" "SUPPRESSED_SENTINEL" "Ljava/util/List;")) (by decide +kernel)) hA
  have hT3 := va_Zof (A := fun q : Nat => s.heap.size ≤ q) (hts _ (List.mem_of_getElem? (i := 990) (by decide +kernel))) (hts _ (List.mem_of_getElem? (i := 125) (by decide +kernel))) (va_eqt (hs (.eq (.static "java/lang/String" "COMPACT_STRINGS" "Z") (.int 1)) (by decide +kernel))) hA
  have hT4 := va_Zqof (A := fun q : Nat => s.heap.size ≤ q) (hts _ (List.mem_of_getElem? (i := 1006) (by decide +kernel))) (hts _ (List.mem_of_getElem? (i := 127) (by decide +kernel))) (hs (.isRef (.static "jdk/internal/util/Preconditions" "SIOOBE_FORMATTER" "Ljava/util/function/BiFunction;")) (by decide +kernel)) hA
  have hN : jNst s := ⟨fun own i y h hm => va_Nw.of rfl (hts _ hm), fun C T hm => va_Nw.of rfl (hts _ hm), va_AO.of (hts _ ao_6), va_Nc.of (hs (.not (.castable "java/lang/IllegalStateException" "java/lang/IndexOutOfBoundsException")) (by decide +kernel)), fun y hm => va_Nw.of rfl (hts _ hm)⟩
  have hX0 : jX0 (l, D, some (L, xs)) (fun q : Nat => s.heap.size ≤ q) ρ0 s s.heap := ⟨hT1, hT2, fun L' xs' h => by
    cases h
    rw [hρ2]
    exact ⟨hX, hbl, Nat.not_le.mpr hbl⟩, hT3, hT4, adV, hS2⟩
  have hl0 := lv_entry ([Value.ref b]) (n := 9) (Nat.le_of_ble_eq_true rfl)
  rw [lg_entry_eq]
  generalize (lg_sl ([Value.ref b]) ++ List.replicate (9 - (lg_sl ([Value.ref b])).length) Slot.unset).toArray = ls at hl0 ⊢
  have hjl : jL ρ0 0 9 (jent 9 [Value.ref 2000000]) ls := jent_L (by simp [Value.category]) (by decide) (fun v hv => by rcases List.mem_singleton.mp hv with rfl; exact Or.inr (by decide)) (by
    show lv_has ls 9 (lv_args 0 [Value.ref (ρ0 2000000)])
    rw [hρ2]
    exact hl0)
  have hJ := law_J (Γ := (l, D, some (L, xs))) hst rfl (d := 140) (by decide) hL
  refine hJ p e room_1 s m #[Value.ref b] below meth c (fun q : Nat => s.heap.size ≤ q) 0 ρ0 (lw_Z below #[Value.ref b] s) ⟨hx, hb, hml, hr, hlocks, hown, hG, by decide, by decide, hK, fun q h => h, hst, hX0, fun h => absurd h (by decide), hN, lw_strs hts hs had hρ1⟩ ⟨?_, fun M ρ κ ls H locs cells slots pc st E q ce h => absurd h id, fun M ρ κ ls H locs cells slots pc st E text names ik is ic h => absurd h id⟩ ρ0 (fun _ => m.cls) ls s.heap [] 0 0 ?_ hjl (fun v hv => absurd hv List.not_mem_nil) (by decide) (by decide)
  · intro M ρ κ ls' H locs cells slots pc v hv hW _ h1 h2 hjr
    cases hv
    rcases hjr with ⟨r1, -⟩ | ⟨ty, x, r1, r2, -, r3⟩ | ⟨x, r1, -⟩ | ⟨ty, w, r1, -⟩
    · cases r1
    · refine va_forget (fun q hq => hW.2.2.1.2.2 q hq) ?_
      refine W.widen (k := 601024) (n := 7293034) h1 h2 ?_
      exact lw_ret (d0 := s.drawn) hd0 hx hb hr hlocks r3
    · cases r1
    · cases r1
  · refine ⟨fun k q h => ?_, ⟨fun i j p q h => ?_, fun k q h => ?_⟩, va_S.rf, fun q z h => ?_, fun q i r h => ?_, Nat.zero_le _, fun _ _ => rfl⟩
    · exact absurd h (by rw [show jw ρ0 (fun _ => m.cls) (jmT 0 [] (fun _ _ => 0)) = [] from rfl]; simp)
    · exact absurd h (by rw [show jw ρ0 (fun _ => m.cls) (jmT 0 [] (fun _ _ => 0)) = [] from rfl]; simp)
    · exact absurd h (by rw [show jw ρ0 (fun _ => m.cls) (jmT 0 [] (fun _ _ => 0)) = [] from rfl]; simp)
    · exact absurd h (by rw [show (jmT 0 [] (fun _ _ => 0)).1 = [] from rfl]; simp)
    · cases h
