/-! THE CLAIM OUT OF ONE WALK OF THE LAW'S BODY. Your part is whole_start (and what it stands on); all else here is the same for every law, but numbers. -/
def R_law : String := "DominoChainsLaw"
def lw_P (b : Addr) (xs : List Int32) (args : Array Value) (s : State) : Prop := args = #[.ref b] ∧ s.IntsAt b xs ∧ xs.length ≤ 260 ∧ (Jvm.Cond.and given_1 narrow_1).before args s = true
def lw_Q (_ : Array Value) (s : State) (o : Outcome) (t : State) : Prop := o = .returned (some (.int 1)) ∧ Framed s o t [] 600086 7301442
def lw_Z (below : List Frame) (a : Array Value) (s : State) : State → Prop := fun t => ∃ o, t.status = .running ∧ Ended t below o ∧ lw_Q a s o t
/-- the law's own end, with 1 on the stack, nothing written that was there before, its room as the claim has it -/
theorem lw_ret {p : Program} {l : Launch} {e : Env} {s : State} {m : MethodId} {below : List Frame} {meth : Method} {c : Code} {b : Nat} (hx : p.tables.exec = Jvm.exec) (hb : c.code = code) (hr : meth.sig.returnType = ret) (hlocks : meth.locks = false) {pc : Nat} {H : Heap} {ls : Array Slot} (hdg : decode code pc = .ok (.ireturn, 1)) : W p l e room_1 s m #[Value.ref b] below meth c H [] 600086 7301442 (lw_Z below #[Value.ref b] s) (F0 m pc ls [.int 1]) := by
  intro T hT X
  obtain ⟨fs, hret, hrun, hended, hW, hframe⟩ := X.leave (v := some (.int 1)) (hlocks := hlocks) (fun h => by rw [hr] at h; cases h)
  have hmeth' : T.vm.method? m = some meth := X.method'
  refine ⟨T.setFrames fs, ?_, .returned (some (.int 1)), hrun, hended, rfl, ⟨_, rfl⟩, hW, hframe⟩
  jvm_step X.here [X.here.top, hx, hb, hdg, hmeth', hr, ret, narrow_b1]
  (try refine ⟨rfl, ?_⟩); (try refine ⟨rfl, ?_⟩)
  first | (intro acts; rw [hret _ acts rfl rfl rfl]) | rw [hret _ _ rfl rfl rfl]
  exact Steps.refl _
/-- what holds at the law's entry: the machine, the code, the tables' words (any of lw_tbl by 'hts w (by decide +kernel)'), the script of L ints xs at the cell b, what the Statement gives of the start (any of its parts by flat_of_before) -/
def lw_At (p : Program) (s : State) (m : MethodId) (meth : Method) (c : Code) (b L : Nat) (xs : Nat → Int32) : Prop :=
  p.tables.exec = Jvm.exec ∧ c.code = code ∧ meth.sig.returnType = ret ∧ c.maxLocals = 25 ∧ s.vm.findClass R_law = some m.cls ∧ (∀ w ∈ lw_tbl, w.before #[Value.ref b] s = true) ∧ va_X b L xs s s.heap ∧ b < s.heap.size ∧ meth.locks = false ∧ (Jvm.Cond.and given_1 narrow_1).before #[Value.ref b] s = true
def lwTm : Nat → Term := fun i => match i with
  | 0 => .string "DominoChains$Parser" 49
  | 1 => .string "DominoChains$Parser" 116
  | 2 => .string "DominoChains$Parser" 122
  | 3 => .string "DominoChains$Parser" 124
  | 4 => .string "DominoChains$Parser" 129
  | _ => .string "DominoChainsLaw" 123
theorem lw_words {args : Array Value} {s : State} (hs : ∀ w ∈ flatC (Jvm.Cond.and given_1 narrow_1), w.before args s = true) (hA : ∀ a : Nat, a < s.heap.size → ¬ (fun q : Nat => s.heap.size ≤ q) a) :
    ∃ adK adV : Nat → Nat, vk_S 6 jLen jByt adK adV (fun q : Nat => s.heap.size ≤ q) s s.heap ∧ ∀ i : Nat, i < 6 → (lwTm i).eval args s none [] s = some (.ref (adK i)) := by
  refine vk_Sof (fun i hi => ?_) (fun i hi => ?_) (fun i hi => ?_) (fun i hi => ?_) (fun i hi => ?_) (fun i hi j hj => ?_) (fun i j hi hj hij => ?_) hA
  · match i, hi with
    | 0, _ => decide
    | 1, _ => decide
    | 2, _ => decide
    | 3, _ => decide
    | 4, _ => decide
    | 5, _ => decide
    | i + 6, hi => exact absurd hi (by omega)
  · match i, hi with
    | 0, _ => exact hs _ (by decide +kernel)
    | 1, _ => exact hs _ (by decide +kernel)
    | 2, _ => exact hs _ (by decide +kernel)
    | 3, _ => exact hs _ (by decide +kernel)
    | 4, _ => exact hs _ (by decide +kernel)
    | 5, _ => exact hs _ (by decide +kernel)
    | i + 6, hi => exact absurd hi (by omega)
  · match i, hi with
    | 0, _ => exact hs _ (by decide +kernel)
    | 1, _ => exact hs _ (by decide +kernel)
    | 2, _ => exact hs _ (by decide +kernel)
    | 3, _ => exact hs _ (by decide +kernel)
    | 4, _ => exact hs _ (by decide +kernel)
    | 5, _ => exact hs _ (by decide +kernel)
    | i + 6, hi => exact absurd hi (by omega)
  · match i, hi with
    | 0, _ => exact hs _ (by decide +kernel)
    | 1, _ => exact hs _ (by decide +kernel)
    | 2, _ => exact hs _ (by decide +kernel)
    | 3, _ => exact hs _ (by decide +kernel)
    | 4, _ => exact hs _ (by decide +kernel)
    | 5, _ => exact hs _ (by decide +kernel)
    | i + 6, hi => exact absurd hi (by omega)
  · match i, hi with
    | 0, _ => exact hs _ (by decide +kernel)
    | 1, _ => exact hs _ (by decide +kernel)
    | 2, _ => exact hs _ (by decide +kernel)
    | 3, _ => exact hs _ (by decide +kernel)
    | 4, _ => exact hs _ (by decide +kernel)
    | 5, _ => exact hs _ (by decide +kernel)
    | i + 6, hi => exact absurd hi (by omega)
  · match i, hi, j, hj with
    | 0, _, 0, _ => exact hs _ (by decide +kernel)
    | 0, _, 1, _ => exact hs _ (by decide +kernel)
    | 0, _, 2, _ => exact hs _ (by decide +kernel)
    | 0, _, 3, _ => exact hs _ (by decide +kernel)
    | 0, _, 4, _ => exact hs _ (by decide +kernel)
    | 1, _, 0, _ => exact hs _ (by decide +kernel)
    | 1, _, 1, _ => exact hs _ (by decide +kernel)
    | 1, _, 2, _ => exact hs _ (by decide +kernel)
    | 1, _, 3, _ => exact hs _ (by decide +kernel)
    | 2, _, 0, _ => exact hs _ (by decide +kernel)
    | 2, _, 1, _ => exact hs _ (by decide +kernel)
    | 2, _, 2, _ => exact hs _ (by decide +kernel)
    | 2, _, 3, _ => exact hs _ (by decide +kernel)
    | 2, _, 4, _ => exact hs _ (by decide +kernel)
    | 3, _, 0, _ => exact hs _ (by decide +kernel)
    | 3, _, 1, _ => exact hs _ (by decide +kernel)
    | 3, _, 2, _ => exact hs _ (by decide +kernel)
    | 3, _, 3, _ => exact hs _ (by decide +kernel)
    | 4, _, 0, _ => exact hs _ (by decide +kernel)
    | 4, _, 1, _ => exact hs _ (by decide +kernel)
    | 4, _, 2, _ => exact hs _ (by decide +kernel)
    | 4, _, 3, _ => exact hs _ (by decide +kernel)
    | 5, _, 0, _ => exact hs _ (by decide +kernel)
    | 5, _, 1, _ => exact hs _ (by decide +kernel)
    | 5, _, 2, _ => exact hs _ (by decide +kernel)
    | 5, _, 3, _ => exact hs _ (by decide +kernel)
    | 5, _, 4, _ => exact hs _ (by decide +kernel)
    | 5, _, 5, _ => exact hs _ (by decide +kernel)
    | 0, _, j + 5, hj => exact absurd hj (by have e : jLen.getD 0 0 = 5 := rfl; omega)
    | 1, _, j + 4, hj => exact absurd hj (by have e : jLen.getD 1 0 = 4 := rfl; omega)
    | 2, _, j + 5, hj => exact absurd hj (by have e : jLen.getD 2 0 = 5 := rfl; omega)
    | 3, _, j + 4, hj => exact absurd hj (by have e : jLen.getD 3 0 = 4 := rfl; omega)
    | 4, _, j + 4, hj => exact absurd hj (by have e : jLen.getD 4 0 = 4 := rfl; omega)
    | 5, _, j + 6, hj => exact absurd hj (by have e : jLen.getD 5 0 = 6 := rfl; omega)
    | i + 6, hi, _, _ => exact absurd hi (by omega)
  · match i, j, hi, hj with
    | 0, 0, _, _ => exact absurd rfl hij
    | 0, 1, _, _ => exact Or.inl (hs _ (by decide +kernel))
    | 0, 2, _, _ => exact Or.inl (hs _ (by decide +kernel))
    | 0, 3, _, _ => exact Or.inl (hs _ (by decide +kernel))
    | 0, 4, _, _ => exact Or.inl (hs _ (by decide +kernel))
    | 0, 5, _, _ => exact Or.inl (hs _ (by decide +kernel))
    | 1, 0, _, _ => exact Or.inr (hs _ (by decide +kernel))
    | 1, 1, _, _ => exact absurd rfl hij
    | 1, 2, _, _ => exact Or.inl (hs _ (by decide +kernel))
    | 1, 3, _, _ => exact Or.inl (hs _ (by decide +kernel))
    | 1, 4, _, _ => exact Or.inl (hs _ (by decide +kernel))
    | 1, 5, _, _ => exact Or.inl (hs _ (by decide +kernel))
    | 2, 0, _, _ => exact Or.inr (hs _ (by decide +kernel))
    | 2, 1, _, _ => exact Or.inr (hs _ (by decide +kernel))
    | 2, 2, _, _ => exact absurd rfl hij
    | 2, 3, _, _ => exact Or.inl (hs _ (by decide +kernel))
    | 2, 4, _, _ => exact Or.inl (hs _ (by decide +kernel))
    | 2, 5, _, _ => exact Or.inl (hs _ (by decide +kernel))
    | 3, 0, _, _ => exact Or.inr (hs _ (by decide +kernel))
    | 3, 1, _, _ => exact Or.inr (hs _ (by decide +kernel))
    | 3, 2, _, _ => exact Or.inr (hs _ (by decide +kernel))
    | 3, 3, _, _ => exact absurd rfl hij
    | 3, 4, _, _ => exact Or.inl (hs _ (by decide +kernel))
    | 3, 5, _, _ => exact Or.inl (hs _ (by decide +kernel))
    | 4, 0, _, _ => exact Or.inr (hs _ (by decide +kernel))
    | 4, 1, _, _ => exact Or.inr (hs _ (by decide +kernel))
    | 4, 2, _, _ => exact Or.inr (hs _ (by decide +kernel))
    | 4, 3, _, _ => exact Or.inr (hs _ (by decide +kernel))
    | 4, 4, _, _ => exact absurd rfl hij
    | 4, 5, _, _ => exact Or.inl (hs _ (by decide +kernel))
    | 5, 0, _, _ => exact Or.inr (hs _ (by decide +kernel))
    | 5, 1, _, _ => exact Or.inr (hs _ (by decide +kernel))
    | 5, 2, _, _ => exact Or.inr (hs _ (by decide +kernel))
    | 5, 3, _, _ => exact Or.inr (hs _ (by decide +kernel))
    | 5, 4, _, _ => exact Or.inr (hs _ (by decide +kernel))
    | 5, 5, _, _ => exact absurd rfl hij
    | i + 6, _, hi, _ => exact absurd hi (by omega)
    | _, j + 6, _, hj => exact absurd hj (by omega)
theorem lw_known {args : Array Value} {s : State} (hG : ∀ w ∈ jG, w.before args s = true) : ∃ D : va_G, va_K D vwCl [] s := by
  obtain ⟨c0, i0, k0⟩ := u_known (C := RX0) (T := TX0) (N := 3) (n := 3) hG uX0 (hG _ iX0)
  obtain ⟨c1, i1, k1⟩ := u_known (C := RX1) (T := TX1) (N := 6) (n := 6) hG uX1 (hG _ iX1)
  obtain ⟨c2, i2, k2⟩ := u_known (C := RX2) (T := TX2) (N := 2) (n := 2) hG uX2 (hG _ iX2)
  obtain ⟨c3, i3, k3⟩ := u_known (C := RX3) (T := TX3) (N := 6) (n := 6) hG uX3 (hG _ iX3)
  obtain ⟨c4, i4, k4⟩ := u_known (C := RX4) (T := TX4) (N := 5) (n := 5) hG uX4 (hG _ iX4)
  obtain ⟨c5, i5, k5⟩ := u_known (C := RX5) (T := TX5) (N := 13) (n := 13) hG uX5 (hG _ iX5)
  obtain ⟨c6, i6, k6⟩ := u_known (C := RX6) (T := TX6) (N := 13) (n := 13) hG uX6 (hG _ iX6)
  obtain ⟨c7, i7, k7⟩ := u_known (C := RX7) (T := TX7) (N := 2) (n := 2) hG uX7 (hG _ iX7)
  obtain ⟨c8, i8, k8⟩ := u_known (C := RX8) (T := TX8) (N := 12) (n := 12) hG uX8 (hG _ iX8)
  obtain ⟨c9, i9, k9⟩ := u_known (C := RJ0) (T := TJ0) (N := 4) (n := 4) hG uJ0 (hG _ iJ0)
  obtain ⟨c10, i10, k10⟩ := u_known (C := RJ4) (T := TJ4) (N := 4) (n := 4) hG uJ4 (hG _ iJ4)
  refine ⟨(fun k => match k with | 0 => c0 | 1 => c1 | 2 => c2 | 3 => c3 | 4 => c4 | 5 => c5 | 6 => c6 | 7 => c7 | 8 => c8 | 9 => c9 | _ => c10, fun k => match k with | 0 => i0 | 1 => i1 | 2 => i2 | 3 => i3 | 4 => i4 | 5 => i5 | 6 => i6 | 7 => i7 | 8 => i8 | 9 => i9 | _ => i10), fun k q hq => ?_, fun k q h => by simp at h⟩
  match k, hq with
  | 0, hq => cases hq; exact k0
  | 1, hq => cases hq; exact k1
  | 2, hq => cases hq; exact k2
  | 3, hq => cases hq; exact k3
  | 4, hq => cases hq; exact k4
  | 5, hq => cases hq; exact k5
  | 6, hq => cases hq; exact k6
  | 7, hq => cases hq; exact k7
  | 8, hq => cases hq; exact k8
  | 9, hq => cases hq; exact k9
  | 10, hq => cases hq; exact k10
  | k + 11, hq => simp [vwCl] at hq
theorem lw_strs {args : Array Value} {s : State} (hts : ∀ w ∈ lw_tbl, w.before args s = true) (hs : ∀ w ∈ flatC (Jvm.Cond.and given_1 narrow_1), w.before args s = true) {adK ρ0 : Nat → Nat} (had : ∀ i : Nat, i < 6 → (lwTm i).eval args s none [] s = some (.ref (adK i))) (hρ : ∀ i, i < 6 → ρ0 (1000000 + i) = adK i) :
    ∀ t ∈ jStr, ∃ a, vk_R t.1 t.2.1 t.2.2 a s ∧ (∀ i, jStrNo t.2.2 = some i → ρ0 (1000000 + i) = a) := by
  have hst : ∀ (own : String) (k : Nat) (tx : String), (Cond.stringRef own k tx).before args s = true → (Cond.exactly (.string own k) "java/lang/String").before args s = true → jStrNo tx = none → ∃ a, vk_R own k tx a s ∧ (∀ i, jStrNo tx = some i → ρ0 (1000000 + i) = a) := fun own k tx h1 h2 h3 => by
    obtain ⟨a, c, cA, kA, q1, -⟩ := Cond.exactly_spec (args := args) (first := s) (o := none) (s := s) (idx := []) (t := .string own k) (cls := "java/lang/String") h2
    exact ⟨a, vk_R.of h1 q1, fun i hi => by rw [h3] at hi; cases hi⟩
  exact List.forall_mem_cons.mpr ⟨hst _ _ _ (hts _ (List.mem_of_getElem? (i := 842) (by decide +kernel))) (hs _ (by decide +kernel)) (by decide), List.forall_mem_cons.mpr ⟨hst _ _ _ (hts _ (List.mem_of_getElem? (i := 747) (by decide +kernel))) (hs _ (by decide +kernel)) (by decide), List.forall_mem_cons.mpr ⟨hst _ _ _ (hts _ (List.mem_of_getElem? (i := 968) (by decide +kernel))) (hs _ (by decide +kernel)) (by decide), List.forall_mem_cons.mpr ⟨hst _ _ _ (hts _ (List.mem_of_getElem? (i := 1097) (by decide +kernel))) (hs _ (by decide +kernel)) (by decide), List.forall_mem_cons.mpr ⟨hst _ _ _ (hts _ (List.mem_of_getElem? (i := 1394) (by decide +kernel))) (hs _ (by decide +kernel)) (by decide), List.forall_mem_cons.mpr ⟨hst _ _ _ (hts _ (List.mem_of_getElem? (i := 1115) (by decide +kernel))) (hs _ (by decide +kernel)) (by decide), List.forall_mem_cons.mpr ⟨hst _ _ _ (hts _ (List.mem_of_getElem? (i := 1055) (by decide +kernel))) (hs _ (by decide +kernel)) (by decide), List.forall_mem_cons.mpr ⟨hst _ _ _ (hts _ (List.mem_of_getElem? (i := 1050) (by decide +kernel))) (hs _ (by decide +kernel)) (by decide), List.forall_mem_cons.mpr ⟨hst _ _ _ (hts _ (List.mem_of_getElem? (i := 998) (by decide +kernel))) (hs _ (by decide +kernel)) (by decide), List.forall_mem_cons.mpr ⟨hst _ _ _ (hts _ (List.mem_of_getElem? (i := 1021) (by decide +kernel))) (hs _ (by decide +kernel)) (by decide), List.forall_mem_cons.mpr ⟨hst _ _ _ (hts _ (List.mem_of_getElem? (i := 1068) (by decide +kernel))) (hs _ (by decide +kernel)) (by decide), List.forall_mem_cons.mpr ⟨⟨adK 0, vk_R.of (hts _ (List.mem_of_getElem? (i := 879) (by decide +kernel))) (had 0 (by decide)), fun i hi => by cases (Option.some.inj ((show jStrNo "round" = some 0 from by decide).symm.trans hi)); exact hρ 0 (by decide)⟩, List.forall_mem_cons.mpr ⟨⟨adK 1, vk_R.of (hts _ (List.mem_of_getElem? (i := 932) (by decide +kernel))) (had 1 (by decide)), fun i hi => by cases (Option.some.inj ((show jStrNo "left" = some 1 from by decide).symm.trans hi)); exact hρ 1 (by decide)⟩, List.forall_mem_cons.mpr ⟨⟨adK 2, vk_R.of (hts _ (List.mem_of_getElem? (i := 945) (by decide +kernel))) (had 2 (by decide)), fun i hi => by cases (Option.some.inj ((show jStrNo "right" = some 2 from by decide).symm.trans hi)); exact hρ 2 (by decide)⟩, List.forall_mem_cons.mpr ⟨⟨adK 3, vk_R.of (hts _ (List.mem_of_getElem? (i := 946) (by decide +kernel))) (had 3 (by decide)), fun i hi => by cases (Option.some.inj ((show jStrNo "pass" = some 3 from by decide).symm.trans hi)); exact hρ 3 (by decide)⟩, List.forall_mem_cons.mpr ⟨⟨adK 4, vk_R.of (hts _ (List.mem_of_getElem? (i := 951) (by decide +kernel))) (had 4 (by decide)), fun i hi => by cases (Option.some.inj ((show jStrNo "next" = some 4 from by decide).symm.trans hi)); exact hρ 4 (by decide)⟩, List.forall_mem_cons.mpr ⟨⟨adK 5, vk_R.of (hts _ (List.mem_of_getElem? (i := 1150) (by decide +kernel))) (had 5 (by decide)), fun i hi => by cases (Option.some.inj ((show jStrNo "round " = some 5 from by decide).symm.trans hi)); exact hρ 5 (by decide)⟩, fun t ht => absurd ht List.not_mem_nil⟩⟩⟩⟩⟩⟩⟩⟩⟩⟩⟩⟩⟩⟩⟩⟩⟩
theorem lw_dig0 : ∀ j : Fin 10, Cond.eq (.elem (.static "java/lang/Integer" "DigitOnes" "[B") (.int (Int32.ofNat (j.val + 0)))) (.int (Int32.ofNat (48 + (j.val + 0) % 10))) ∈ flatC (Jvm.Cond.and given_1 narrow_1) := by decide +kernel
theorem lw_dig1 : ∀ j : Fin 10, Cond.eq (.elem (.static "java/lang/Integer" "DigitOnes" "[B") (.int (Int32.ofNat (j.val + 10)))) (.int (Int32.ofNat (48 + (j.val + 10) % 10))) ∈ flatC (Jvm.Cond.and given_1 narrow_1) := by decide +kernel
theorem lw_dig2 : ∀ j : Fin 10, Cond.eq (.elem (.static "java/lang/Integer" "DigitOnes" "[B") (.int (Int32.ofNat (j.val + 20)))) (.int (Int32.ofNat (48 + (j.val + 20) % 10))) ∈ flatC (Jvm.Cond.and given_1 narrow_1) := by decide +kernel
theorem lw_dig3 : ∀ j : Fin 10, Cond.eq (.elem (.static "java/lang/Integer" "DigitOnes" "[B") (.int (Int32.ofNat (j.val + 30)))) (.int (Int32.ofNat (48 + (j.val + 30) % 10))) ∈ flatC (Jvm.Cond.and given_1 narrow_1) := by decide +kernel
theorem lw_dig4 : ∀ j : Fin 10, Cond.eq (.elem (.static "java/lang/Integer" "DigitOnes" "[B") (.int (Int32.ofNat (j.val + 40)))) (.int (Int32.ofNat (48 + (j.val + 40) % 10))) ∈ flatC (Jvm.Cond.and given_1 narrow_1) := by decide +kernel
theorem lw_dig5 : ∀ j : Fin 10, Cond.eq (.elem (.static "java/lang/Integer" "DigitOnes" "[B") (.int (Int32.ofNat (j.val + 50)))) (.int (Int32.ofNat (48 + (j.val + 50) % 10))) ∈ flatC (Jvm.Cond.and given_1 narrow_1) := by decide +kernel
theorem lw_dig6 : ∀ j : Fin 10, Cond.eq (.elem (.static "java/lang/Integer" "DigitOnes" "[B") (.int (Int32.ofNat (j.val + 60)))) (.int (Int32.ofNat (48 + (j.val + 60) % 10))) ∈ flatC (Jvm.Cond.and given_1 narrow_1) := by decide +kernel
theorem lw_dig7 : ∀ j : Fin 10, Cond.eq (.elem (.static "java/lang/Integer" "DigitOnes" "[B") (.int (Int32.ofNat (j.val + 70)))) (.int (Int32.ofNat (48 + (j.val + 70) % 10))) ∈ flatC (Jvm.Cond.and given_1 narrow_1) := by decide +kernel
theorem lw_dig8 : ∀ j : Fin 10, Cond.eq (.elem (.static "java/lang/Integer" "DigitOnes" "[B") (.int (Int32.ofNat (j.val + 80)))) (.int (Int32.ofNat (48 + (j.val + 80) % 10))) ∈ flatC (Jvm.Cond.and given_1 narrow_1) := by decide +kernel
theorem lw_dig9 : ∀ j : Fin 10, Cond.eq (.elem (.static "java/lang/Integer" "DigitOnes" "[B") (.int (Int32.ofNat (j.val + 90)))) (.int (Int32.ofNat (48 + (j.val + 90) % 10))) ∈ flatC (Jvm.Cond.and given_1 narrow_1) := by decide +kernel
theorem lw_dig (j : Nat) (hj : j < 100) : Cond.eq (.elem (.static "java/lang/Integer" "DigitOnes" "[B") (.int (Int32.ofNat j))) (.int (Int32.ofNat (48 + j % 10))) ∈ flatC (Jvm.Cond.and given_1 narrow_1) := by
  by_cases h0 : j < 10
  · have := lw_dig0 ⟨j - 0, by omega⟩
    rwa [show (⟨j - 0, by omega⟩ : Fin 10).val + 0 = j from by show j - 0 + 0 = j; omega] at this
  by_cases h1 : j < 20
  · have := lw_dig1 ⟨j - 10, by omega⟩
    rwa [show (⟨j - 10, by omega⟩ : Fin 10).val + 10 = j from by show j - 10 + 10 = j; omega] at this
  by_cases h2 : j < 30
  · have := lw_dig2 ⟨j - 20, by omega⟩
    rwa [show (⟨j - 20, by omega⟩ : Fin 10).val + 20 = j from by show j - 20 + 20 = j; omega] at this
  by_cases h3 : j < 40
  · have := lw_dig3 ⟨j - 30, by omega⟩
    rwa [show (⟨j - 30, by omega⟩ : Fin 10).val + 30 = j from by show j - 30 + 30 = j; omega] at this
  by_cases h4 : j < 50
  · have := lw_dig4 ⟨j - 40, by omega⟩
    rwa [show (⟨j - 40, by omega⟩ : Fin 10).val + 40 = j from by show j - 40 + 40 = j; omega] at this
  by_cases h5 : j < 60
  · have := lw_dig5 ⟨j - 50, by omega⟩
    rwa [show (⟨j - 50, by omega⟩ : Fin 10).val + 50 = j from by show j - 50 + 50 = j; omega] at this
  by_cases h6 : j < 70
  · have := lw_dig6 ⟨j - 60, by omega⟩
    rwa [show (⟨j - 60, by omega⟩ : Fin 10).val + 60 = j from by show j - 60 + 60 = j; omega] at this
  by_cases h7 : j < 80
  · have := lw_dig7 ⟨j - 70, by omega⟩
    rwa [show (⟨j - 70, by omega⟩ : Fin 10).val + 70 = j from by show j - 70 + 70 = j; omega] at this
  by_cases h8 : j < 90
  · have := lw_dig8 ⟨j - 80, by omega⟩
    rwa [show (⟨j - 80, by omega⟩ : Fin 10).val + 80 = j from by show j - 80 + 80 = j; omega] at this
  by_cases h9 : j < 100
  · have := lw_dig9 ⟨j - 90, by omega⟩
    rwa [show (⟨j - 90, by omega⟩ : Fin 10).val + 90 = j from by show j - 90 + 90 = j; omega] at this
  omega
theorem lw_sub {y y9 : MethodName} {s : State} {args : Array Value} {C C9 : String} {n : Nat} (hy : y.cls ≠ "java/lang/invoke/MethodHandle" ∧ y.cls ≠ "java/lang/invoke/VarHandle") (hins : (Cond.instantiable C n).before args s = true) (h9 : y9.cls = y.cls) (hsel : (Cond.selects C9 y9 y9).before args s = true)
    (hpriv : (Cond.privateMethod y).before args s = true) (hinst : (Cond.instanceMethod y).before args s = true) : (Cond.selects C y y).before args s = true := by
  obtain ⟨c, k, hc, hk, -, -, -, -⟩ := Cond.instantiable_spec hins
  obtain ⟨mk, methM, hnamed, hmethM, -, -⟩ := Cond.instanceMethod_spec hinst
  have hfound : s.methodFound? y.cls y.name y.desc = some mk := State.methodFound?_of_named hnamed hy
  obtain ⟨c2, r2, m2, u1, u2, u3, u4, kP, hkP, hkPi⟩ := Cond.selects_spec hsel
  have hcls : mk.cls = m2.cls := Option.some.inj ((findClass_of_methodNamed hnamed).symm.trans (by rw [← h9]; exact findClass_of_methodNamed u3))
  have hs : selectMethod {} s.vm c mk = .method mk := selectMethod_private hmethM (Cond.privateMethod_at hpriv mk methM hnamed hmethM)
  rw [← hcls] at hkP
  simp only [Cond.before, Cond.holds, Cond.value, hc, hfound, hnamed, hs, hkP]
  simp; exact hkPi
theorem lw_ps {args : Array Value} {s : State} (hts : ∀ w ∈ lw_tbl, w.before args s = true) : ∀ w ∈ jPs, w.before args s = true := by
  have h1 : (Cond.instantiable "java/lang/StringBuilder" 4).before args s = true := hts _ (List.mem_of_getElem? (i := 1121) (by decide +kernel))
  have h2 : (Cond.selects "java/lang/StringBuilder" ⟨"java/lang/AbstractStringBuilder", "isLatin1", "()Z"⟩ ⟨"java/lang/AbstractStringBuilder", "isLatin1", "()Z"⟩).before args s = true := hts _ (List.mem_of_getElem? (i := 1194) (by decide +kernel))
  intro w hw
  obtain ⟨y, hy, rfl⟩ := List.mem_map.mp hw
  unfold jPm at hy
  simp only [List.mem_cons, List.not_mem_nil, or_false] at hy
  rcases hy with rfl | rfl | rfl | rfl
  · have p1 : (Cond.privateMethod ⟨"java/lang/AbstractStringBuilder", "ensureCapacityInternal", "(I)V"⟩).before args s = true := hts _ (List.mem_of_getElem? (i := 1163) (by decide +kernel))
    have p2 : (Cond.instanceMethod ⟨"java/lang/AbstractStringBuilder", "ensureCapacityInternal", "(I)V"⟩).before args s = true := hts _ (List.mem_of_getElem? (i := 1164) (by decide +kernel))
    exact lw_sub (y := ⟨"java/lang/AbstractStringBuilder", "ensureCapacityInternal", "(I)V"⟩) (y9 := ⟨"java/lang/AbstractStringBuilder", "isLatin1", "()Z"⟩) ⟨by decide +kernel, by decide +kernel⟩ h1 rfl h2 p1 p2
  · have p1 : (Cond.privateMethod ⟨"java/lang/AbstractStringBuilder", "newCapacity", "(I)I"⟩).before args s = true := hts _ (List.mem_of_getElem? (i := 1167) (by decide +kernel))
    have p2 : (Cond.instanceMethod ⟨"java/lang/AbstractStringBuilder", "newCapacity", "(I)I"⟩).before args s = true := hts _ (List.mem_of_getElem? (i := 1168) (by decide +kernel))
    exact lw_sub (y := ⟨"java/lang/AbstractStringBuilder", "newCapacity", "(I)I"⟩) (y9 := ⟨"java/lang/AbstractStringBuilder", "isLatin1", "()Z"⟩) ⟨by decide +kernel, by decide +kernel⟩ h1 rfl h2 p1 p2
  · have p1 : (Cond.privateMethod ⟨"java/lang/AbstractStringBuilder", "putStringAt", "(ILjava/lang/String;)V"⟩).before args s = true := hts _ (List.mem_of_getElem? (i := 1213) (by decide +kernel))
    have p2 : (Cond.instanceMethod ⟨"java/lang/AbstractStringBuilder", "putStringAt", "(ILjava/lang/String;)V"⟩).before args s = true := hts _ (List.mem_of_getElem? (i := 1214) (by decide +kernel))
    exact lw_sub (y := ⟨"java/lang/AbstractStringBuilder", "putStringAt", "(ILjava/lang/String;)V"⟩) (y9 := ⟨"java/lang/AbstractStringBuilder", "isLatin1", "()Z"⟩) ⟨by decide +kernel, by decide +kernel⟩ h1 rfl h2 p1 p2
  · have p1 : (Cond.privateMethod ⟨"java/lang/AbstractStringBuilder", "inflateIfNeededFor", "(Ljava/lang/String;)V"⟩).before args s = true := hts _ (List.mem_of_getElem? (i := 1217) (by decide +kernel))
    have p2 : (Cond.instanceMethod ⟨"java/lang/AbstractStringBuilder", "inflateIfNeededFor", "(Ljava/lang/String;)V"⟩).before args s = true := hts _ (List.mem_of_getElem? (i := 1218) (by decide +kernel))
    exact lw_sub (y := ⟨"java/lang/AbstractStringBuilder", "inflateIfNeededFor", "(Ljava/lang/String;)V"⟩) (y9 := ⟨"java/lang/AbstractStringBuilder", "isLatin1", "()Z"⟩) ⟨by decide +kernel, by decide +kernel⟩ h1 rfl h2 p1 p2
theorem lw_ai {args : Array Value} {s : State} (h : (Cond.arrayOver (.array .int)).before args s = true) : jAI s := by
  have es : (FieldType.array .int).toString = "[I" := by decide +kernel
  have e2 : "[" ++ (FieldType.array .int).toString = "[[I" := by decide +kernel
  simp only [Cond.before, Cond.holds, Cond.value, beq_iff_eq] at h
  cases hc : s.vm.findClass (FieldType.array .int).toString with
  | none => simp [hc] at h
  | some comp =>
    simp only [hc, Option.bind_some, Option.bind_eq_some_iff, Option.map_eq_some_iff] at h
    obtain ⟨c, hi, k, hk, hb⟩ := h
    obtain ⟨hlt, hp, -⟩ := Array.findIdx?_eq_some_iff_getElem.mp hi
    have hkk : s.vm.classes[c] = k := (Array.getElem?_eq_some_iff.mp hk).2
    rw [hkk] at hp
    rw [es] at hc
    cases hkind : k.kind with
    | array component ty =>
      rw [hkind] at hb hp
      simp at hb hp
      refine ⟨comp, c, k, hc, hi, hk, by rw [hkind, hp, hb.1], ?_⟩
      rw [← e2]; exact hb.2
    | _ => rw [hkind] at hb; simp at hb
set_option maxHeartbeats 4000000 in
theorem whole_start {p : Program} {e : Env} {s : State} {m : MethodId} {below : List Frame} {meth : Method} {c : Code} (l : Launch) (hflags : l.flags = flags0) {b L : Nat} {xs : Nat → Int32} (hL : L ≤ 260) (C0 : lw_At p s m meth c b L xs) : W p l e room_1 s m #[Value.ref b] below meth c s.heap [] 0 0 (lw_Z below #[Value.ref b] s) (entryFrame m ([Value.ref b] : List Value).toArray 25) := by
  obtain ⟨hx, hb, hr, hml, hown, hts, hX, hbl, hlocks, hgv⟩ := id C0
  have hs := flat_of_before _ hgv
  have hst : l.stackTraces = false := by unfold Launch.stackTraces; rw [hflags]; decide
  have hG : ∀ w ∈ jG, w.before #[Value.ref b] s = true := fun w hw => by
    rcases List.mem_append.mp hw with h | h
    · exact lw_ps hts w h
    · exact hts w (List.mem_filter.mp h).1
  have hA : ∀ a : Nat, a < s.heap.size → ¬ (fun q : Nat => s.heap.size ≤ q) a := fun a h => Nat.not_le.mpr h
  obtain ⟨adK, adV, hS, had⟩ := lw_words hs hA
  obtain ⟨D, hK⟩ := lw_known hG
  obtain ⟨tD, htD, hTD⟩ := va_Tof (tm := (.static "java/lang/Integer" "DigitOnes" "[B")) (ty := .byte) (N := 100) (f := fun i => .int (Int32.ofNat (48 + i % 10))) (A := fun q : Nat => s.heap.size ≤ q) (by decide) (hs (.arrayOf (.static "java/lang/Integer" "DigitOnes" "[B") .byte) (by decide +kernel)) (va_eqt (hs (.eq (.length (.static "java/lang/Integer" "DigitOnes" "[B")) (.int 100)) (by decide +kernel))) (fun j hj => va_eqt (hs _ (lw_dig j hj))) hA
  obtain ⟨ρ0, hρ2, hρ3, hρ1⟩ : ∃ ρ0 : Nat → Nat, ρ0 2000000 = b ∧ ρ0 2000001 = tD ∧ ∀ i, i < 6 → ρ0 (1000000 + i) = adK i := ⟨fun k => if k = 2000000 then b else if k = 2000001 then tD else adK (k - 1000000), if_pos rfl, (if_neg (by decide)).trans (if_pos rfl), fun i hi => by
    show (if 1000000 + i = 2000000 then b else if 1000000 + i = 2000001 then tD else adK (1000000 + i - 1000000)) = adK i
    rw [if_neg (by omega), if_neg (by omega), Nat.add_sub_cancel_left]⟩
  have hS2 : vk_S 6 jLen jByt (fun i => ρ0 (1000000 + i)) adV (fun q : Nat => s.heap.size ≤ q) s s.heap := by
    refine ⟨fun i hi => ?_, fun i j hi hj e => hS.2 i j hi hj ?_⟩
    · have h := hS.1 i hi
      rw [← hρ1 i hi] at h
      exact h
    · rw [← hρ1 i hi, ← hρ1 j hj]; exact e
  have hT1 := vx_Zqof (A := fun q : Nat => s.heap.size ≤ q) (hts _ (List.mem_of_getElem? (i := 732) (by decide +kernel))) (hts _ (List.mem_of_getElem? (i := 61) (by decide +kernel))) (hs (.isRef (.static "java/lang/Throwable" "UNASSIGNED_STACK" "[Ljava/lang/StackTraceElement;")) (by decide +kernel)) hA
  have hT2 := vx_Zqof (A := fun q : Nat => s.heap.size ≤ q) (hts _ (List.mem_of_getElem? (i := 734) (by decide +kernel))) (hts _ (List.mem_of_getElem? (i := 61) (by decide +kernel))) (hs (.isRef (.static "java/lang/Throwable" "SUPPRESSED_SENTINEL" "Ljava/util/List;")) (by decide +kernel)) hA
  have hT3 := va_Zof (A := fun q : Nat => s.heap.size ≤ q) (hts _ (List.mem_of_getElem? (i := 783) (by decide +kernel))) (hts _ (List.mem_of_getElem? (i := 52) (by decide +kernel))) (va_eqt (hs (.eq (.static "java/lang/String" "COMPACT_STRINGS" "Z") (.int 1)) (by decide +kernel))) hA
  have hT4 := va_Zqof (A := fun q : Nat => s.heap.size ≤ q) (hts _ (List.mem_of_getElem? (i := 806) (by decide +kernel))) (hts _ (List.mem_of_getElem? (i := 57) (by decide +kernel))) (hs (.isRef (.static "jdk/internal/util/Preconditions" "SIOOBE_FORMATTER" "Ljava/util/function/BiFunction;")) (by decide +kernel)) hA
  have hT5 := va_Zof (A := fun q : Nat => s.heap.size ≤ q) (hts _ (List.mem_of_getElem? (i := 1273) (by decide +kernel))) (hts _ (List.mem_of_getElem? (i := 60) (by decide +kernel))) htD hA
  have hXd : jXd (fun q : Nat => s.heap.size ≤ q) ρ0 s s.heap := by
    unfold jXd
    rw [hρ3]
    exact ⟨hT5, hTD⟩
  have hN : jNst s := ⟨fun own i y h hm => va_Nw.of rfl (hts _ hm), fun C T hm => va_Nw.of rfl (hts _ hm), ⟨va_AO.of (hts _ ao_6), lw_ai (hts _ (List.mem_of_getElem? (i := 1423) (by decide +kernel)))⟩, va_Nc.of (hs (.not (.castable "java/lang/IllegalStateException" "java/lang/IndexOutOfBoundsException")) (by decide +kernel)), fun y hm => va_Nw.of rfl (hts _ hm)⟩
  have hX0 : jX0 (l, D, some (L, xs)) (fun q : Nat => s.heap.size ≤ q) ρ0 s s.heap := ⟨hT1, hT2, fun L' xs' h => by
    cases h
    rw [hρ2]
    exact ⟨hX, hbl, Nat.not_le.mpr hbl⟩, hXd, hT3, hT4, adV, hS2⟩
  have hl0 := lv_entry ([Value.ref b]) (n := 25) (Nat.le_of_ble_eq_true rfl)
  rw [lg_entry_eq]
  generalize (lg_sl ([Value.ref b]) ++ List.replicate (25 - (lg_sl ([Value.ref b])).length) Slot.unset).toArray = ls at hl0 ⊢
  have hjl : jL ρ0 0 25 (jent 25 [Value.ref 2000000]) ls := jent_L (by simp [Value.category]) (by decide) (fun v hv => by rcases List.mem_singleton.mp hv with rfl; exact Or.inr (by decide)) (by
    show lv_has ls 25 (lv_args 0 [Value.ref (ρ0 2000000)])
    rw [hρ2]
    exact hl0)
  have hJ := law_J (Γ := (l, D, some (L, xs))) hst rfl (d := 140) (by decide) (Nat.le_trans hL (by decide))
  refine hJ p e room_1 s m #[Value.ref b] below meth c (fun q : Nat => s.heap.size ≤ q) 0 ρ0 (lw_Z below #[Value.ref b] s) ⟨hx, hb, hml, hr, hlocks, hown, hG, by decide, by decide, hK, fun q h => h, hst, hX0, fun h => absurd h (by decide), hN, lw_strs hts hs had hρ1⟩ ⟨?_, fun M ρ κ ls H locs cells slots pc st E q ce h => absurd h id, fun M ρ κ ls H locs cells slots pc st E text names ik is ic h => absurd h id⟩ ρ0 (fun _ => m.cls) ls s.heap [] 0 0 ?_ hjl (fun v hv => absurd hv List.not_mem_nil) (by decide) (by decide)
  · intro M ρ κ ls' H locs cells slots pc v hv hW _ h1 h2 hjr
    cases hv
    rcases hjr with ⟨r1, -⟩ | ⟨ty, x, r1, r2, -, r3⟩ | ⟨x, r1, -⟩ | ⟨ty, w, r1, r0, -⟩
    · cases r1
    · refine va_forget (fun q hq => hW.2.2.1.2.2 q hq) ?_
      refine W.widen (k := 600086) (n := 7301442) h1 h2 ?_
      exact lw_ret hx hb hr hlocks r3
    · cases r1
    · cases r1; rcases r0 with ⟨_, h⟩ | ⟨_, h⟩ <;> cases h
  · refine ⟨fun k q h => ?_, ⟨fun i j p q h => ?_, fun k q h => ?_⟩, va_S.rf, fun q z h => ?_, fun q i r h => ?_, Nat.zero_le _, fun _ _ => rfl⟩
    · exact absurd h (by rw [show jw ρ0 (fun _ => m.cls) (jmT 0 [] (fun _ _ => 0)) = [] from rfl]; simp)
    · exact absurd h (by rw [show jw ρ0 (fun _ => m.cls) (jmT 0 [] (fun _ _ => 0)) = [] from rfl]; simp)
    · exact absurd h (by rw [show jw ρ0 (fun _ => m.cls) (jmT 0 [] (fun _ _ => 0)) = [] from rfl]; simp)
    · exact absurd h (by rw [show (jmT 0 [] (fun _ _ => 0)).1 = [] from rfl]; simp)
    · cases h
