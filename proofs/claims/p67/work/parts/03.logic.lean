section JL
/-- a method: its name, code, number of locals, return type -/
abbrev jMI : Type := MethodName × ByteArray × Nat × Option FieldType
/-- a memory: the cells' kinds and lengths; references, ints, longs, doubles by cell and place -/
abbrev jM : Type := List (Nat × Nat) × (Nat → Nat → Option Nat) × (Nat → Nat → Int32) × (Nat → Nat → Int64) × (Nat → Nat → UInt64)
/-- what a walk is relative to: the launch, the classes' numbers and slots, the script of the law (its number is 2000000) -/
abbrev jE : Type := Launch × va_G × Option (Nat × (Nat → Int32))
/-- the private methods of AbstractStringBuilder, for a receiver of the subclass -/
def jPm : List MethodName := [⟨"java/lang/AbstractStringBuilder", "ensureCapacityInternal", "(I)V"⟩, ⟨"java/lang/AbstractStringBuilder", "newCapacity", "(I)I"⟩, ⟨"java/lang/AbstractStringBuilder", "putStringAt", "(ILjava/lang/String;)V"⟩, ⟨"java/lang/AbstractStringBuilder", "inflateIfNeededFor", "(Ljava/lang/String;)V"⟩]
def jPs : List Cond := jPm.map fun y => Cond.selects "java/lang/StringBuilder" y y
def jG : List Cond := jPs ++ lw_tbl.filter goodWord
theorem jG_in {w : Cond} (h : w ∈ lw_tbl) (hg : goodWord w = true) : w ∈ jG := List.mem_append_right _ (List.mem_filter.mpr ⟨h, hg⟩)
theorem jG_ok {w : Cond} (h : w ∈ jG) : goodWord w = true := by
  rcases List.mem_append.mp h with h | h
  · obtain ⟨y, -, rfl⟩ := List.mem_map.mp h; rfl
  · exact (List.mem_filter.mp h).2
theorem jG_mem {w : Cond} (i : Nat) (h : lw_tbl[i]? = some w) (hg : goodWord w = true) : w ∈ jG := jG_in (List.mem_of_getElem? h) hg
theorem jG_good {w : Cond} (h : w ∈ jG) : (w.onTables && w.keeps) = true ∨ ∃ ty, w = .arrayClass ty := good_of_word (jG_ok h)
def jre (ρ : Nat → Nat) : Value → Value
  | .ref k => .ref (ρ k)
  | v => v
def jok (n : Nat) : Value → Prop
  | .ref k => k < n ∨ 1000000 ≤ k
  | _ => True
theorem jre_cat (ρ : Nat → Nat) (v : Value) : (jre ρ v).category = v.category := by cases v <;> rfl
theorem jre_ext {ρ ρ' : Nat → Nat} {n : Nat} {v : Value} (h : ∀ k, k < n ∨ 1000000 ≤ k → ρ' k = ρ k) (hv : jok n v) : jre ρ' v = jre ρ v := by
  cases v <;> first | rfl | (show Value.ref _ = Value.ref _; rw [h _ hv])
theorem jok_mono {n n' : Nat} {v : Value} (h : n ≤ n') (hv : jok n v) : jok n' v := by
  cases v <;> first | trivial | exact hv.imp (fun q => Nat.lt_of_lt_of_le q h) id
def jty : Nat → FieldType
  | 100 => .int
  | 101 => .byte
  | 102 => .char
  | 103 => .long
  | 104 => .double
  | 106 => .array .int
  | 107 => .boolean
  | _ => .object "DominoChains$State"
/-- whether a field holds a reference -/
def jrf (ci k : Nat) : Bool := match (vwCl.getD ci (RX0, TX0, 3)).2.1 k with
  | (_, _, d, _) => d ≠ "I" && d ≠ "Z" && d ≠ "B"
def jfv (ρ : Nat → Nat) (M : jM) (q ci k : Nat) : Value := if jrf ci k = true then va_rf ((M.2.1 q k).map ρ) else .int (M.2.2.1 q k)
def jcell (ρ : Nat → Nat) (κ : Nat → ClassId) (M : jM) (q : Nat) (z : Nat × Nat) : va_E :=
  if z.1 < 100 then .inr (z.1, (List.range z.2).map (jfv ρ M q z.1)) else .inl (κ q, z.2,
    if z.1 = 103 then .inr (.inl (M.2.2.2.1 q)) else if z.1 = 104 then .inr (.inr (.inr (.inl (M.2.2.2.2 q)))) else if z.1 = 105 ∨ z.1 = 106 then .inr (.inr (.inr (.inr (fun i => (M.2.1 q i).map ρ)))) else .inl (M.2.2.1 q))
def jw (ρ : Nat → Nat) (κ : Nat → ClassId) (M : jM) : va_W := M.1.mapIdx fun q z => (ρ q, jcell ρ κ M q z)
theorem jw_at {ρ : Nat → Nat} {κ : Nat → ClassId} {M : jM} {q : Nat} {z : Nat × Nat} (h : M.1[q]? = some z) : (jw ρ κ M)[q]? = some (ρ q, jcell ρ κ M q z) := by
  unfold jw; rw [List.getElem?_mapIdx, h]; rfl
theorem jw_set {ρ : Nat → Nat} {κ : Nat → ClassId} {M M' : jM} {q : Nat} {z : Nat × Nat} (h : M.1[q]? = some z) (hs : M'.1 = M.1)
    (hr : ∀ k z', k ≠ q → M.1[k]? = some z' → jcell ρ κ M' k z' = jcell ρ κ M k z') : (jw ρ κ M).set q (ρ q, jcell ρ κ M' q z) = jw ρ κ M' := by
  apply List.ext_getElem?
  intro k
  unfold jw
  rw [List.getElem?_set, List.getElem?_mapIdx, List.getElem?_mapIdx, hs]
  by_cases hk : q = k
  · subst hk
    obtain ⟨hl, he⟩ := List.getElem?_eq_some_iff.mp h
    simp [hl, he]
  · rw [if_neg hk]
    cases hm : M.1[k]? with
    | none => rfl
    | some z' => simp only [Option.map_some]; rw [hr k z' (fun e => hk e.symm) hm]
def jup2 {α : Type} (f : Nat → Nat → α) (q i : Nat) (v : α) : Nat → Nat → α := fun a b => if a = q ∧ b = i then v else f a b
/-- the class of the rows of int rows -/
def jAI (U : State) : Prop := ∃ (comp c : ClassId) (k : Class), U.vm.findClass "[I" = some comp ∧ (U.vm.classes.findIdx? fun (x : Class) => match x.kind with | .array component _ => component == comp | _ => false) = some c ∧ U.vm.classes[c]? = some k ∧ k.kind = .array comp (.array .int) ∧ U.vm.findClass "[[I" = some c
theorem jAI.moved {u U : State} (hvm : u.vm.Alike U.vm) (h : jAI u) : jAI U := by
  obtain ⟨comp, c, k, h1, h2, h3, h4, h5⟩ := h
  obtain ⟨k', hk', he⟩ := hvm.2.2 _ _ h3
  refine ⟨comp, c, k', by rw [hvm.findClass]; exact h1, ?_, hk', by rw [he]; exact h4, by rw [hvm.findClass]; exact h5⟩
  have a := va_idx_bare U.vm comp
  have b := va_idx_bare u.vm comp
  first | rw [hvm.bare_eq] at a | rw [← hvm.bare_eq] at a
  exact (a.symm.trans b).trans h2
/-- the links of nest mates -/
def jNst (U : State) : Prop := (∀ own i y h, Cond.methodLinkNest own i y h ∈ lw_tbl → va_Nw (.methodLinkNest own i y h) U) ∧ (∀ C T, Cond.castable C T ∈ lw_tbl → va_Nw (.castable C T) U) ∧ (va_AO "DominoChains$State" U ∧ jAI U) ∧ va_Nc "java/lang/IllegalStateException" "java/lang/IndexOutOfBoundsException" U ∧ ∀ y, Cond.declares y ∈ lw_tbl → va_Nw (.declares y) U
/-- the String constants: class, entry, text -/
def jStr : List (String × Nat × String) := [("DominoChains", 73, "the input buffer is full"), ("DominoChains", 88, "no such length"), ("DominoChains", 101, "the text has an error"), ("DominoChains", 261, "the round is over"), ("DominoChains", 275, "no such move in the line"), ("DominoChains", 296, "nothing can be burnt there"), ("DominoChains", 340, "no such player"), ("DominoChains", 342, "no such round"), ("DominoChains", 344, "no such chain"), ("DominoChains", 346, "no such tile"), ("DominoChains", 350, "no such move"), ("DominoChains$Parser", 49, "round"), ("DominoChains$Parser", 116, "left"), ("DominoChains$Parser", 122, "right"), ("DominoChains$Parser", 124, "pass"), ("DominoChains$Parser", 129, "next"), ("DominoChainsLaw", 123, "round ")]
def jStrNo (t : String) : Option Nat := if t = "round" then some 0 else if t = "left" then some 1 else if t = "right" then some 2 else if t = "pass" then some 3 else if t = "next" then some 4 else if t = "round " then some 5 else none
/-- what lies outside of the world: the two statics that a throw reads, the Strings, the law's script -/
def jLen : List Nat := [5, 4, 5, 4, 4, 6]
def jByt : List (List Int32) := [[114, 111, 117, 110, 100], [108, 101, 102, 116], [114, 105, 103, 104, 116], [112, 97, 115, 115], [110, 101, 120, 116], [114, 111, 117, 110, 100, 32]]
/-- the static of the digits: its row -/
def jXd (A : Nat → Prop) (ρ : Nat → Nat) (U : State) (H : Heap) : Prop := va_Z "java/lang/Integer" "DigitOnes" "[B" (.ref (ρ 2000001)) A U H ∧ va_T .byte (ρ 2000001) 100 (fun i => .int (Int32.ofNat (48 + i % 10))) A U H
def jX1 (A : Nat → Prop) (ρ : Nat → Nat) (U : State) (H : Heap) : Prop := jXd A ρ U H ∧ va_Z "java/lang/String" "COMPACT_STRINGS" "Z" (.int 1) A U H ∧ va_Zq "jdk/internal/util/Preconditions" "SIOOBE_FORMATTER" "Ljava/util/function/BiFunction;" A U H ∧ ∃ adV, vk_S 6 jLen jByt (fun i => ρ (1000000 + i)) adV A U H
theorem jX1.moved {A : Nat → Prop} {ρ : Nat → Nat} {u U : State} {H : Heap} (hv : u.vm.Alike U.vm) (h : jX1 A ρ u H) : jX1 A ρ U H := ⟨⟨h.1.1.moved hv, h.1.2.moved hv⟩, h.2.1.moved hv, h.2.2.1.moved hv, h.2.2.2.imp fun _ z => z.moved hv⟩
theorem jX1.kept {A : Nat → Prop} {ρ : Nat → Nat} {U : State} {H H1 : Heap} (h : jX1 A ρ U H) (hq : ∀ a : Nat, a < H.size → ¬ A a → H1[a]? = H[a]?) : jX1 A ρ U H1 := ⟨⟨h.1.1.kept hq, h.1.2.kept hq⟩, h.2.1.kept hq, h.2.2.1.kept hq, h.2.2.2.imp fun _ z => z.kept hq⟩
theorem jX1.narrow {A B : Nat → Prop} {ρ : Nat → Nat} {U : State} {H : Heap} (h : jX1 A ρ U H) (hAB : ∀ q, B q → A q) : jX1 B ρ U H := ⟨⟨h.1.1.narrow hAB, h.1.2.narrow hAB⟩, h.2.1.narrow hAB, h.2.2.1.narrow hAB, h.2.2.2.imp fun _ z => z.narrow hAB⟩
def jX0 (Γ : jE) (A : Nat → Prop) (ρ : Nat → Nat) (U : State) (H : Heap) : Prop :=
  vx_Zq Bundle.tN "UNASSIGNED_STACK" Bundle.steD A U H ∧ vx_Zq Bundle.tN "SUPPRESSED_SENTINEL" Bundle.listD A U H ∧
  (∀ L xs, Γ.2.2 = some (L, xs) → va_X (ρ 2000000) L xs U H ∧ ρ 2000000 < H.size ∧ ¬ A (ρ 2000000)) ∧ jX1 A ρ U H
def jC (Γ : jE) (d : Nat) (mi : jMI) (p : Program) (R : Room) (s : State) (m : MethodId) (args : Array Value) (meth : Method) (c : Code) (A : Nat → Prop) (ρ0 : Nat → Nat) : Prop :=
  p.tables.exec = Jvm.exec ∧ c.code = mi.2.1 ∧ c.maxLocals = mi.2.2.1 ∧ meth.sig.returnType = mi.2.2.2 ∧ meth.locks = false ∧ s.vm.findClass mi.1.cls = some m.cls ∧ (∀ w ∈ jG, w.before args s = true) ∧
  d + 16 ≤ R.frames ∧ 40 * d + 400 ≤ R.locals ∧ va_K Γ.2.1 vwCl [] s ∧ (∀ q, s.heap.size ≤ q → A q) ∧ Γ.1.stackTraces = false ∧ jX0 Γ A ρ0 s s.heap ∧ (mi.1.name = "<init>" → meth.name = "<init>") ∧ jNst s ∧ ∀ t ∈ jStr, ∃ a, vk_R t.1 t.2.1 t.2.2 a s ∧ (∀ i, jStrNo t.2.2 = some i → ρ0 (1000000 + i) = a)
def jW (Γ : jE) (s : State) (A : Nat → Prop) (n0 : Nat) (ρ0 : Nat → Nat) (M : jM) (ρ : Nat → Nat) (κ : Nat → ClassId) (H : Heap) (locs : List Loc) : Prop :=
  va_P Γ.2.1 vwCl (jw ρ κ M) H ∧ va_D A (jw ρ κ M) ∧ va_S A s.heap H locs ∧ (∀ q z, M.1[q]? = some z → 100 ≤ z.1 → va_K Γ.2.1 vwCl [(κ q, jty z.1)] s) ∧ (∀ q i r, M.2.1 q i = some r → r < M.1.length) ∧
  n0 ≤ M.1.length ∧ ∀ k, k < n0 ∨ 1000000 ≤ k → ρ k = ρ0 k
/-- the locals: those that are known -/
def jL (ρ : Nat → Nat) (n nL : Nat) (L : List (Option Value)) (ls : Array Slot) : Prop :=
  lv_wf ls ∧ ls.size = nL ∧ L.length = nL ∧ ∀ (i : Nat) (v : Value), L[i]? = some (some v) → ls[i]? = some (.val (jre ρ v)) ∧ jok n v
/-- a return -/
def jR (mi : jMI) (pc : Nat) (v : Option Value) : Prop :=
  (mi.2.2.2 = none ∧ v = none ∧ decode mi.2.1 pc = .ok (.return_, 1)) ∨
  (∃ ty x, mi.2.2.2 = some ty ∧ v = some (.int x) ∧ narrow ty (.int x) = .int x ∧ decode mi.2.1 pc = .ok (.ireturn, 1)) ∨
  (∃ x, mi.2.2.2 = some .double ∧ v = some (.double x) ∧ decode mi.2.1 pc = .ok (.dreturn, 1)) ∨
  (∃ ty w, mi.2.2.2 = some ty ∧ ((∃ n, ty = .object n) ∨ ∃ n, ty = .array n) ∧ v = some w ∧ (w = .null ∨ ∃ k, w = .ref k) ∧ decode mi.2.1 pc = .ok (.areturn, 1))
/-- a throw of an exception made here: its places in the code -/
def jT (mi : jMI) (pc : Nat) (E text : String) (names : List String) (ik is ic : Nat) (m : MethodId) (args : Array Value) (s : State) : Prop :=
  Bundle.fit E = true ∧ (∀ n ∈ names, Bundle.fit n = true) ∧ names.length ≤ 2 ∧ (Cond.classLink mi.1.cls ik E).before args s = true ∧ (Cond.initialized E).before args s = true ∧ (∃ sa, vk_R mi.1.cls is text sa s) ∧
  (∀ w ∈ vx_atS mi.1.cls ic E names, w.before args s = true) ∧ (∀ w ∈ Cond.classLink mi.1.cls ik E :: Cond.initialized E :: vx_atS mi.1.cls ic E names, vx_ot w = true)
def jF (Γ : jE) (mi : jMI) (p : Program) (e : Env) (R : Room) (s : State) (m : MethodId) (args : Array Value) (below : List Frame) (meth : Method) (c : Code) (A : Nat → Prop) (n0 : Nat) (ρ0 : Nat → Nat) (Q : State → Prop) (P : Option Value → jM → Prop) (X : String → jM → Prop) : Prop :=
  (∀ (M : jM) (ρ : Nat → Nat) (κ : Nat → ClassId) (ls : Array Slot) (H : Heap) (locs : List Loc) (cells slots pc : Nat) (v : Option Value), P v M → jW Γ s A n0 ρ0 M ρ κ H locs → (∀ w, v = some w → jok M.1.length w) → cells ≤ R.cells → slots ≤ R.slots → jR mi pc v →
    W p Γ.1 e R s m args below meth c H locs cells slots Q (F0 m pc ls (v.toList.map (jre ρ)))) ∧
  (∀ (M : jM) (ρ : Nat → Nat) (κ : Nat → ClassId) (ls : Array Slot) (H : Heap) (locs : List Loc) (cells slots pc : Nat) (st : List Value) (E : String) (q : Addr) (ce : Cell), X E M → jW Γ s A n0 ρ0 M ρ κ H locs → cells ≤ R.cells → slots ≤ R.slots →
    H[q]? = some ce → ce.vm = .none → s.vm.findClass E = some ce.cls → vx_W p Γ.1 e R s m args below meth c H locs cells slots Q (F0 m pc ls st) q) ∧
  (∀ (M : jM) (ρ : Nat → Nat) (κ : Nat → ClassId) (ls : Array Slot) (H : Heap) (locs : List Loc) (cells slots pc : Nat) (st : List Value) (E text : String) (names : List String) (ik is ic : Nat), X E M → jW Γ s A n0 ρ0 M ρ κ H locs → cells + 1 ≤ R.cells → slots + 6 ≤ R.slots →
    ls.size = mi.2.2.1 → (st.map fun v => v.category).sum ≤ 8 → jT mi pc E text names ik is ic m args s →
    ((decode mi.2.1 pc = .ok (.new ik, 3) ∧ decode mi.2.1 (pc + 3) = .ok (.dup, 1) ∧ decode mi.2.1 (pc + 4) = .ok (.ldc is, 2) ∧ decode mi.2.1 (pc + 6) = .ok (.invokespecial ic, 3) ∧ decode mi.2.1 (pc + 9) = .ok (.athrow, 1)) ∨
     (decode mi.2.1 pc = .ok (.new ik, 3) ∧ decode mi.2.1 (pc + 3) = .ok (.dup, 1) ∧ decode mi.2.1 (pc + 4) = .ok (.ldc_w is, 3) ∧ decode mi.2.1 (pc + 7) = .ok (.invokespecial ic, 3) ∧ decode mi.2.1 (pc + 10) = .ok (.athrow, 1))) →
    W p Γ.1 e R s m args below meth c H locs cells slots Q (F0 m pc ls st))
/-- the judgement: from this point of the method on, with the room for bc cells of bs slots, the method returns with P or throws with X -/
def J (Γ : jE) (b : Nat × Nat × Nat) (mi : jMI) (pc : Nat) (L : List (Option Value)) (S : List Value) (M : jM) (P : Option Value → jM → Prop) (X : String → jM → Prop) : Prop :=
  ∀ (p : Program) (e : Env) (R : Room) (s : State) (m : MethodId) (args : Array Value) (below : List Frame) (meth : Method) (c : Code) (A : Nat → Prop) (n0 : Nat) (ρ0 : Nat → Nat) (Q : State → Prop),
    jC Γ b.1 mi p R s m args meth c A ρ0 → jF Γ mi p e R s m args below meth c A n0 ρ0 Q P X →
    ∀ (ρ : Nat → Nat) (κ : Nat → ClassId) (ls : Array Slot) (H : Heap) (locs : List Loc) (cells slots : Nat),
      jW Γ s A n0 ρ0 M ρ κ H locs → jL ρ M.1.length mi.2.2.1 L ls → (∀ v ∈ S, jok M.1.length v) → cells + b.2.1 ≤ R.cells → slots + b.2.2 ≤ R.slots →
      W p Γ.1 e R s m args below meth c H locs cells slots Q (F0 m pc ls (S.map (jre ρ)))
variable {Γ : jE} {b : Nat × Nat × Nat} {mi : jMI} {pc : Nat} {L : List (Option Value)} {S : List Value} {M : jM} {P : Option Value → jM → Prop} {X : String → jM → Prop}

/-- a stack of ints over what was there -/
theorem jS_int {n : Nat} {S : List Value} {x : Int32} (h : ∀ v ∈ S, jok n v) : ∀ v ∈ Value.int x :: S, jok n v := List.forall_mem_cons.mpr ⟨trivial, h⟩
theorem jS_c {n : Nat} {S : List Value} {v : Value} (hv : jok n v) (h : ∀ v ∈ S, jok n v) : ∀ w ∈ v :: S, jok n w := List.forall_mem_cons.mpr ⟨hv, h⟩
theorem jS_tl {n : Nat} {S : List Value} {x : Value} (h : ∀ v ∈ x :: S, jok n v) : ∀ v ∈ S, jok n v := fun v hv => h v (List.mem_cons_of_mem _ hv)
theorem jS_hd {n : Nat} {S : List Value} {x : Value} (h : ∀ v ∈ x :: S, jok n v) : jok n x := h _ List.mem_cons_self

theorem J.iadd {x y : Int32} (d : decode mi.2.1 pc = .ok (.iadd, 1)) (k : J Γ b mi (pc + 1) L (.int (x + y) :: S) M P X) : J Γ b mi pc L (.int y :: .int x :: S) M P X := by
  intro p e R s m args below meth c A n0 ρ0 Q C F ρ κ ls H locs cells slots hW hL hS h1 h2
  exact lv_iadd C.1 C.2.1 d (k p e R s m args below meth c A n0 ρ0 Q C F ρ κ ls H locs cells slots hW hL (jS_c (v := .int (x + y)) trivial (jS_tl (jS_tl hS))) h1 h2)

theorem J.isub {x y : Int32} (d : decode mi.2.1 pc = .ok (.isub, 1)) (k : J Γ b mi (pc + 1) L (.int (x - y) :: S) M P X) : J Γ b mi pc L (.int y :: .int x :: S) M P X := by
  intro p e R s m args below meth c A n0 ρ0 Q C F ρ κ ls H locs cells slots hW hL hS h1 h2
  exact lv_isub C.1 C.2.1 d (k p e R s m args below meth c A n0 ρ0 Q C F ρ κ ls H locs cells slots hW hL (jS_c (v := .int (x - y)) trivial (jS_tl (jS_tl hS))) h1 h2)

theorem J.imul {x y : Int32} (d : decode mi.2.1 pc = .ok (.imul, 1)) (k : J Γ b mi (pc + 1) L (.int (x * y) :: S) M P X) : J Γ b mi pc L (.int y :: .int x :: S) M P X := by
  intro p e R s m args below meth c A n0 ρ0 Q C F ρ κ ls H locs cells slots hW hL hS h1 h2
  exact lv_imul C.1 C.2.1 d (k p e R s m args below meth c A n0 ρ0 Q C F ρ κ ls H locs cells slots hW hL (jS_c (v := .int (x * y)) trivial (jS_tl (jS_tl hS))) h1 h2)

theorem J.iand {x y : Int32} (d : decode mi.2.1 pc = .ok (.iand, 1)) (k : J Γ b mi (pc + 1) L (.int (x &&& y) :: S) M P X) : J Γ b mi pc L (.int y :: .int x :: S) M P X := by
  intro p e R s m args below meth c A n0 ρ0 Q C F ρ κ ls H locs cells slots hW hL hS h1 h2
  exact lv_iand C.1 C.2.1 d (k p e R s m args below meth c A n0 ρ0 Q C F ρ κ ls H locs cells slots hW hL (jS_c (v := .int (x &&& y)) trivial (jS_tl (jS_tl hS))) h1 h2)

theorem J.ishr {x y : Int32} (d : decode mi.2.1 pc = .ok (.ishr, 1)) (k : J Γ b mi (pc + 1) L (.int (x >>> (y &&& 31)) :: S) M P X) : J Γ b mi pc L (.int y :: .int x :: S) M P X := by
  intro p e R s m args below meth c A n0 ρ0 Q C F ρ κ ls H locs cells slots hW hL hS h1 h2
  exact lv_ishr C.1 C.2.1 d (k p e R s m args below meth c A n0 ρ0 Q C F ρ κ ls H locs cells slots hW hL (jS_c (v := .int (x >>> (y &&& 31))) trivial (jS_tl (jS_tl hS))) h1 h2)

theorem J.idiv {x y : Int32} (d : decode mi.2.1 pc = .ok (.idiv, 1)) (hne : ¬ y = 0) (k : J Γ b mi (pc + 1) L (.int (x / y) :: S) M P X) : J Γ b mi pc L (.int y :: .int x :: S) M P X := by
  intro p e R s m args below meth c A n0 ρ0 Q C F ρ κ ls H locs cells slots hW hL hS h1 h2
  exact lv_idiv C.1 C.2.1 d hne (k p e R s m args below meth c A n0 ρ0 Q C F ρ κ ls H locs cells slots hW hL (jS_c (v := .int (x / y)) trivial (jS_tl (jS_tl hS))) h1 h2)

theorem J.irem {x y : Int32} (d : decode mi.2.1 pc = .ok (.irem, 1)) (hne : ¬ y = 0) (k : J Γ b mi (pc + 1) L (.int (x - x / y * y) :: S) M P X) : J Γ b mi pc L (.int y :: .int x :: S) M P X := by
  intro p e R s m args below meth c A n0 ρ0 Q C F ρ κ ls H locs cells slots hW hL hS h1 h2
  exact lv_irem C.1 C.2.1 d hne (k p e R s m args below meth c A n0 ρ0 Q C F ρ κ ls H locs cells slots hW hL (jS_c (v := .int (x - x / y * y)) trivial (jS_tl (jS_tl hS))) h1 h2)

theorem J.iushr {x y : Int32} (d : decode mi.2.1 pc = .ok (.iushr, 1)) (k : J Γ b mi (pc + 1) L (.int (x.toUInt32 >>> (y.toUInt32 &&& Int32.toUInt32 31)).toInt32 :: S) M P X) : J Γ b mi pc L (.int y :: .int x :: S) M P X := by
  intro p e R s m args below meth c A n0 ρ0 Q C F ρ κ ls H locs cells slots hW hL hS h1 h2
  exact lv_iushr C.1 C.2.1 d rfl (k p e R s m args below meth c A n0 ρ0 Q C F ρ κ ls H locs cells slots hW hL (jS_c (v := .int (x.toUInt32 >>> (y.toUInt32 &&& Int32.toUInt32 31)).toInt32) trivial (jS_tl (jS_tl hS))) h1 h2)

theorem J.ineg {x : Int32} (d : decode mi.2.1 pc = .ok (.ineg, 1)) (k : J Γ b mi (pc + 1) L (.int (-x) :: S) M P X) : J Γ b mi pc L (.int x :: S) M P X := by
  intro p e R s m args below meth c A n0 ρ0 Q C F ρ κ ls H locs cells slots hW hL hS h1 h2
  exact lv_ineg C.1 C.2.1 d (k p e R s m args below meth c A n0 ρ0 Q C F ρ κ ls H locs cells slots hW hL (jS_c (v := .int (-x)) trivial (jS_tl hS)) h1 h2)

theorem J.i2b {x : Int32} (d : decode mi.2.1 pc = .ok (.i2b, 1)) (k : J Γ b mi (pc + 1) L (.int x.toInt8.toInt32 :: S) M P X) : J Γ b mi pc L (.int x :: S) M P X := by
  intro p e R s m args below meth c A n0 ρ0 Q C F ρ κ ls H locs cells slots hW hL hS h1 h2
  exact lv_i2b C.1 C.2.1 d rfl (k p e R s m args below meth c A n0 ρ0 Q C F ρ κ ls H locs cells slots hW hL (jS_c (v := .int x.toInt8.toInt32) trivial (jS_tl hS)) h1 h2)

theorem J.i2c {x : Int32} (d : decode mi.2.1 pc = .ok (.i2c, 1)) (k : J Γ b mi (pc + 1) L (.int (x.toUInt32 % 65536).toInt32 :: S) M P X) : J Γ b mi pc L (.int x :: S) M P X := by
  intro p e R s m args below meth c A n0 ρ0 Q C F ρ κ ls H locs cells slots hW hL hS h1 h2
  exact lv_i2c C.1 C.2.1 d rfl (k p e R s m args below meth c A n0 ρ0 Q C F ρ κ ls H locs cells slots hW hL (jS_c (v := .int (x.toUInt32 % 65536).toInt32) trivial (jS_tl hS)) h1 h2)

theorem J.i2l {x : Int32} (d : decode mi.2.1 pc = .ok (.i2l, 1)) (k : J Γ b mi (pc + 1) L (.long x.toInt64 :: S) M P X) : J Γ b mi pc L (.int x :: S) M P X := by
  intro p e R s m args below meth c A n0 ρ0 Q C F ρ κ ls H locs cells slots hW hL hS h1 h2
  exact lv_i2l C.1 C.2.1 d rfl (k p e R s m args below meth c A n0 ρ0 Q C F ρ κ ls H locs cells slots hW hL (jS_c (v := .long x.toInt64) trivial (jS_tl hS)) h1 h2)

theorem J.i2d {x : Int32} (d : decode mi.2.1 pc = .ok (.i2d, 1)) (k : J Γ b mi (pc + 1) L (.double (FP.i2d x) :: S) M P X) : J Γ b mi pc L (.int x :: S) M P X := by
  intro p e R s m args below meth c A n0 ρ0 Q C F ρ κ ls H locs cells slots hW hL hS h1 h2
  exact lv_i2d C.1 C.2.1 d (k p e R s m args below meth c A n0 ρ0 Q C F ρ κ ls H locs cells slots hW hL (jS_c (v := .double (FP.i2d x)) trivial (jS_tl hS)) h1 h2)

theorem J.lcmp {x y : Int64} (d : decode mi.2.1 pc = .ok (.lcmp, 1)) (k : J Γ b mi (pc + 1) L (.int (lg_cmp x y) :: S) M P X) : J Γ b mi pc L (.long y :: .long x :: S) M P X := by
  intro p e R s m args below meth c A n0 ρ0 Q C F ρ κ ls H locs cells slots hW hL hS h1 h2
  exact W.lcmp C.1 C.2.1 d (k p e R s m args below meth c A n0 ρ0 Q C F ρ κ ls H locs cells slots hW hL (jS_c (v := .int (lg_cmp x y)) trivial (jS_tl (jS_tl hS))) h1 h2)

theorem J.dcmp {x y : UInt64} {op : CmpOp} (d : decode mi.2.1 pc = .ok (.dcmp op, 1)) (k : J Γ b mi (pc + 1) L (.int (Op.cmpValue (FP.dcmp x y) op) :: S) M P X) : J Γ b mi pc L (.double y :: .double x :: S) M P X := by
  intro p e R s m args below meth c A n0 ρ0 Q C F ρ κ ls H locs cells slots hW hL hS h1 h2
  exact lv_dcmp C.1 C.2.1 d (k p e R s m args below meth c A n0 ρ0 Q C F ρ κ ls H locs cells slots hW hL (jS_c (v := .int (Op.cmpValue (FP.dcmp x y) op)) trivial (jS_tl (jS_tl hS))) h1 h2)

theorem J.ddiv {x y : UInt64} (d : decode mi.2.1 pc = .ok (.ddiv, 1)) (hne : vf_n64 (FP.ddiv x y)) (k : J Γ b mi (pc + 1) L (.double (FP.ddiv x y) :: S) M P X) : J Γ b mi pc L (.double y :: .double x :: S) M P X := by
  intro p e R s m args below meth c A n0 ρ0 Q C F ρ κ ls H locs cells slots hW hL hS h1 h2
  exact lv_ddiv C.1 C.2.1 d hne (k p e R s m args below meth c A n0 ρ0 Q C F ρ κ ls H locs cells slots hW hL (jS_c (v := .double (FP.ddiv x y)) trivial (jS_tl (jS_tl hS))) h1 h2)

theorem J.iconst {n : Int} (v : Int32) (d : decode mi.2.1 pc = .ok (.iconst n, 1)) (hv : Int32.ofInt n = v) (k : J Γ b mi (pc + 1) L (.int v :: S) M P X) : J Γ b mi pc L (S) M P X := by
  intro p e R s m args below meth c A n0 ρ0 Q C F ρ κ ls H locs cells slots hW hL hS h1 h2
  exact lv_iconst C.1 C.2.1 d hv (k p e R s m args below meth c A n0 ρ0 Q C F ρ κ ls H locs cells slots hW hL (jS_c (v := .int v) trivial hS) h1 h2)

theorem J.bipush {n : Int} (v : Int32) (d : decode mi.2.1 pc = .ok (.bipush n, 2)) (hv : (Int8.ofInt n).toInt32 = v) (k : J Γ b mi (pc + 2) L (.int v :: S) M P X) : J Γ b mi pc L (S) M P X := by
  intro p e R s m args below meth c A n0 ρ0 Q C F ρ κ ls H locs cells slots hW hL hS h1 h2
  exact lv_bipush C.1 C.2.1 d hv (k p e R s m args below meth c A n0 ρ0 Q C F ρ κ ls H locs cells slots hW hL (jS_c (v := .int v) trivial hS) h1 h2)

theorem J.sipush {n : Int} (v : Int32) (d : decode mi.2.1 pc = .ok (.sipush n, 3)) (hv : (Int16.ofInt n).toInt32 = v) (k : J Γ b mi (pc + 3) L (.int v :: S) M P X) : J Γ b mi pc L (S) M P X := by
  intro p e R s m args below meth c A n0 ρ0 Q C F ρ κ ls H locs cells slots hW hL hS h1 h2
  exact lv_sipush C.1 C.2.1 d hv (k p e R s m args below meth c A n0 ρ0 Q C F ρ κ ls H locs cells slots hW hL (jS_c (v := .int v) trivial hS) h1 h2)

theorem J.lconst {n : Fin 2} (v : Int64) (d : decode mi.2.1 pc = .ok (.lconst n, 1)) (hv : Int64.ofNat (n : Nat) = v) (k : J Γ b mi (pc + 1) L (.long v :: S) M P X) : J Γ b mi pc L (S) M P X := by
  intro p e R s m args below meth c A n0 ρ0 Q C F ρ κ ls H locs cells slots hW hL hS h1 h2
  exact lv_lconst C.1 C.2.1 d hv (k p e R s m args below meth c A n0 ρ0 Q C F ρ κ ls H locs cells slots hW hL (jS_c (v := .long v) trivial hS) h1 h2)

theorem J.anull (d : decode mi.2.1 pc = .ok (.aconst_null, 1)) (k : J Γ b mi (pc + 1) L (.null :: S) M P X) : J Γ b mi pc L (S) M P X := by
  intro p e R s m args below meth c A n0 ρ0 Q C F ρ κ ls H locs cells slots hW hL hS h1 h2
  exact lv_null C.1 C.2.1 d (k p e R s m args below meth c A n0 ρ0 Q C F ρ κ ls H locs cells slots hW hL (jS_c (v := .null) trivial hS) h1 h2)

theorem J.ldc {n : Nat} (v : Int32) (d : decode mi.2.1 pc = .ok (.ldc n, 2)) (hw : Cond.constant mi.1.cls n v ∈ jG) (k : J Γ b mi (pc + 2) L (.int v :: S) M P X) : J Γ b mi pc L (S) M P X := by
  intro p e R s m args below meth c A n0 ρ0 Q C F ρ κ ls H locs cells slots hW hL hS h1 h2
  exact lv_ldc C.1 C.2.1 C.2.2.2.2.2.1 (C.2.2.2.2.2.2.1 _ hw) d (k p e R s m args below meth c A n0 ρ0 Q C F ρ κ ls H locs cells slots hW hL (jS_c (v := .int v) trivial hS) h1 h2)

theorem J.ldcw {n : Nat} (v : Int32) (d : decode mi.2.1 pc = .ok (.ldc_w n, 3)) (hw : Cond.constant mi.1.cls n v ∈ jG) (k : J Γ b mi (pc + 3) L (.int v :: S) M P X) : J Γ b mi pc L (S) M P X := by
  intro p e R s m args below meth c A n0 ρ0 Q C F ρ κ ls H locs cells slots hW hL hS h1 h2
  exact lv_ldcw C.1 C.2.1 C.2.2.2.2.2.1 (C.2.2.2.2.2.2.1 _ hw) d (k p e R s m args below meth c A n0 ρ0 Q C F ρ κ ls H locs cells slots hW hL (jS_c (v := .int v) trivial hS) h1 h2)

theorem J.pop {x : Int32} (d : decode mi.2.1 pc = .ok (.pop, 1)) (k : J Γ b mi (pc + 1) L (S) M P X) : J Γ b mi pc L (.int x :: S) M P X := by
  intro p e R s m args below meth c A n0 ρ0 Q C F ρ κ ls H locs cells slots hW hL hS h1 h2
  exact lv_pop C.1 C.2.1 d rfl (k p e R s m args below meth c A n0 ρ0 Q C F ρ κ ls H locs cells slots hW hL (jS_tl hS) h1 h2)

theorem J.dupI {x : Int32} (d : decode mi.2.1 pc = .ok (.dup, 1)) (k : J Γ b mi (pc + 1) L (.int x :: .int x :: S) M P X) : J Γ b mi pc L (.int x :: S) M P X := by
  intro p e R s m args below meth c A n0 ρ0 Q C F ρ κ ls H locs cells slots hW hL hS h1 h2
  exact lv_dup C.1 C.2.1 d rfl (k p e R s m args below meth c A n0 ρ0 Q C F ρ κ ls H locs cells slots hW hL (jS_c (jS_hd hS) hS) h1 h2)

theorem J.dupR {x : Nat} (d : decode mi.2.1 pc = .ok (.dup, 1)) (k : J Γ b mi (pc + 1) L (.ref x :: .ref x :: S) M P X) : J Γ b mi pc L (.ref x :: S) M P X := by
  intro p e R s m args below meth c A n0 ρ0 Q C F ρ κ ls H locs cells slots hW hL hS h1 h2
  exact lv_dup C.1 C.2.1 d rfl (k p e R s m args below meth c A n0 ρ0 Q C F ρ κ ls H locs cells slots hW hL (jS_c (jS_hd hS) hS) h1 h2)

theorem J.dconst0 (d : decode mi.2.1 pc = .ok (.dconst 0, 1)) (k : J Γ b mi (pc + 1) L (.double 0 :: S) M P X) : J Γ b mi pc L S M P X := by
  intro p e R s m args below meth c A n0 ρ0 Q C F ρ κ ls H locs cells slots hW hL hS h1 h2
  exact lv_dconst0 C.1 C.2.1 d (k p e R s m args below meth c A n0 ρ0 Q C F ρ κ ls H locs cells slots hW hL (jS_c (v := .double 0) trivial hS) h1 h2)

theorem J.iload {i : Nat} {x : Int32} (d : decode mi.2.1 pc = .ok (.iload i, 2)) (hl : L[i]? = some (some (.int x))) (k : J Γ b mi (pc + 2) L (.int x :: S) M P X) : J Γ b mi pc L S M P X := by
  intro p e R s m args below meth c A n0 ρ0 Q C F ρ κ ls H locs cells slots hW hL hS h1 h2
  exact lv_iload C.1 C.2.1 d (hL.2.2.2 i _ hl).1 (k p e R s m args below meth c A n0 ρ0 Q C F ρ κ ls H locs cells slots hW hL (jS_c (v := .int x) trivial hS) h1 h2)

theorem J.iload_n {j : Fin 4} (i : Nat) {x : Int32} (d : decode mi.2.1 pc = .ok (.iload_n j, 1)) (hi : (j : Nat) = i) (hl : L[i]? = some (some (.int x))) (k : J Γ b mi (pc + 1) L (.int x :: S) M P X) : J Γ b mi pc L S M P X := by
  intro p e R s m args below meth c A n0 ρ0 Q C F ρ κ ls H locs cells slots hW hL hS h1 h2
  exact lv_iload_n C.1 C.2.1 d hi (hL.2.2.2 i _ hl).1 (k p e R s m args below meth c A n0 ρ0 Q C F ρ κ ls H locs cells slots hW hL (jS_c (v := .int x) trivial hS) h1 h2)

theorem J.aload {i : Nat} {x : Nat} (d : decode mi.2.1 pc = .ok (.aload i, 2)) (hl : L[i]? = some (some (.ref x))) (k : J Γ b mi (pc + 2) L (.ref x :: S) M P X) : J Γ b mi pc L S M P X := by
  intro p e R s m args below meth c A n0 ρ0 Q C F ρ κ ls H locs cells slots hW hL hS h1 h2
  exact lv_aload C.1 C.2.1 d (hL.2.2.2 i _ hl).1 (k p e R s m args below meth c A n0 ρ0 Q C F ρ κ ls H locs cells slots hW hL (jS_c (v := .ref x) (hL.2.2.2 i _ hl).2 hS) h1 h2)

theorem J.aload_n {j : Fin 4} (i : Nat) {x : Nat} (d : decode mi.2.1 pc = .ok (.aload_n j, 1)) (hi : (j : Nat) = i) (hl : L[i]? = some (some (.ref x))) (k : J Γ b mi (pc + 1) L (.ref x :: S) M P X) : J Γ b mi pc L S M P X := by
  intro p e R s m args below meth c A n0 ρ0 Q C F ρ κ ls H locs cells slots hW hL hS h1 h2
  exact lv_aload_n C.1 C.2.1 d hi (hL.2.2.2 i _ hl).1 (k p e R s m args below meth c A n0 ρ0 Q C F ρ κ ls H locs cells slots hW hL (jS_c (v := .ref x) (hL.2.2.2 i _ hl).2 hS) h1 h2)

theorem J.dload {i : Nat} {x : UInt64} (d : decode mi.2.1 pc = .ok (.dload i, 2)) (hl : L[i]? = some (some (.double x))) (k : J Γ b mi (pc + 2) L (.double x :: S) M P X) : J Γ b mi pc L S M P X := by
  intro p e R s m args below meth c A n0 ρ0 Q C F ρ κ ls H locs cells slots hW hL hS h1 h2
  exact lv_dload C.1 C.2.1 d (hL.2.2.2 i _ hl).1 (k p e R s m args below meth c A n0 ρ0 Q C F ρ κ ls H locs cells slots hW hL (jS_c (v := .double x) trivial hS) h1 h2)

theorem J.dload_n {j : Fin 4} (i : Nat) {x : UInt64} (d : decode mi.2.1 pc = .ok (.dload_n j, 1)) (hi : (j : Nat) = i) (hl : L[i]? = some (some (.double x))) (k : J Γ b mi (pc + 1) L (.double x :: S) M P X) : J Γ b mi pc L S M P X := by
  intro p e R s m args below meth c A n0 ρ0 Q C F ρ κ ls H locs cells slots hW hL hS h1 h2
  exact lv_dload_n C.1 C.2.1 d hi (hL.2.2.2 i _ hl).1 (k p e R s m args below meth c A n0 ρ0 Q C F ρ κ ls H locs cells slots hW hL (jS_c (v := .double x) trivial hS) h1 h2)

/-- no number of two words ends at place i -/
def jcat (L : List (Option Value)) : Nat → Bool
  | 0 => true
  | k + 1 => match L[k]? with
    | some (some v) => v.category != 2
    | _ => true
/-- the known locals as a list -/
def jas (ρ : Nat → Nat) (L : List (Option Value)) : List (Nat × Value) := (List.range L.length).filterMap fun k => (L[k]?.join).map fun v => (k, jre ρ v)
theorem jas_mem {ρ : Nat → Nat} {L : List (Option Value)} {k : Nat} {v : Value} (h : L[k]? = some (some v)) : (k, jre ρ v) ∈ jas ρ L := by
  unfold jas
  refine List.mem_filterMap.mpr ⟨k, List.mem_range.mpr (List.getElem?_eq_some_iff.mp h).1, ?_⟩
  rw [h]; rfl
theorem jas_has {ρ : Nat → Nat} {n nL : Nat} {L : List (Option Value)} {ls : Array Slot} (hL : jL ρ n nL L ls) : lv_has ls nL (jas ρ L) := by
  refine ⟨hL.2.1, hL.1, fun q hq => ?_⟩
  obtain ⟨k, -, hk⟩ := List.mem_filterMap.mp hq
  cases h : L[k]? with
  | none => rw [h] at hk; cases hk
  | some o => cases o with
    | none => rw [h] at hk; cases hk
    | some v => rw [h] at hk; cases hk; exact (hL.2.2.2 k v h).1
theorem jL_set {ρ : Nat → Nat} {n nL i : Nat} {L : List (Option Value)} {ls ls' : Array Slot} {v : Value} {o : Option Value} (hL : jL ρ n nL L ls) (hc : jcat L i = true) (ho : o = some v ∨ o = none) (hv : o = some v → jok n v)
    (h : lv_has ls' nL ((i, jre ρ v) :: (jas ρ L).filter (fun q => !(q.1 == i) && !(q.1 + 1 == i && q.2.category == 2)))) : jL ρ n nL (L.set i o) ls' := by
  refine ⟨h.2.1, h.1, by rw [List.length_set]; exact hL.2.2.1, fun k w hk => ?_⟩
  rw [List.getElem?_set] at hk
  by_cases hki : i = k
  · subst hki
    rw [if_pos rfl] at hk
    split at hk
    · rcases ho with ho | ho
      · rw [ho] at hk; cases hk
        exact ⟨h.2.2 _ List.mem_cons_self, hv ho⟩
      · rw [ho] at hk; cases hk
    · cases hk
  · rw [if_neg hki] at hk
    refine ⟨h.2.2 (k, jre ρ w) (List.mem_cons_of_mem _ (List.mem_filter.mpr ⟨jas_mem hk, ?_⟩)), (hL.2.2.2 k w hk).2⟩
    have h1 : (k == i) = false := by simpa using fun e : k = i => hki e.symm
    simp only [h1, Bool.not_false, Bool.true_and, Bool.not_eq_true', Bool.and_eq_false_iff, beq_eq_false_iff_ne]
    by_cases h2 : k + 1 = i
    · right
      subst h2
      rw [jre_cat]
      have hc2 := hc
      simp only [jcat, hk] at hc2
      simpa using hc2
    · left; exact h2

theorem J.istore {i : Nat} {x : Int32} (d : decode mi.2.1 pc = .ok (.istore i, 2)) (hn : i < mi.2.2.1) (hc : jcat L i = true) (k : J Γ b mi (pc + 2) (L.set i (some (.int x))) S M P X) : J Γ b mi pc L (.int x :: S) M P X := by
  intro p e R s m args below meth c A n0 ρ0 Q C F ρ κ ls H locs cells slots hW hL hS h1 h2
  exact lv_istore C.1 C.2.1 d (jas_has hL) hn rfl (fun ls' hl' => k p e R s m args below meth c A n0 ρ0 Q C F ρ κ ls' H locs cells slots hW (jL_set (v := .int x) hL hc (Or.inl rfl) (fun _ => jS_hd hS) hl') (jS_tl hS) h1 h2)

theorem J.istore_n {j : Fin 4} (i : Nat) {x : Int32} (d : decode mi.2.1 pc = .ok (.istore_n j, 1)) (hi : (j : Nat) = i) (hn : i < mi.2.2.1) (hc : jcat L i = true) (k : J Γ b mi (pc + 1) (L.set i (some (.int x))) S M P X) : J Γ b mi pc L (.int x :: S) M P X := by
  intro p e R s m args below meth c A n0 ρ0 Q C F ρ κ ls H locs cells slots hW hL hS h1 h2
  exact lv_istore_n C.1 C.2.1 d hi (jas_has hL) hn rfl (fun ls' hl' => k p e R s m args below meth c A n0 ρ0 Q C F ρ κ ls' H locs cells slots hW (jL_set (v := .int x) hL hc (Or.inl rfl) (fun _ => jS_hd hS) hl') (jS_tl hS) h1 h2)

theorem J.astore {i : Nat} {x : Nat} (d : decode mi.2.1 pc = .ok (.astore i, 2)) (hn : i < mi.2.2.1) (hc : jcat L i = true) (k : J Γ b mi (pc + 2) (L.set i (some (.ref x))) S M P X) : J Γ b mi pc L (.ref x :: S) M P X := by
  intro p e R s m args below meth c A n0 ρ0 Q C F ρ κ ls H locs cells slots hW hL hS h1 h2
  exact lv_astore C.1 C.2.1 d (jas_has hL) hn rfl (fun ls' hl' => k p e R s m args below meth c A n0 ρ0 Q C F ρ κ ls' H locs cells slots hW (jL_set (v := .ref x) hL hc (Or.inl rfl) (fun _ => jS_hd hS) hl') (jS_tl hS) h1 h2)

theorem J.astore_n {j : Fin 4} (i : Nat) {x : Nat} (d : decode mi.2.1 pc = .ok (.astore_n j, 1)) (hi : (j : Nat) = i) (hn : i < mi.2.2.1) (hc : jcat L i = true) (k : J Γ b mi (pc + 1) (L.set i (some (.ref x))) S M P X) : J Γ b mi pc L (.ref x :: S) M P X := by
  intro p e R s m args below meth c A n0 ρ0 Q C F ρ κ ls H locs cells slots hW hL hS h1 h2
  exact lv_astore_n C.1 C.2.1 d hi (jas_has hL) hn rfl (fun ls' hl' => k p e R s m args below meth c A n0 ρ0 Q C F ρ κ ls' H locs cells slots hW (jL_set (v := .ref x) hL hc (Or.inl rfl) (fun _ => jS_hd hS) hl') (jS_tl hS) h1 h2)

theorem J.iinc {i : Nat} {n : Int} {x : Int32} (d : decode mi.2.1 pc = .ok (.iinc i n, 3)) (hl : L[i]? = some (some (.int x))) (v : Int32) (hv : x + Int32.ofInt n = v) (hc : jcat L i = true) (k : J Γ b mi (pc + 3) (L.set i (some (.int v))) S M P X) : J Γ b mi pc L S M P X := by
  intro p e R s m args below meth c A n0 ρ0 Q C F ρ κ ls H locs cells slots hW hL hS h1 h2
  obtain ⟨j, hj⟩ := List.getElem?_of_mem (jas_mem (ρ := ρ) hl)
  exact lv_iinc C.1 C.2.1 d (jas_has hL) hj hv (by rw [← hL.2.2.1]; exact (List.getElem?_eq_some_iff.mp hl).1) rfl (fun ls' hl' => k p e R s m args below meth c A n0 ρ0 Q C F ρ κ ls' H locs cells slots hW (jL_set (v := .int v) hL hc (Or.inl rfl) (fun _ => trivial) hl') hS h1 h2)

theorem J.icmp_eq {x y : Int32} {off : Int} (tgt : Nat) (d : decode mi.2.1 pc = .ok (.if_icmp .eq off, 3)) (ht : (pc : Int) + off = (tgt : Int)) (kt : x = y → J Γ b mi tgt L S M P X) (kf : ¬ x = y → J Γ b mi (pc + 3) L S M P X) : J Γ b mi pc L (.int y :: .int x :: S) M P X := by
  intro p e R s m args below meth c A n0 ρ0 Q C F ρ κ ls H locs cells slots hW hL hS h1 h2
  exact lv_icmp_eq C.1 C.2.1 d ht (fun h => kt h p e R s m args below meth c A n0 ρ0 Q C F ρ κ ls H locs cells slots hW hL (jS_tl (jS_tl hS)) h1 h2) (fun h => kf h p e R s m args below meth c A n0 ρ0 Q C F ρ κ ls H locs cells slots hW hL (jS_tl (jS_tl hS)) h1 h2)

theorem J.if_eq {x : Int32} {off : Int} (tgt : Nat) (d : decode mi.2.1 pc = .ok (.ifCond .eq off, 3)) (ht : (pc : Int) + off = (tgt : Int)) (kt : x = 0 → J Γ b mi tgt L S M P X) (kf : ¬ x = 0 → J Γ b mi (pc + 3) L S M P X) : J Γ b mi pc L (.int x :: S) M P X := by
  intro p e R s m args below meth c A n0 ρ0 Q C F ρ κ ls H locs cells slots hW hL hS h1 h2
  exact lv_if_eq C.1 C.2.1 d ht (fun h => kt h p e R s m args below meth c A n0 ρ0 Q C F ρ κ ls H locs cells slots hW hL (jS_tl hS) h1 h2) (fun h => kf h p e R s m args below meth c A n0 ρ0 Q C F ρ κ ls H locs cells slots hW hL (jS_tl hS) h1 h2)

theorem J.icmp_lt {x y : Int32} {off : Int} (tgt : Nat) (d : decode mi.2.1 pc = .ok (.if_icmp .lt off, 3)) (ht : (pc : Int) + off = (tgt : Int)) (kt : x < y → J Γ b mi tgt L S M P X) (kf : ¬ x < y → J Γ b mi (pc + 3) L S M P X) : J Γ b mi pc L (.int y :: .int x :: S) M P X := by
  intro p e R s m args below meth c A n0 ρ0 Q C F ρ κ ls H locs cells slots hW hL hS h1 h2
  exact lv_icmp_lt C.1 C.2.1 d ht (fun h => kt h p e R s m args below meth c A n0 ρ0 Q C F ρ κ ls H locs cells slots hW hL (jS_tl (jS_tl hS)) h1 h2) (fun h => kf h p e R s m args below meth c A n0 ρ0 Q C F ρ κ ls H locs cells slots hW hL (jS_tl (jS_tl hS)) h1 h2)

theorem J.if_lt {x : Int32} {off : Int} (tgt : Nat) (d : decode mi.2.1 pc = .ok (.ifCond .lt off, 3)) (ht : (pc : Int) + off = (tgt : Int)) (kt : x < 0 → J Γ b mi tgt L S M P X) (kf : ¬ x < 0 → J Γ b mi (pc + 3) L S M P X) : J Γ b mi pc L (.int x :: S) M P X := by
  intro p e R s m args below meth c A n0 ρ0 Q C F ρ κ ls H locs cells slots hW hL hS h1 h2
  exact lv_if_lt C.1 C.2.1 d ht (fun h => kt h p e R s m args below meth c A n0 ρ0 Q C F ρ κ ls H locs cells slots hW hL (jS_tl hS) h1 h2) (fun h => kf h p e R s m args below meth c A n0 ρ0 Q C F ρ κ ls H locs cells slots hW hL (jS_tl hS) h1 h2)

theorem J.icmp_ge {x y : Int32} {off : Int} (tgt : Nat) (d : decode mi.2.1 pc = .ok (.if_icmp .ge off, 3)) (ht : (pc : Int) + off = (tgt : Int)) (kt : y ≤ x → J Γ b mi tgt L S M P X) (kf : ¬ y ≤ x → J Γ b mi (pc + 3) L S M P X) : J Γ b mi pc L (.int y :: .int x :: S) M P X := by
  intro p e R s m args below meth c A n0 ρ0 Q C F ρ κ ls H locs cells slots hW hL hS h1 h2
  exact lv_icmp_ge C.1 C.2.1 d ht (fun h => kt h p e R s m args below meth c A n0 ρ0 Q C F ρ κ ls H locs cells slots hW hL (jS_tl (jS_tl hS)) h1 h2) (fun h => kf h p e R s m args below meth c A n0 ρ0 Q C F ρ κ ls H locs cells slots hW hL (jS_tl (jS_tl hS)) h1 h2)

theorem J.if_ge {x : Int32} {off : Int} (tgt : Nat) (d : decode mi.2.1 pc = .ok (.ifCond .ge off, 3)) (ht : (pc : Int) + off = (tgt : Int)) (kt : 0 ≤ x → J Γ b mi tgt L S M P X) (kf : ¬ 0 ≤ x → J Γ b mi (pc + 3) L S M P X) : J Γ b mi pc L (.int x :: S) M P X := by
  intro p e R s m args below meth c A n0 ρ0 Q C F ρ κ ls H locs cells slots hW hL hS h1 h2
  exact lv_if_ge C.1 C.2.1 d ht (fun h => kt h p e R s m args below meth c A n0 ρ0 Q C F ρ κ ls H locs cells slots hW hL (jS_tl hS) h1 h2) (fun h => kf h p e R s m args below meth c A n0 ρ0 Q C F ρ κ ls H locs cells slots hW hL (jS_tl hS) h1 h2)

theorem J.icmp_gt {x y : Int32} {off : Int} (tgt : Nat) (d : decode mi.2.1 pc = .ok (.if_icmp .gt off, 3)) (ht : (pc : Int) + off = (tgt : Int)) (kt : y < x → J Γ b mi tgt L S M P X) (kf : ¬ y < x → J Γ b mi (pc + 3) L S M P X) : J Γ b mi pc L (.int y :: .int x :: S) M P X := by
  intro p e R s m args below meth c A n0 ρ0 Q C F ρ κ ls H locs cells slots hW hL hS h1 h2
  exact lv_icmp_gt C.1 C.2.1 d ht (fun h => kt h p e R s m args below meth c A n0 ρ0 Q C F ρ κ ls H locs cells slots hW hL (jS_tl (jS_tl hS)) h1 h2) (fun h => kf h p e R s m args below meth c A n0 ρ0 Q C F ρ κ ls H locs cells slots hW hL (jS_tl (jS_tl hS)) h1 h2)

theorem J.if_gt {x : Int32} {off : Int} (tgt : Nat) (d : decode mi.2.1 pc = .ok (.ifCond .gt off, 3)) (ht : (pc : Int) + off = (tgt : Int)) (kt : 0 < x → J Γ b mi tgt L S M P X) (kf : ¬ 0 < x → J Γ b mi (pc + 3) L S M P X) : J Γ b mi pc L (.int x :: S) M P X := by
  intro p e R s m args below meth c A n0 ρ0 Q C F ρ κ ls H locs cells slots hW hL hS h1 h2
  exact lv_if_gt C.1 C.2.1 d ht (fun h => kt h p e R s m args below meth c A n0 ρ0 Q C F ρ κ ls H locs cells slots hW hL (jS_tl hS) h1 h2) (fun h => kf h p e R s m args below meth c A n0 ρ0 Q C F ρ κ ls H locs cells slots hW hL (jS_tl hS) h1 h2)

theorem J.icmp_le {x y : Int32} {off : Int} (tgt : Nat) (d : decode mi.2.1 pc = .ok (.if_icmp .le off, 3)) (ht : (pc : Int) + off = (tgt : Int)) (kt : x ≤ y → J Γ b mi tgt L S M P X) (kf : ¬ x ≤ y → J Γ b mi (pc + 3) L S M P X) : J Γ b mi pc L (.int y :: .int x :: S) M P X := by
  intro p e R s m args below meth c A n0 ρ0 Q C F ρ κ ls H locs cells slots hW hL hS h1 h2
  exact lv_icmp_le C.1 C.2.1 d ht (fun h => kt h p e R s m args below meth c A n0 ρ0 Q C F ρ κ ls H locs cells slots hW hL (jS_tl (jS_tl hS)) h1 h2) (fun h => kf h p e R s m args below meth c A n0 ρ0 Q C F ρ κ ls H locs cells slots hW hL (jS_tl (jS_tl hS)) h1 h2)

theorem J.if_le {x : Int32} {off : Int} (tgt : Nat) (d : decode mi.2.1 pc = .ok (.ifCond .le off, 3)) (ht : (pc : Int) + off = (tgt : Int)) (kt : x ≤ 0 → J Γ b mi tgt L S M P X) (kf : ¬ x ≤ 0 → J Γ b mi (pc + 3) L S M P X) : J Γ b mi pc L (.int x :: S) M P X := by
  intro p e R s m args below meth c A n0 ρ0 Q C F ρ κ ls H locs cells slots hW hL hS h1 h2
  exact lv_if_le C.1 C.2.1 d ht (fun h => kt h p e R s m args below meth c A n0 ρ0 Q C F ρ κ ls H locs cells slots hW hL (jS_tl hS) h1 h2) (fun h => kf h p e R s m args below meth c A n0 ρ0 Q C F ρ κ ls H locs cells slots hW hL (jS_tl hS) h1 h2)

theorem J.icmp_ne {x y : Int32} {off : Int} (tgt : Nat) (d : decode mi.2.1 pc = .ok (.if_icmp .ne off, 3)) (ht : (pc : Int) + off = (tgt : Int)) (kt : ¬ x = y → J Γ b mi tgt L S M P X) (kf : x = y → J Γ b mi (pc + 3) L S M P X) : J Γ b mi pc L (.int y :: .int x :: S) M P X := by
  intro p e R s m args below meth c A n0 ρ0 Q C F ρ κ ls H locs cells slots hW hL hS h1 h2
  exact lv_icmp_ne C.1 C.2.1 d ht (fun h => kt h p e R s m args below meth c A n0 ρ0 Q C F ρ κ ls H locs cells slots hW hL (jS_tl (jS_tl hS)) h1 h2) (fun h => kf h p e R s m args below meth c A n0 ρ0 Q C F ρ κ ls H locs cells slots hW hL (jS_tl (jS_tl hS)) h1 h2)

theorem J.if_ne {x : Int32} {off : Int} (tgt : Nat) (d : decode mi.2.1 pc = .ok (.ifCond .ne off, 3)) (ht : (pc : Int) + off = (tgt : Int)) (kt : ¬ x = 0 → J Γ b mi tgt L S M P X) (kf : x = 0 → J Γ b mi (pc + 3) L S M P X) : J Γ b mi pc L (.int x :: S) M P X := by
  intro p e R s m args below meth c A n0 ρ0 Q C F ρ κ ls H locs cells slots hW hL hS h1 h2
  exact lv_if_ne C.1 C.2.1 d ht (fun h => kt h p e R s m args below meth c A n0 ρ0 Q C F ρ κ ls H locs cells slots hW hL (jS_tl hS) h1 h2) (fun h => kf h p e R s m args below meth c A n0 ρ0 Q C F ρ κ ls H locs cells slots hW hL (jS_tl hS) h1 h2)

theorem J.goto {off : Int} (tgt : Nat) (d : decode mi.2.1 pc = .ok (.goto off, 3)) (ht : (pc : Int) + off = (tgt : Int)) (k : J Γ b mi tgt L S M P X) : J Γ b mi pc L S M P X := by
  intro p e R s m args below meth c A n0 ρ0 Q C F ρ κ ls H locs cells slots hW hL hS h1 h2
  exact lv_goto C.1 C.2.1 d ht (k p e R s m args below meth c A n0 ρ0 Q C F ρ κ ls H locs cells slots hW hL hS h1 h2)

theorem J.ifnullR {x : Nat} {off : Int} (d : decode mi.2.1 pc = .ok (.ifnull off, 3)) (k : J Γ b mi (pc + 3) L S M P X) : J Γ b mi pc L (.ref x :: S) M P X := by
  intro p e R s m args below meth c A n0 ρ0 Q C F ρ κ ls H locs cells slots hW hL hS h1 h2
  exact lv_ifnull C.1 C.2.1 d (k p e R s m args below meth c A n0 ρ0 Q C F ρ κ ls H locs cells slots hW hL (jS_tl hS) h1 h2)

theorem J.tableIn {dflt lo hi : Int} {offs : Array Int} {len : Nat} {x : Int32} {off : Int} (tgt : Nat) (d : decode mi.2.1 pc = .ok (.tableswitch dflt lo hi offs, len)) (g1 : ¬ x.toInt < lo) (g2 : ¬ hi < x.toInt) (ho : offs[(x.toInt - lo).toNat]? = some off) (ht : (pc : Int) + off = (tgt : Int)) (k : J Γ b mi tgt L S M P X) : J Γ b mi pc L (.int x :: S) M P X := by
  intro p e R s m args below meth c A n0 ρ0 Q C F ρ κ ls H locs cells slots hW hL hS h1 h2
  exact lv_tableIn C.1 C.2.1 d g1 g2 ho ht (k p e R s m args below meth c A n0 ρ0 Q C F ρ κ ls H locs cells slots hW hL (jS_tl hS) h1 h2)

/-- a field: the class by its number, its place, its type, and the word that links it -/
def jFld (own : String) (idx ci k : Nat) (ty : FieldType) (fin : Bool) : Prop :=
  ∃ C T N, vwCl[ci]? = some (C, T, N) ∧ k < N ∧ Cond.fieldLink own idx (T k).1 (T k).2.1 (T k).2.2.1 ∈ jG ∧ (fin = true → (T k).1 = C) ∧ parseFieldDescriptor (T k).2.2.1 = some ty ∧ (T k).2.2.2 = fin
/-- what the tables say of each class -/
def jCls : Prop := ∀ (ci : Nat) (C : String) (T : u_T) (N : Nat), vwCl[ci]? = some (C, T, N) → ci < 100 ∧ (∀ w ∈ u_ws C T N, w ∈ jG) ∧ (∃ ty0 : Nat → FieldType, ∀ k, k < N → parseFieldDescriptor (T k).2.2.1 = some (ty0 k)) ∧ ∀ a, a < N → ∀ b, b < N → a ≠ b → (T a).2.1 ≠ (T b).2.1
theorem jcell_obj {ρ : Nat → Nat} {κ : Nat → ClassId} {M : jM} {q ci n : Nat} (h : ci < 100) : jcell ρ κ M q (ci, n) = .inr (ci, (List.range n).map (jfv ρ M q ci)) := by
  unfold jcell; rw [if_pos h]
theorem jfs_at {ρ : Nat → Nat} {M : jM} {q ci n k : Nat} (h : k < n) : ((List.range n).map (jfv ρ M q ci))[k]? = some (jfv ρ M q ci k) := by
  rw [List.getElem?_map, List.getElem?_range h]; rfl
theorem jfs_set {ρ : Nat → Nat} {M M' : jM} {q ci n k : Nat} {v : Value} (hk : jfv ρ M' q ci k = v) (ho : ∀ i, i ≠ k → jfv ρ M' q ci i = jfv ρ M q ci i) : ((List.range n).map (jfv ρ M q ci)).set k v = (List.range n).map (jfv ρ M' q ci) := by
  apply List.ext_getElem?
  intro i
  rw [List.getElem?_set, List.getElem?_map, List.getElem?_map]
  by_cases hi : k = i
  · subst hi
    rw [if_pos rfl]
    by_cases hn : k < n
    · simp [hn, hk]
    · simp [hn]
  · rw [if_neg hi]
    by_cases hn : i < n
    · simp [hn, ho i (fun e => hi e.symm)]
    · simp [hn]

theorem J.getI (hcl : jCls) {q idx ci k n : Nat} {ty : FieldType} {fin : Bool} (d : decode mi.2.1 pc = .ok (.getfield idx, 3)) (f : jFld mi.1.cls idx ci k ty fin) (hs : M.1[q]? = some (ci, n)) (hn : k < n) (hr : jrf ci k = false) (kk : J Γ b mi (pc + 3) L (.int (M.2.2.1 q k) :: S) M P X) : J Γ b mi pc L (.ref q :: S) M P X := by
  intro p e R s m args below meth c A n0 ρ0 Q C F ρ κ ls H locs cells slots hW hL hS h1 h2
  obtain ⟨Cn, T, N, hc, hk, hlk, hrf, hty, hfi⟩ := f
  obtain ⟨hci, hin, -, -⟩ := hcl ci Cn T N hc
  have he := jw_at (ρ := ρ) (κ := κ) hs
  rw [jcell_obj hci] at he
  refine va_get C.1 C.2.1 C.2.2.2.2.2.2.1 hin C.2.2.2.2.2.1 C.2.2.2.2.2.2.2.2.2.1 hW.1 q he hc k hk (C.2.2.2.2.2.2.1 _ hlk) (fun x hx => hx) (jfs_at hn) d ?_
  unfold jfv
  rw [if_neg (by rw [hr]; exact Bool.false_ne_true)]
  exact kk p e R s m args below meth c A n0 ρ0 Q C F ρ κ ls H locs cells slots hW hL (jS_c (v := .int _) trivial (jS_tl hS)) h1 h2

theorem J.getR (hcl : jCls) {q idx ci k n r : Nat} {ty : FieldType} {fin : Bool} (d : decode mi.2.1 pc = .ok (.getfield idx, 3)) (f : jFld mi.1.cls idx ci k ty fin) (hs : M.1[q]? = some (ci, n)) (hn : k < n) (hr : jrf ci k = true) (hv : M.2.1 q k = some r) (kk : J Γ b mi (pc + 3) L (.ref r :: S) M P X) : J Γ b mi pc L (.ref q :: S) M P X := by
  intro p e R s m args below meth c A n0 ρ0 Q C F ρ κ ls H locs cells slots hW hL hS h1 h2
  obtain ⟨Cn, T, N, hc, hk, hlk, hrf, hty, hfi⟩ := f
  obtain ⟨hci, hin, -, -⟩ := hcl ci Cn T N hc
  have he := jw_at (ρ := ρ) (κ := κ) hs
  rw [jcell_obj hci] at he
  refine va_get C.1 C.2.1 C.2.2.2.2.2.2.1 hin C.2.2.2.2.2.1 C.2.2.2.2.2.2.2.2.2.1 hW.1 q he hc k hk (C.2.2.2.2.2.2.1 _ hlk) (fun x hx => hx) (jfs_at hn) d ?_
  unfold jfv
  rw [if_pos hr, hv]
  exact kk p e R s m args below meth c A n0 ρ0 Q C F ρ κ ls H locs cells slots hW hL (jS_c (v := .ref r) (Or.inl (hW.2.2.2.2.1 q k r hv)) (jS_tl hS)) h1 h2

theorem jw_putI {ρ : Nat → Nat} {κ : Nat → ClassId} {M : jM} {q ci k n : Nat} {x : Int32} (hci : ci < 100) (hs : M.1[q]? = some (ci, n)) (hr : jrf ci k = false) :
    (jw ρ κ M).set q (ρ q, .inr (ci, ((List.range n).map (jfv ρ M q ci)).set k (.int x))) = jw ρ κ (M.1, M.2.1, jup2 M.2.2.1 q k x, M.2.2.2) := by
  have e1 : ((List.range n).map (jfv ρ M q ci)).set k (.int x) = (List.range n).map (jfv ρ (M.1, M.2.1, jup2 M.2.2.1 q k x, M.2.2.2) q ci) := by
    refine jfs_set ?_ ?_
    · unfold jfv; rw [if_neg (by rw [hr]; exact Bool.false_ne_true)]; simp [jup2]
    · intro i hi; unfold jfv; simp [jup2, hi]
  rw [e1, ← jcell_obj (κ := κ) hci]
  refine jw_set hs rfl ?_
  intro a z' ha _
  have e2 : ∀ c i, jfv ρ (M.1, M.2.1, jup2 M.2.2.1 q k x, M.2.2.2) a c i = jfv ρ M a c i := fun c i => by unfold jfv; simp [jup2, ha]
  have e3 : jup2 M.2.2.1 q k x a = M.2.2.1 a := by funext i; simp [jup2, ha]
  unfold jcell
  simp only [e3, show jfv ρ (M.1, M.2.1, jup2 M.2.2.1 q k x, M.2.2.2) a z'.1 = jfv ρ M a z'.1 from funext fun i => e2 _ i]
theorem jw_putR {ρ : Nat → Nat} {κ : Nat → ClassId} {M : jM} {q ci k n r : Nat} (hci : ci < 100) (hs : M.1[q]? = some (ci, n)) (hr : jrf ci k = true) :
    (jw ρ κ M).set q (ρ q, .inr (ci, ((List.range n).map (jfv ρ M q ci)).set k (.ref (ρ r)))) = jw ρ κ (M.1, jup2 M.2.1 q k (some r), M.2.2) := by
  have e1 : ((List.range n).map (jfv ρ M q ci)).set k (.ref (ρ r)) = (List.range n).map (jfv ρ (M.1, jup2 M.2.1 q k (some r), M.2.2) q ci) := by
    refine jfs_set ?_ ?_
    · unfold jfv; rw [if_pos hr]; simp [jup2, va_rf]
    · intro i hi; unfold jfv; simp [jup2, hi]
  rw [e1, ← jcell_obj (κ := κ) hci]
  refine jw_set hs rfl ?_
  intro a z' ha _
  have e3 : jup2 M.2.1 q k (some r) a = M.2.1 a := by funext i; simp [jup2, ha]
  unfold jcell jfv
  simp only [e3]

theorem J.putI (hcl : jCls) {q idx ci k n : Nat} {ty : FieldType} {x : Int32} (d : decode mi.2.1 pc = .ok (.putfield idx, 3)) (f : jFld mi.1.cls idx ci k ty false) (hs : M.1[q]? = some (ci, n)) (hn : k < n) (hr : jrf ci k = false) (hx : narrow ty (.int x) = .int x) (hx2 : fits ty (.int x) = true) (kk : J Γ b mi (pc + 3) L S (M.1, M.2.1, jup2 M.2.2.1 q k x, M.2.2.2) P X) : J Γ b mi pc L (.int x :: .ref q :: S) M P X := by
  intro p e R s m args below meth c A n0 ρ0 Q C F ρ κ ls H locs cells slots hW hL hS h1 h2
  obtain ⟨Cn, T, N, hc, hk, hlk, hrf, hty, hfi⟩ := f
  obtain ⟨hci, hin, ⟨ty0, hty0⟩, hnm⟩ := hcl ci Cn T N hc
  have he := jw_at (ρ := ρ) (κ := κ) hs
  rw [jcell_obj hci] at he
  refine va_put (v := .int x) C.1 C.2.1 C.2.2.2.2.2.2.1 hin ty0 hty0 hnm C.2.2.2.2.2.1 C.2.2.2.2.2.2.2.2.2.1 hW.1 hW.2.1 hW.2.2.1 q he hc k hk (C.2.2.2.2.2.2.1 _ hlk) (fun x hx => hx) hfi hty hx hx2 (by simpa using hn) d (fun H1 locs1 hP1 hD1 hS1 => ?_)
  rw [jw_putI hci hs hr] at hP1 hD1
  exact kk p e R s m args below meth c A n0 ρ0 Q C F ρ κ ls H1 locs1 cells slots ⟨hP1, hD1, hS1, hW.2.2.2⟩ hL (jS_tl (jS_tl hS)) h1 h2

theorem jtau_up {τ : Nat → Nat → Option Nat} {n q k r : Nat} (h : ∀ a i z, τ a i = some z → z < n) (hr : r < n) : ∀ a i z, jup2 τ q k (some r) a i = some z → z < n := by
  intro a i z hz
  unfold jup2 at hz
  split at hz
  · cases hz; exact hr
  · exact h a i z hz

theorem J.putFR (hcl : jCls) {q idx ci k n r : Nat} {ty : FieldType} (d : decode mi.2.1 pc = .ok (.putfield idx, 3)) (f : jFld mi.1.cls idx ci k ty true) (hs : M.1[q]? = some (ci, n)) (hn : k < n) (hr : jrf ci k = true) (hin2 : mi.1.name = "<init>") (hown : (vwCl.getD ci (RX0, TX0, 3)).1 = mi.1.cls) (hx : ∀ a : Nat, narrow ty (.ref a) = .ref a ∧ fits ty (.ref a) = true) (hrn : r < M.1.length) (kk : J Γ b mi (pc + 3) L S (M.1, jup2 M.2.1 q k (some r), M.2.2) P X) : J Γ b mi pc L (.ref r :: .ref q :: S) M P X := by
  intro p e R s m args below meth c A n0 ρ0 Q C F ρ κ ls H locs cells slots hW hL hS h1 h2
  obtain ⟨Cn, T, N, hc, hk, hlk, hrf, hty, hfi⟩ := f
  obtain ⟨hci, hin, ⟨ty0, hty0⟩, hnm⟩ := hcl ci Cn T N hc
  have he := jw_at (ρ := ρ) (κ := κ) hs
  rw [jcell_obj hci] at he
  refine va_putF (v := .ref (ρ r)) C.1 C.2.1 C.2.2.2.2.2.2.1 hin ty0 hty0 hnm C.2.2.2.2.2.1 C.2.2.2.2.2.2.2.2.2.1 hW.1 hW.2.1 hW.2.2.1 q he hc k hk (C.2.2.2.2.2.2.1 _ hlk) (fun x hx => hx) hfi (C.2.2.2.2.2.2.2.2.2.2.2.2.2.1 hin2) (by rw [hrf rfl, ← hown, List.getD_eq_getElem?_getD, hc]; rfl) hty (hx _).1 (hx _).2 (by simpa using hn) d (fun H1 locs1 hP1 hD1 hS1 => ?_)
  rw [jw_putR hci hs hr] at hP1 hD1
  exact kk p e R s m args below meth c A n0 ρ0 Q C F ρ κ ls H1 locs1 cells slots ⟨hP1, hD1, hS1, hW.2.2.2.1, jtau_up hW.2.2.2.2.1 hrn, hW.2.2.2.2.2⟩ hL (jS_tl (jS_tl hS)) h1 h2

theorem jcell_arr {ρ : Nat → Nat} {κ : Nat → ClassId} {M : jM} {q t n : Nat} (h : t = 100 ∨ t = 101 ∨ t = 102) : jcell ρ κ M q (t, n) = .inl (κ q, n, .inl (M.2.2.1 q)) := by
  rcases h with rfl | rfl | rfl <;> rfl
theorem jw_setA {ρ : Nat → Nat} {κ : Nat → ClassId} {M : jM} {q t n i : Nat} {x : Int32} (ht : t = 100 ∨ t = 101 ∨ t = 102) (hs : M.1[q]? = some (t, n)) :
    (jw ρ κ M).set q (ρ q, .inl (κ q, n, .inl (upd (M.2.2.1 q) i x))) = jw ρ κ (M.1, M.2.1, jup2 M.2.2.1 q i x, M.2.2.2) := by
  have e1 : upd (M.2.2.1 q) i x = jup2 M.2.2.1 q i x q := by funext j; simp [upd, jup2]
  rw [e1]
  have e4 := jcell_arr (ρ := ρ) (κ := κ) (M := (M.1, M.2.1, jup2 M.2.2.1 q i x, M.2.2.2)) (q := q) (n := n) ht
  rw [← e4]
  refine jw_set hs rfl ?_
  intro a z' ha _
  have e2 : ∀ c j, jfv ρ (M.1, M.2.1, jup2 M.2.2.1 q i x, M.2.2.2) a c j = jfv ρ M a c j := fun c j => by unfold jfv; simp [jup2, ha]
  have e3 : jup2 M.2.2.1 q i x a = M.2.2.1 a := by funext j; simp [jup2, ha]
  unfold jcell
  simp only [e3, show jfv ρ (M.1, M.2.1, jup2 M.2.2.1 q i x, M.2.2.2) a z'.1 = jfv ρ M a z'.1 from funext fun i => e2 _ i]

theorem J.iald {q n : Nat} {i : Int32} (d : decode mi.2.1 pc = .ok (.iaload, 1)) (hs : M.1[q]? = some (100, n)) (hin : vp_in i n) (kk : J Γ b mi (pc + 1) L (.int (M.2.2.1 q i.toNatClampNeg) :: S) M P X) : J Γ b mi pc L (.int i :: .ref q :: S) M P X := by
  intro p e R s m args below meth c A n0 ρ0 Q C F ρ κ ls H locs cells slots hW hL hS h1 h2
  have he := jw_at (ρ := ρ) (κ := κ) hs
  rw [jcell_arr (by decide)] at he
  have hK := hW.2.2.2.1 q _ hs (Nat.le_of_ble_eq_true rfl)
  exact va_iald C.1 C.2.1 hK hW.1 q 0 he rfl hin d (kk p e R s m args below meth c A n0 ρ0 Q C F ρ κ ls H locs cells slots hW hL (jS_c (v := .int _) trivial (jS_tl (jS_tl hS))) h1 h2)

theorem J.iast {q n : Nat} {i x : Int32} (d : decode mi.2.1 pc = .ok (.iastore, 1)) (hs : M.1[q]? = some (100, n)) (hin : vp_in i n) (kk : J Γ b mi (pc + 1) L S (M.1, M.2.1, jup2 M.2.2.1 q i.toNatClampNeg x, M.2.2.2) P X) : J Γ b mi pc L (.int x :: .int i :: .ref q :: S) M P X := by
  intro p e R s m args below meth c A n0 ρ0 Q C F ρ κ ls H locs cells slots hW hL hS h1 h2
  have he := jw_at (ρ := ρ) (κ := κ) hs
  rw [jcell_arr (by decide)] at he
  have hK := hW.2.2.2.1 q _ hs (Nat.le_of_ble_eq_true rfl)
  refine va_iast C.1 C.2.1 hK hW.1 hW.2.1 hW.2.2.1 q 0 he rfl hin d (fun H1 locs1 hP1 hD1 hS1 => ?_)
  rw [jw_setA (by decide) hs] at hP1 hD1
  exact kk p e R s m args below meth c A n0 ρ0 Q C F ρ κ ls H1 locs1 cells slots ⟨hP1, hD1, hS1, hW.2.2.2⟩ hL (jS_tl (jS_tl (jS_tl hS))) h1 h2

theorem J.bald {q n : Nat} {i : Int32} (d : decode mi.2.1 pc = .ok (.baload, 1)) (hs : M.1[q]? = some (101, n)) (hin : vp_in i n) (kk : J Γ b mi (pc + 1) L (.int (M.2.2.1 q i.toNatClampNeg) :: S) M P X) : J Γ b mi pc L (.int i :: .ref q :: S) M P X := by
  intro p e R s m args below meth c A n0 ρ0 Q C F ρ κ ls H locs cells slots hW hL hS h1 h2
  have he := jw_at (ρ := ρ) (κ := κ) hs
  rw [jcell_arr (by decide)] at he
  have hK := hW.2.2.2.1 q _ hs (Nat.le_of_ble_eq_true rfl)
  exact va_bald C.1 C.2.1 hK hW.1 q 0 he rfl hin d (kk p e R s m args below meth c A n0 ρ0 Q C F ρ κ ls H locs cells slots hW hL (jS_c (v := .int _) trivial (jS_tl (jS_tl hS))) h1 h2)

theorem J.bast {q n : Nat} {i x : Int32} (d : decode mi.2.1 pc = .ok (.bastore, 1)) (hs : M.1[q]? = some (101, n)) (hin : vp_in i n) (kk : J Γ b mi (pc + 1) L S (M.1, M.2.1, jup2 M.2.2.1 q i.toNatClampNeg (vp_nar .byte x), M.2.2.2) P X) : J Γ b mi pc L (.int x :: .int i :: .ref q :: S) M P X := by
  intro p e R s m args below meth c A n0 ρ0 Q C F ρ κ ls H locs cells slots hW hL hS h1 h2
  have he := jw_at (ρ := ρ) (κ := κ) hs
  rw [jcell_arr (by decide)] at he
  have hK := hW.2.2.2.1 q _ hs (Nat.le_of_ble_eq_true rfl)
  refine va_bast C.1 C.2.1 hK hW.1 hW.2.1 hW.2.2.1 q 0 he rfl hin d (fun H1 locs1 hP1 hD1 hS1 => ?_)
  rw [jw_setA (by decide) hs] at hP1 hD1
  exact kk p e R s m args below meth c A n0 ρ0 Q C F ρ κ ls H1 locs1 cells slots ⟨hP1, hD1, hS1, hW.2.2.2⟩ hL (jS_tl (jS_tl (jS_tl hS))) h1 h2

theorem J.cald {q n : Nat} {i : Int32} (d : decode mi.2.1 pc = .ok (.caload, 1)) (hs : M.1[q]? = some (102, n)) (hin : vp_in i n) (kk : J Γ b mi (pc + 1) L (.int (M.2.2.1 q i.toNatClampNeg) :: S) M P X) : J Γ b mi pc L (.int i :: .ref q :: S) M P X := by
  intro p e R s m args below meth c A n0 ρ0 Q C F ρ κ ls H locs cells slots hW hL hS h1 h2
  have he := jw_at (ρ := ρ) (κ := κ) hs
  rw [jcell_arr (by decide)] at he
  have hK := hW.2.2.2.1 q _ hs (Nat.le_of_ble_eq_true rfl)
  exact va_cald C.1 C.2.1 hK hW.1 q 0 he rfl hin d (kk p e R s m args below meth c A n0 ρ0 Q C F ρ κ ls H locs cells slots hW hL (jS_c (v := .int _) trivial (jS_tl (jS_tl hS))) h1 h2)

theorem J.cast {q n : Nat} {i x : Int32} (d : decode mi.2.1 pc = .ok (.castore, 1)) (hs : M.1[q]? = some (102, n)) (hin : vp_in i n) (kk : J Γ b mi (pc + 1) L S (M.1, M.2.1, jup2 M.2.2.1 q i.toNatClampNeg (vp_nar .char x), M.2.2.2) P X) : J Γ b mi pc L (.int x :: .int i :: .ref q :: S) M P X := by
  intro p e R s m args below meth c A n0 ρ0 Q C F ρ κ ls H locs cells slots hW hL hS h1 h2
  have he := jw_at (ρ := ρ) (κ := κ) hs
  rw [jcell_arr (by decide)] at he
  have hK := hW.2.2.2.1 q _ hs (Nat.le_of_ble_eq_true rfl)
  refine va_cast C.1 C.2.1 hK hW.1 hW.2.1 hW.2.2.1 q 0 he rfl hin d (fun H1 locs1 hP1 hD1 hS1 => ?_)
  rw [jw_setA (by decide) hs] at hP1 hD1
  exact kk p e R s m args below meth c A n0 ρ0 Q C F ρ κ ls H1 locs1 cells slots ⟨hP1, hD1, hS1, hW.2.2.2⟩ hL (jS_tl (jS_tl (jS_tl hS))) h1 h2

theorem J.alen {q t n : Nat} (d : decode mi.2.1 pc = .ok (.arraylength, 1)) (hs : M.1[q]? = some (t, n)) (ht : 100 ≤ t) (kk : J Γ b mi (pc + 1) L (.int (Int32.ofNat n) :: S) M P X) : J Γ b mi pc L (.ref q :: S) M P X := by
  intro p e R s m args below meth c A n0 ρ0 Q C F ρ κ ls H locs cells slots hW hL hS h1 h2
  have he := jw_at (ρ := ρ) (κ := κ) hs
  unfold jcell at he
  rw [if_neg (Nat.not_lt.mpr ht)] at he
  exact va_alen C.1 C.2.1 (hW.2.2.2.1 q _ hs ht) hW.1 q 0 he rfl rfl d (kk p e R s m args below meth c A n0 ρ0 Q C F ρ κ ls H locs cells slots hW hL (jS_c (v := .int _) trivial (jS_tl hS)) h1 h2)

theorem jw_setL {ρ : Nat → Nat} {κ : Nat → ClassId} {M : jM} {q n i : Nat} {x : Int64} (hs : M.1[q]? = some (103, n)) :
    (jw ρ κ M).set q (ρ q, .inl (κ q, n, .inr (.inl (vp_updL (M.2.2.2.1 q) i x)))) = jw ρ κ (M.1, M.2.1, M.2.2.1, jup2 M.2.2.2.1 q i x, M.2.2.2.2) := by
  have e1 : vp_updL (M.2.2.2.1 q) i x = jup2 M.2.2.2.1 q i x q := by funext j; simp [vp_updL, jup2]
  rw [e1]
  refine jw_set (M' := (M.1, M.2.1, M.2.2.1, jup2 M.2.2.2.1 q i x, M.2.2.2.2)) hs rfl ?_
  intro a z' ha _
  have e3 : jup2 M.2.2.2.1 q i x a = M.2.2.2.1 a := by funext j; simp [jup2, ha]
  unfold jcell jfv
  simp only [e3]
theorem jw_setD {ρ : Nat → Nat} {κ : Nat → ClassId} {M : jM} {q n i : Nat} {x : UInt64} (hs : M.1[q]? = some (104, n)) :
    (jw ρ κ M).set q (ρ q, .inl (κ q, n, .inr (.inr (.inr (.inl (vf_upd (M.2.2.2.2 q) i x)))))) = jw ρ κ (M.1, M.2.1, M.2.2.1, M.2.2.2.1, jup2 M.2.2.2.2 q i x) := by
  have e1 : vf_upd (M.2.2.2.2 q) i x = jup2 M.2.2.2.2 q i x q := by funext j; simp [vf_upd, jup2]
  rw [e1]
  refine jw_set (M' := (M.1, M.2.1, M.2.2.1, M.2.2.2.1, jup2 M.2.2.2.2 q i x)) hs rfl ?_
  intro a z' ha _
  have e3 : jup2 M.2.2.2.2 q i x a = M.2.2.2.2 a := by funext j; simp [jup2, ha]
  unfold jcell jfv
  simp only [e3]
theorem jw_setR {ρ : Nat → Nat} {κ : Nat → ClassId} {M : jM} {q n i r : Nat} (hs : M.1[q]? = some (105, n)) :
    (jw ρ κ M).set q (ρ q, .inl (κ q, n, .inr (.inr (.inr (.inr (va_up (fun i => (M.2.1 q i).map ρ) i (some (ρ r)))))))) = jw ρ κ (M.1, jup2 M.2.1 q i (some r), M.2.2) := by
  have e1 : va_up (fun i => (M.2.1 q i).map ρ) i (some (ρ r)) = fun j => (jup2 M.2.1 q i (some r) q j).map ρ := by funext j; by_cases hj : j = i <;> simp [va_up, jup2, hj]
  rw [e1]
  refine jw_set (M' := (M.1, jup2 M.2.1 q i (some r), M.2.2)) hs rfl ?_
  intro a z' ha _
  have e3 : jup2 M.2.1 q i (some r) a = M.2.1 a := by funext j; simp [jup2, ha]
  unfold jcell jfv
  simp only [e3]

theorem J.lald {q n : Nat} {i : Int32} (d : decode mi.2.1 pc = .ok (.laload, 1)) (hs : M.1[q]? = some (103, n)) (hin : vp_in i n) (kk : J Γ b mi (pc + 1) L (.long (M.2.2.2.1 q i.toNatClampNeg) :: S) M P X) : J Γ b mi pc L (.int i :: .ref q :: S) M P X := by
  intro p e R s m args below meth c A n0 ρ0 Q C F ρ κ ls H locs cells slots hW hL hS h1 h2
  have he := jw_at (ρ := ρ) (κ := κ) hs
  have hK := hW.2.2.2.1 q _ hs (Nat.le_of_ble_eq_true rfl)
  exact va_lald C.1 C.2.1 hK hW.1 q 0 he rfl hin d (kk p e R s m args below meth c A n0 ρ0 Q C F ρ κ ls H locs cells slots hW hL (jS_c (v := .long _) trivial (jS_tl (jS_tl hS))) h1 h2)

theorem J.last {q n : Nat} {i : Int32} {x : Int64} (d : decode mi.2.1 pc = .ok (.lastore, 1)) (hs : M.1[q]? = some (103, n)) (hin : vp_in i n) (kk : J Γ b mi (pc + 1) L S (M.1, M.2.1, M.2.2.1, jup2 M.2.2.2.1 q i.toNatClampNeg x, M.2.2.2.2) P X) : J Γ b mi pc L (.long x :: .int i :: .ref q :: S) M P X := by
  intro p e R s m args below meth c A n0 ρ0 Q C F ρ κ ls H locs cells slots hW hL hS h1 h2
  have he := jw_at (ρ := ρ) (κ := κ) hs
  have hK := hW.2.2.2.1 q _ hs (Nat.le_of_ble_eq_true rfl)
  refine va_last C.1 C.2.1 hK hW.1 hW.2.1 hW.2.2.1 q 0 he rfl hin d (fun H1 locs1 hP1 hD1 hS1 => ?_)
  rw [jw_setL hs] at hP1 hD1
  exact kk p e R s m args below meth c A n0 ρ0 Q C F ρ κ ls H1 locs1 cells slots ⟨hP1, hD1, hS1, hW.2.2.2⟩ hL (jS_tl (jS_tl (jS_tl hS))) h1 h2

theorem J.dald {q n : Nat} {i : Int32} (d : decode mi.2.1 pc = .ok (.daload, 1)) (hs : M.1[q]? = some (104, n)) (hin : vp_in i n) (kk : J Γ b mi (pc + 1) L (.double (M.2.2.2.2 q i.toNatClampNeg) :: S) M P X) : J Γ b mi pc L (.int i :: .ref q :: S) M P X := by
  intro p e R s m args below meth c A n0 ρ0 Q C F ρ κ ls H locs cells slots hW hL hS h1 h2
  have he := jw_at (ρ := ρ) (κ := κ) hs
  have hK := hW.2.2.2.1 q _ hs (Nat.le_of_ble_eq_true rfl)
  exact va_dald C.1 C.2.1 hK hW.1 q 0 he rfl hin d (kk p e R s m args below meth c A n0 ρ0 Q C F ρ κ ls H locs cells slots hW hL (jS_c (v := .double _) trivial (jS_tl (jS_tl hS))) h1 h2)

theorem J.dast {q n : Nat} {i : Int32} {x : UInt64} (d : decode mi.2.1 pc = .ok (.dastore, 1)) (hs : M.1[q]? = some (104, n)) (hin : vp_in i n) (kk : J Γ b mi (pc + 1) L S (M.1, M.2.1, M.2.2.1, M.2.2.2.1, jup2 M.2.2.2.2 q i.toNatClampNeg x) P X) : J Γ b mi pc L (.double x :: .int i :: .ref q :: S) M P X := by
  intro p e R s m args below meth c A n0 ρ0 Q C F ρ κ ls H locs cells slots hW hL hS h1 h2
  have he := jw_at (ρ := ρ) (κ := κ) hs
  have hK := hW.2.2.2.1 q _ hs (Nat.le_of_ble_eq_true rfl)
  refine va_dast C.1 C.2.1 hK hW.1 hW.2.1 hW.2.2.1 q 0 he rfl hin d (fun H1 locs1 hP1 hD1 hS1 => ?_)
  rw [jw_setD hs] at hP1 hD1
  exact kk p e R s m args below meth c A n0 ρ0 Q C F ρ κ ls H1 locs1 cells slots ⟨hP1, hD1, hS1, hW.2.2.2⟩ hL (jS_tl (jS_tl (jS_tl hS))) h1 h2

theorem J.aald {q n r : Nat} {i : Int32} (d : decode mi.2.1 pc = .ok (.aaload, 1)) (hs : M.1[q]? = some (105, n)) (hin : vp_in i n) (hr : M.2.1 q i.toNatClampNeg = some r) (kk : J Γ b mi (pc + 1) L (.ref r :: S) M P X) : J Γ b mi pc L (.int i :: .ref q :: S) M P X := by
  intro p e R s m args below meth c A n0 ρ0 Q C F ρ κ ls H locs cells slots hW hL hS h1 h2
  have he := jw_at (ρ := ρ) (κ := κ) hs
  have hK := hW.2.2.2.1 q _ hs (Nat.le_of_ble_eq_true rfl)
  refine va_aldq C.1 C.2.1 hK hW.1 q 0 he rfl hin d ?_
  simp only [hr]
  exact kk p e R s m args below meth c A n0 ρ0 Q C F ρ κ ls H locs cells slots hW hL (jS_c (v := .ref r) (Or.inl (hW.2.2.2.2.1 q _ r hr)) (jS_tl (jS_tl hS))) h1 h2

theorem J.aast (hcl : jCls) {q n r n6 : Nat} {i : Int32} (d : decode mi.2.1 pc = .ok (.aastore, 1)) (hs : M.1[q]? = some (105, n)) (hin : vp_in i n) (hr : M.1[r]? = some (6, n6)) (kk : J Γ b mi (pc + 1) L S (M.1, jup2 M.2.1 q i.toNatClampNeg (some r), M.2.2) P X) : J Γ b mi pc L (.ref r :: .int i :: .ref q :: S) M P X := by
  intro p e R s m args below meth c A n0 ρ0 Q C F ρ κ ls H locs cells slots hW hL hS h1 h2
  have he := jw_at (ρ := ρ) (κ := κ) hs
  have hK := hW.2.2.2.1 q _ hs (Nat.le_of_ble_eq_true rfl)
  have hv := jw_at (ρ := ρ) (κ := κ) hr
  rw [jcell_obj (show (6 : Nat) < 100 by decide)] at hv
  refine va_astq C.1 C.2.1 hK hW.1 hW.2.1 hW.2.2.1 q 0 r 6 (r := (RX6, TX6, 13)) he rfl hv rfl hin d (fun H1 locs1 hP1 hD1 hS1 => ?_)
  rw [jw_setR hs] at hP1 hD1
  exact kk p e R s m args below meth c A n0 ρ0 Q C F ρ κ ls H1 locs1 cells slots ⟨hP1, hD1, hS1, hW.2.2.2.1, jtau_up hW.2.2.2.2.1 (List.getElem?_eq_some_iff.mp hr).1, hW.2.2.2.2.2⟩ hL (jS_tl (jS_tl (jS_tl hS))) h1 h2

/-- returns -/
theorem J.ret {v : Option Value} (hr : jR mi pc v) (hP : P v M) (hS0 : S = v.toList) : J Γ b mi pc L S M P X := by
  intro p e R s m args below meth c A n0 ρ0 Q C F ρ κ ls H locs cells slots hW hL hS h1 h2
  subst hS0
  exact F.1 M ρ κ ls H locs cells slots pc v hP hW (fun w hw => hS w (by rw [hw]; exact List.mem_singleton.mpr rfl)) (by omega) (by omega) hr
theorem J.iret {x : Int32} (hr : mi.2.2.2 = some .int) (d : decode mi.2.1 pc = .ok (.ireturn, 1)) (hP : P (some (.int x)) M) : J Γ b mi pc L [.int x] M P X := J.ret (v := some (.int x)) (Or.inr (Or.inl ⟨.int, x, hr, rfl, rfl, d⟩)) hP rfl
theorem J.zret {x : Int32} (hr : mi.2.2.2 = some .boolean) (hx : narrow .boolean (.int x) = .int x) (d : decode mi.2.1 pc = .ok (.ireturn, 1)) (hP : P (some (.int x)) M) : J Γ b mi pc L [.int x] M P X := J.ret (v := some (.int x)) (Or.inr (Or.inl ⟨.boolean, x, hr, rfl, hx, d⟩)) hP rfl
theorem J.cret {x : Int32} (hr : mi.2.2.2 = some .char) (hx : narrow .char (.int x) = .int x) (d : decode mi.2.1 pc = .ok (.ireturn, 1)) (hP : P (some (.int x)) M) : J Γ b mi pc L [.int x] M P X := J.ret (v := some (.int x)) (Or.inr (Or.inl ⟨.char, x, hr, rfl, hx, d⟩)) hP rfl
theorem J.vret (hr : mi.2.2.2 = none) (d : decode mi.2.1 pc = .ok (.return_, 1)) (hP : P none M) : J Γ b mi pc L [] M P X := J.ret (v := none) (Or.inl ⟨hr, rfl, d⟩) hP rfl
theorem J.dret {x : UInt64} (hr : mi.2.2.2 = some .double) (d : decode mi.2.1 pc = .ok (.dreturn, 1)) (hP : P (some (.double x)) M) : J Γ b mi pc L [.double x] M P X := J.ret (v := some (.double x)) (Or.inr (Or.inr (Or.inl ⟨x, hr, rfl, d⟩))) hP rfl
theorem J.aret {x : Nat} {ty : String} (hr : mi.2.2.2 = some (.object ty)) (d : decode mi.2.1 pc = .ok (.areturn, 1)) (hP : P (some (.ref x)) M) : J Γ b mi pc L [.ref x] M P X := J.ret (v := some (.ref x)) (Or.inr (Or.inr (Or.inr ⟨.object ty, .ref x, hr, Or.inl ⟨ty, rfl⟩, rfl, Or.inr ⟨x, rfl⟩, d⟩))) hP rfl
theorem J.bret {x : Nat} (hr : mi.2.2.2 = some (.array .byte)) (d : decode mi.2.1 pc = .ok (.areturn, 1)) (hP : P (some (.ref x)) M) : J Γ b mi pc L [.ref x] M P X := J.ret (v := some (.ref x)) (Or.inr (Or.inr (Or.inr ⟨.array .byte, .ref x, hr, Or.inr ⟨.byte, rfl⟩, rfl, Or.inr ⟨x, rfl⟩, d⟩))) hP rfl
/-- less is asked, more room is left -/
theorem J.mono {P' : Option Value → jM → Prop} {X' : String → jM → Prop} {b' : Nat × Nat × Nat} (k : J Γ b mi pc L S M P X) (hP : ∀ v M', P v M' → P' v M') (hX : ∀ E M', X E M' → X' E M') (hb : b.1 ≤ b'.1 ∧ b.2.1 ≤ b'.2.1 ∧ b.2.2 ≤ b'.2.2) : J Γ b' mi pc L S M P' X' := by
  intro p e R s m args below meth c A n0 ρ0 Q C F ρ κ ls H locs cells slots hW hL hS h1 h2
  refine k p e R s m args below meth c A n0 ρ0 Q ?_ ?_ ρ κ ls H locs cells slots hW hL hS (by omega) (by omega)
  · obtain ⟨a1, a2, a3, a4, a5, a6, a7, a8, a9, a10⟩ := C
    exact ⟨a1, a2, a3, a4, a5, a6, a7, by omega, by omega, a10⟩
  · exact ⟨fun M ρ κ ls H locs cells slots pc v h => F.1 M ρ κ ls H locs cells slots pc v (hP v M h), fun M ρ κ ls H locs cells slots pc st E q ce h => F.2.1 M ρ κ ls H locs cells slots pc st E q ce (hX E M h), fun M ρ κ ls H locs cells slots pc st E text names ik is ic h => F.2.2 M ρ κ ls H locs cells slots pc st E text names ik is ic (hX E M h)⟩
/-- the locals may be forgotten -/
theorem J.forget {L' : List (Option Value)} (hl : L'.length = L.length) (h : ∀ (i : Nat) (v : Value), L'[i]? = some (some v) → L[i]? = some (some v)) (k : J Γ b mi pc L' S M P X) : J Γ b mi pc L S M P X := by
  intro p e R s m args below meth c A n0 ρ0 Q C F ρ κ ls H locs cells slots hW hL hS h1 h2
  exact k p e R s m args below meth c A n0 ρ0 Q C F ρ κ ls H locs cells slots hW ⟨hL.1, hL.2.1, hl.trans hL.2.2.1, fun i v hi => hL.2.2.2 i v (h i v hi)⟩ hS h1 h2
/-! contracts -/
def jrm (b : Nat × Nat × Nat) : Room := { frames := b.1 + 16, cells := b.2.1, slots := b.2.2, locals := 40 * b.1 + 400 }
def jws (mi : jMI) : List Cond := Cond.code mi.1 mi.2.1 mi.2.2.1 mi.2.2.2 :: jG
def jInv (Γ : jE) (ρ : Nat → Nat) (κ : Nat → ClassId) (M : jM) (U : State) (H : Heap) : Prop :=
  va_P Γ.2.1 vwCl (jw ρ κ M) H ∧ (∀ q z, M.1[q]? = some z → 100 ≤ z.1 → va_K Γ.2.1 vwCl [(κ q, jty z.1)] U) ∧ (∀ q i r, M.2.1 q i = some r → r < M.1.length)
def jStrs (ρ : Nat → Nat) (U : State) : Prop := ∀ t ∈ jStr, ∃ a, vk_R t.1 t.2.1 t.2.2 a U ∧ (∀ i, jStrNo t.2.2 = some i → ρ (1000000 + i) = a)
def jPre (Γ : jE) (ρ : Nat → Nat) (κ : Nat → ClassId) (M : jM) (sz : Nat) (U : State) : Prop :=
  U.heap.size = sz ∧ jInv Γ ρ κ M U U.heap ∧ va_K Γ.2.1 vwCl [] U ∧ va_D (fun _ => True) (jw ρ κ M) ∧ jX0 Γ (va_A (jw ρ κ M) sz) ρ U U.heap ∧ jNst U ∧ jStrs ρ U
def jPost (Γ : jE) (ρ : Nat → Nat) (κ : Nat → ClassId) (M : jM) (sz : Nat) (M' : jM) (U t : State) : Prop :=
  ∃ ρ' κ', M.1.length ≤ M'.1.length ∧ (∀ k, k < M.1.length ∨ 1000000 ≤ k → ρ' k = ρ k) ∧ jInv Γ ρ' κ' M' U t.heap ∧ va_D (va_A (jw ρ κ M) sz) (jw ρ' κ' M')
def jQ (Γ : jE) (ρ : Nat → Nat) (κ : Nat → ClassId) (M : jM) (sz : Nat) (P : Option Value → jM → Prop) : Array Value → State → Outcome → State → Prop := fun _ st o t =>
  (∃ v M' ρ' κ', o = .returned (v.map (jre ρ')) ∧ P v M' ∧ (∀ w, v = some w → jok M'.1.length w) ∧ M.1.length ≤ M'.1.length ∧ (∀ k, k < M.1.length ∨ 1000000 ≤ k → ρ' k = ρ k) ∧ jInv Γ ρ' κ' M' t t.heap ∧ va_D (va_A (jw ρ κ M) sz) (jw ρ' κ' M')) ∧ va_F (va_A (jw ρ κ M) sz) st t
def jXC (Γ : jE) (ρ : Nat → Nat) (κ : Nat → ClassId) (M : jM) (sz : Nat) (X : String → jM → Prop) : String → State → State → Prop := fun E st t =>
  (∃ M' ρ' κ', X E M' ∧ M.1.length ≤ M'.1.length ∧ (∀ k, k < M.1.length ∨ 1000000 ≤ k → ρ' k = ρ k) ∧ jInv Γ ρ' κ' M' t t.heap ∧ va_D (va_A (jw ρ κ M) sz) (jw ρ' κ' M')) ∧ va_F (va_A (jw ρ κ M) sz) st t
/-- a contract: the method, called with these arguments over this memory, returns with P or throws with X -/
def Con (Γ : jE) (b : Nat × Nat × Nat) (mi : jMI) (av : List Value) (M : jM) (P : Option Value → jM → Prop) (X : String → jM → Prop) : Prop :=
  ∀ (ρ : Nat → Nat) (κ : Nat → ClassId) (sz : Nat), (∀ v ∈ av, jok M.1.length v) → vx_Met Γ.1 mi.1 (jws mi) (jrm b) (va_Pc (av.map (jre ρ)) (jPre Γ ρ κ M sz)) (jQ Γ ρ κ M sz P) (jXC Γ ρ κ M sz X) b.2.1 b.2.2 (va_A (jw ρ κ M) sz)
theorem jInv.moved {ρ : Nat → Nat} {κ : Nat → ClassId} {U U' : State} {H : Heap} (hv : U.vm.Alike U'.vm) (h : jInv Γ ρ κ M U H) : jInv Γ ρ κ M U' H := ⟨h.1, fun q z hq hz => va_K.moved hv (h.2.1 q z hq hz), h.2.2⟩
theorem jPre_blind {ρ : Nat → Nat} {κ : Nat → ClassId} {sz : Nat} {av : List Value} : FrameBlind (va_Pc av (jPre Γ ρ κ M sz)) := by
  intro a U g mk h
  obtain ⟨h0, h1, h2, h3, h4, h5, h7, h6⟩ := h
  exact ⟨h0, h1, h2, va_K.moved (u := U) (U := U.calling g mk a) (Vm.Alike.refl U.vm) h3, h4, ⟨h5.1.moved (u := U) (U := U.calling g mk a) (Vm.Alike.refl U.vm), h5.2.1.moved (u := U) (U := U.calling g mk a) (Vm.Alike.refl U.vm), h5.2.2.1, h5.2.2.2.moved (u := U) (U := U.calling g mk a) (Vm.Alike.refl U.vm)⟩, h7, fun t ht => by obtain ⟨a, ha, hb⟩ := h6 t ht; exact ⟨a, vk_R.same rfl ha, hb⟩⟩

def jent (n : Nat) (av : List Value) : List (Option Value) := av.map some ++ List.replicate (n - av.length) none
theorem jargs_mem : ∀ (vs : List Value) (i k : Nat) (v : Value), (∀ w ∈ vs, w.category = 1) → vs[k]? = some v → (i + k, v) ∈ lv_args i vs
  | [], i, k, v, _, h => by cases k <;> cases h
  | w :: ws, i, 0, v, _, h => by cases h; exact List.mem_cons_self
  | w :: ws, i, k + 1, v, hc, h => by
    have h1 : w.category = 1 := hc w List.mem_cons_self
    have h2 := jargs_mem ws (i + 1) k v (fun x hx => hc x (List.mem_cons_of_mem _ hx)) (by simpa using h)
    unfold lv_args
    rw [if_neg (by rw [h1]; decide)]
    refine List.mem_cons_of_mem _ ?_
    rwa [show i + (k + 1) = i + 1 + k by omega]
theorem jsl_len : ∀ (vs : List Value), (∀ w ∈ vs, w.category = 1) → (lg_sl vs).length = vs.length
  | [], _ => rfl
  | w :: ws, hc => by
    have h1 : w.category = 1 := hc w List.mem_cons_self
    have h2 := jsl_len ws (fun x hx => hc x (List.mem_cons_of_mem _ hx))
    unfold lg_sl at h2 ⊢
    rw [List.flatMap_cons, List.length_append, h2, if_neg (by rw [h1]; decide)]
    simp [Nat.add_comm]
theorem jent_L {ρ : Nat → Nat} {n nL : Nat} {av : List Value} {ls : Array Slot} (hc : ∀ w ∈ av, w.category = 1) (hn : av.length ≤ nL) (hok : ∀ v ∈ av, jok n v) (h : lv_has ls nL (lv_args 0 (av.map (jre ρ)))) : jL ρ n nL (jent nL av) ls := by
  refine ⟨h.2.1, h.1, by unfold jent; simp; omega, fun i v hi => ?_⟩
  unfold jent at hi
  rw [List.getElem?_append] at hi
  split at hi
  · rw [List.getElem?_map] at hi
    cases ha : av[i]? with
    | none => rw [ha] at hi; cases hi
    | some w =>
      rw [ha] at hi
      cases hi
      refine ⟨?_, hok v (List.mem_of_getElem? ha)⟩
      have h1 := jargs_mem (av.map (jre ρ)) 0 i (jre ρ v) (by intro w hw; obtain ⟨x, hx, rfl⟩ := List.mem_map.mp hw; rw [jre_cat]; exact hc x hx) (by rw [List.getElem?_map, ha]; rfl)
      rw [Nat.zero_add] at h1
      exact h.2.2 _ h1
  · rw [List.getElem?_replicate] at hi
    split at hi <;> cases hi
theorem jPost_of {ρ ρ' : Nat → Nat} {κ κ' : Nat → ClassId} {M' : jM} {s t : State} {H : Heap} {locs : List Loc} (hW : jW Γ s (va_A (jw ρ κ M) s.heap.size) M.1.length ρ M' ρ' κ' H locs) (ht : t.heap = H) (hvm : s.vm.Alike t.vm) :
    (M.1.length ≤ M'.1.length ∧ (∀ k, k < M.1.length ∨ 1000000 ≤ k → ρ' k = ρ k) ∧ jInv Γ ρ' κ' M' t t.heap ∧ va_D (va_A (jw ρ κ M) s.heap.size) (jw ρ' κ' M')) ∧ va_F (va_A (jw ρ κ M) s.heap.size) s t := by
  subst ht
  exact ⟨⟨hW.2.2.2.2.2.1, hW.2.2.2.2.2.2, ⟨hW.1, fun q z hq hz => va_K.moved hvm (hW.2.2.2.1 q z hq hz), hW.2.2.2.2.1⟩, hW.2.1⟩, hW.2.2.1.1, hW.2.2.1.2.1⟩
set_option maxHeartbeats 1000000 in
/-- a contract out of a walk from the entry -/
theorem Con.ofJ {av : List Value} (hpl : plainName mi.1.cls = true) (hc : ∀ w ∈ av, w.category = 1) (hn : av.length ≤ mi.2.2.1) (k : J Γ b mi 0 (jent mi.2.2.1 av) [] M P X) (hl : Γ.1.stackTraces = false) : Con Γ b mi av M P X := by
  intro ρ κ sz hok
  refine vx_ofW (cc := mi.2.1) (maxL := mi.2.2.1) (ret := mi.2.2.2) hpl rfl ?_
  intro p e s m args below meth c s₁ B hml ht hv
  obtain ⟨rfl, hsz, hI, hK, hD, hX, hnst, hstr⟩ := hv
  subst hsz
  have hl0 := lv_entry (av.map (jre ρ)) (n := mi.2.2.1) (by rw [jsl_len _ (by intro w hw; obtain ⟨x, hx, rfl⟩ := List.mem_map.mp hw; rw [jre_cat]; exact hc x hx), List.length_map]; exact hn)
  rw [lg_entry_eq]
  generalize (lg_sl (av.map (jre ρ)) ++ List.replicate (mi.2.2.1 - (lg_sl (av.map (jre ρ))).length) Slot.unset).toArray = ls at hl0 ⊢
  have hts := atoms_spec (ws := jws mi) B.pre
  have hnm := (name_of_methodNamed B.named B.method).1
  refine k p e (jrm b) s m _ below meth c (va_A (jw ρ κ M) s.heap.size) M.1.length ρ _ ⟨B.exec, B.bytes, hml, B.returns, B.notSynchronized, findClass_of_methodNamed B.named, fun w hw => hts w (List.mem_cons_of_mem _ hw), Nat.le_refl _, Nat.le_refl _, hK, fun q h => Or.inr h, hl, hX, fun h => hnm.trans h, hnst, hstr⟩ ⟨?_, ?_, ?_⟩ ρ κ ls s.heap [] 0 0 ⟨hI.1, hD.self, va_S.rf, hI.2.1, hI.2.2, Nat.le_refl _, fun _ _ => rfl⟩ (jent_L hc hn hok hl0) (fun v hv => absurd hv List.not_mem_nil) (Nat.le_of_eq (Nat.zero_add _)) (Nat.le_of_eq (Nat.zero_add _))
  · intro M' ρ' κ' ls' H' locs' cells' slots' pc' v hP hW hvok hc1 hs1 hr
    refine vx_ret (W.widen (k := b.2.1) (n := b.2.2) hc1 hs1 ?_)
    have hq : ∀ (o : Option Value), o = v.map (jre ρ') → ∀ t : State, t.heap = H' → s.WarmedH t.vm → jQ Γ ρ κ M s.heap.size P (av.map (jre ρ)).toArray s (.returned o) t := fun o ho t htt hww => by
      obtain ⟨⟨q1, q2, q3, q4⟩, q5⟩ := jPost_of hW htt hww.alike
      exact ⟨⟨v, M', ρ', κ', by rw [ho], hP, hvok, q1, q2, q3, q4⟩, q5⟩
    have hf : ∀ q ∈ locs', va_A (jw ρ κ M) s.heap.size q.base := hW.2.2.1.2.2
    rcases hr with ⟨r1, rfl, r3⟩ | ⟨ty, x, r1, rfl, r2, r3⟩ | ⟨x, r1, rfl, r3⟩ | ⟨ty, w, r1, r0, rfl, r2, r3⟩
    · exact W.vret B.exec B.bytes (B.returns.trans r1) (hq none rfl) hf r3
    · exact W.zret B.exec B.bytes (B.returns.trans r1) r2 (hq (some (.int x)) rfl) hf r3
    · exact W.dret B.exec B.bytes (B.returns.trans r1) (hq (some (.double x)) rfl) hf r3 B.notSynchronized
    · refine W.aret (v := jre ρ' w) B.exec B.bytes (B.returns.trans r1) r0 ?_ (hq (some (jre ρ' w)) rfl) hf r3
      rcases r2 with rfl | ⟨k, rfl⟩
      · exact Or.inl rfl
      · exact Or.inr ⟨_, rfl⟩
  · intro M' ρ' κ' ls' H' locs' cells' slots' pc' st E q ce hX' hW hc1 hs1 hq1 hq2 hq3
    refine vx_out (fun x hx => absurd (ht x hx) id) B.notSynchronized hq1 hq2 hq3 ?_ hW.2.2.1.2.2 hc1 hs1
    intro t htt hww
    obtain ⟨⟨q1, q2, q3, q4⟩, q5⟩ := jPost_of hW htt hww
    exact ⟨⟨M', ρ', κ', hX', q1, q2, q3, q4⟩, q5⟩
  · intro M' ρ' κ' ls' H' locs' cells' slots' pc' st E text names ik is ic hX' hW hc1 hs1 hls hst hT hdec
    obtain ⟨t1, t2, t3, t4, t5, ⟨sa, t6⟩, t7, t8⟩ := hT
    have hown : s.vm.findClass mi.1.cls = some m.cls := findClass_of_methodNamed B.named
    have hb1 : names.length + 3 < (headSpec (jws mi) (jrm b)).room.frames := by show names.length + 3 < b.1 + 16; omega
    have hb2 : (st.map fun v => v.category).sum + (13 * (names.length + 1) + 43) ≤ (headSpec (jws mi) (jrm b)).room.locals := by
      show _ ≤ 40 * b.1 + 400
      have : 13 * (names.length + 1) ≤ 39 := by omega
      omega
    have hx : ∀ t : State, s.vm.Alike t.vm → H'.size ≤ t.heap.size → (∀ q : Nat, q < H'.size → t.heap[q]? = H'[q]?) → jXC Γ ρ κ M s.heap.size X E s t := fun t hww hz hk => by
      obtain ⟨w1, w2, w3, w4, w5, w6, w7⟩ := hW
      have hP2 : va_P Γ.2.1 vwCl (jw ρ' κ' M') t.heap := w1.kept fun k q h => hk _ (vx_lt w1 h)
      exact ⟨⟨M', ρ', κ', hX', w6, w7, ⟨hP2, fun q z hq hz => va_K.moved hww (w4 q z hq hz), w5⟩, w2⟩, Nat.le_trans w3.1 hz, fun q h1 h2 => by rw [hk q (Nat.lt_of_lt_of_le h1 w3.1)]; exact w3.2.1 q h1 h2⟩
    rcases hdec with ⟨e1, e2, e3, e4, e5⟩ | ⟨e1, e2, e3, e4, e5⟩
    · exact vx_throwS B.exec B.bytes hl hown t1 t2 t4 t5 t6 t7 t8 hX.1 hX.2.1 hW.2.2.1 (hls.trans hml.symm) e1 e2 e3 e4 e5 (fun x hx => absurd (ht x hx) id) hb1 hb2 hc1 hs1 B.notSynchronized hx hW.2.2.1.2.2 hc1 hs1
    · exact vx_throwSW B.exec B.bytes hl hown t1 t2 t4 t5 t6 t7 t8 hX.1 hX.2.1 hW.2.2.1 (hls.trans hml.symm) e1 e2 e3 e4 e5 (fun x hx => absurd (ht x hx) id) hb1 hb2 hc1 hs1 B.notSynchronized hx hW.2.2.1.2.2 hc1 hs1

theorem jX0_call {A B : Nat → Prop} {ρ ρ0 : Nat → Nat} {s U : State} {H : Heap} {locs : List Loc} (h : jX0 Γ A ρ0 s s.heap) (hS : va_S A s.heap H locs) (hAB : ∀ q, B q → A q) (hv : s.vm.Alike U.vm) (hρ : ∀ k, 1000000 ≤ k → ρ k = ρ0 k) : jX0 Γ B ρ U H := by
  refine ⟨((h.1.kept hS.2.1).narrow hAB).moved hv, ((h.2.1.kept hS.2.1).narrow hAB).moved hv, fun L xs hl => ?_, ?_⟩
  rotate_left
  · have h9 := ((h.2.2.2.kept hS.2.1).narrow hAB).moved hv
    unfold jX1 jXd at h9 ⊢
    simp only [hρ _ (Nat.le_add_right _ _), hρ 2000001 (Nat.le_of_ble_eq_true rfl)]
    exact h9
  obtain ⟨h1, h2, h3⟩ := h.2.2.1 L xs hl
  rw [hρ 2000000 (Nat.le_of_ble_eq_true rfl)]
  exact ⟨(h1.kept (hS.2.1 _ h2 h3)).moved hv, Nat.lt_of_lt_of_le h2 hS.1, fun q => h3 (hAB _ q)⟩
theorem jA_sub {A : Nat → Prop} {n0 : Nat} {ρ0 ρ : Nat → Nat} {κ : Nat → ClassId} {s : State} {H : Heap} {locs : List Loc} (hW : jW Γ s A n0 ρ0 M ρ κ H locs) (hA : ∀ q, s.heap.size ≤ q → A q) : ∀ q, va_A (jw ρ κ M) H.size q → A q := by
  intro q h
  rcases h with ⟨k, e, h⟩ | h
  · exact hW.2.1.2 k _ h
  · exact hA q (Nat.le_trans hW.2.2.1.1 h)
theorem jPre_call {d : Nat} {p : Program} {R : Room} {s : State} {m : MethodId} {args : Array Value} {meth : Method} {c : Code} {A : Nat → Prop} {n0 : Nat} {ρ0 ρ : Nat → Nat} {κ : Nat → ClassId} {H : Heap} {locs : List Loc} (C : jC Γ d mi p R s m args meth c A ρ0) (hW : jW Γ s A n0 ρ0 M ρ κ H locs) :
    ∀ U : State, U.heap = H → s.WarmedH U.vm → jPre Γ ρ κ M H.size U := by
  intro U hU hw
  obtain ⟨-, -, -, -, -, -, -, -, -, cK, cA, -, cX, -, cN, cS⟩ := C
  have hρ : ∀ k, 1000000 ≤ k → ρ k = ρ0 k := fun k hk => hW.2.2.2.2.2.2 k (Or.inr hk)
  refine ⟨by rw [hU], ⟨by rw [hU]; exact hW.1, fun q z hq hz => va_K.moved hw.alike (hW.2.2.2.1 q z hq hz), hW.2.2.2.2.1⟩, va_K.moved hw.alike cK, hW.2.1.weaken fun _ _ _ _ => trivial, ?_, ⟨fun own i y h hm => (cN.1 own i y h hm).warmM hw, fun C T hm => (cN.2.1 C T hm).warmC hw, ⟨cN.2.2.1.1.moved hw.alike, cN.2.2.1.2.moved hw.alike⟩, cN.2.2.2.1.moved hw.alike, fun y hm => (cN.2.2.2.2 y hm).warmD hw⟩, fun t ht => ?_⟩
  · rw [hU]
    exact jX0_call cX hW.2.2.1 (jA_sub hW cA) hw.alike hρ
  · obtain ⟨a, h1, h2⟩ := cS t ht
    exact ⟨a, h1.warm hw, fun i hi => by rw [hρ _ (Nat.le_add_right _ _)]; exact h2 i hi⟩
theorem vx_toMet {l : Launch} {y : MethodName} {ws : List Cond} {rm : Room} {Pc : Array Value → State → Prop} {Qc : Array Value → State → Outcome → State → Prop} {XC : String → State → State → Prop} {mc ms : Nat} {free : Addr → Prop} (h : vx_Met l y ws rm Pc Qc XC mc ms free) (hX : ∀ E st t, ¬ XC E st t) : Met l y ws rm Pc Qc mc ms free := by
  intro p e a1 a2 a3 s m args below b1 b2 b3 b4
  obtain ⟨n, o, q1, q2, q3, q4⟩ := h p e a1 a2 a3 s m args below b1 b2 b3 b4
  refine ⟨n, o, q1, q2, q3, ?_⟩
  rcases q4 with q4 | ⟨q, rfl, E, ce, L, hx, -⟩
  · exact q4
  · exact absurd hx (hX _ _ _)
theorem vx_ofRun {p : Program} {l : Launch} {e : Env} {R : Room} {s : State} {m : MethodId} {args : Array Value} {below : List Frame} {meth : Method} {c : Code} {H : Heap} {locs : List Loc} {cells slots mc ms : Nat} {g : JFrame} {rest : List Value} {Qa : State → Outcome → State → Prop} {XC : String → State → State → Prop} {free : Addr → Prop} (h : va_Run p l e R s m args below meth c H locs cells slots mc ms g rest Qa free) : vx_Run p l e R s m args below meth c H locs cells slots mc ms g rest Qa XC free := fun T hT X => Or.inl (h T hT X)
theorem jre_map {ρ ρ' : Nat → Nat} {n : Nat} {S : List Value} (h : ∀ k, k < n ∨ 1000000 ≤ k → ρ' k = ρ k) (hS : ∀ v ∈ S, jok n v) : S.map (jre ρ') = S.map (jre ρ) := List.map_congr_left fun v hv => jre_ext h (hS v hv)
set_option maxHeartbeats 1000000 in
/-- behind a call: what the callee's contract says of the memory holds of ours -/
theorem jcont {p : Program} {e : Env} {R : Room} {s : State} {m : MethodId} {args : Array Value} {below : List Frame} {meth : Method} {c : Code} {A : Nat → Prop} {n0 : Nat} {ρ0 ρ : Nat → Nat} {κ : Nat → ClassId} {H : Heap} {locs : List Loc} {cells slots : Nat} {Q : State → Prop} {ls : Array Slot} {st0 : List Value} {aa : Array Value}
    {b' : Nat × Nat × Nat} {P' : Option Value → jM → Prop} {X' : String → jM → Prop} (C : jC Γ b.1 mi p R s m args meth c A ρ0) (hW : jW Γ s A n0 ρ0 M ρ κ H locs) (hL : jL ρ M.1.length mi.2.2.1 L ls) (hS : ∀ v ∈ S, jok M.1.length v) (h1 : cells + b.2.1 ≤ R.cells) (h2 : slots + b.2.2 ≤ R.slots) (hb : b'.2.1 ≤ b.2.1 ∧ b'.2.2 ≤ b.2.2)
    (hr : vx_Run p Γ.1 e R s m args below meth c H locs cells slots b'.2.1 b'.2.2 (F0 m pc ls st0) (S.map (jre ρ)) (jQ Γ ρ κ M H.size P' aa) (jXC Γ ρ κ M H.size X') (va_A (jw ρ κ M) H.size))
    (kx : ∀ (M' : jM) (ρ' : Nat → Nat) (κ' : Nat → ClassId) (H1 : Heap) (locs1 : List Loc) (E : String) (q : Addr) (ce : Cell), X' E M' → jW Γ s A n0 ρ0 M' ρ' κ' H1 locs1 → jL ρ' M'.1.length mi.2.2.1 L ls → H1[q]? = some ce → ce.vm = .none → s.vm.findClass E = some ce.cls → vx_W p Γ.1 e R s m args below meth c H1 locs1 (cells + b'.2.1) (slots + b'.2.2) Q (F0 m pc ls (S.map (jre ρ'))) q)
    (kk : ∀ (v : Option Value) (M' : jM) (ρ' : Nat → Nat) (κ' : Nat → ClassId) (H1 : Heap) (locs1 : List Loc), P' v M' → jW Γ s A n0 ρ0 M' ρ' κ' H1 locs1 → jL ρ' M'.1.length mi.2.2.1 L ls → (∀ w ∈ v.toList ++ S, jok M'.1.length w) → W p Γ.1 e R s m args below meth c H1 locs1 (cells + b'.2.1) (slots + b'.2.2) Q (F0 m (pc + 3) ls ((v.toList ++ S).map (jre ρ')))) :
    W p Γ.1 e R s m args below meth c H locs cells slots Q (F0 m pc ls st0) := by
  intro T hT X9
  have cA := C.2.2.2.2.2.2.2.2.2.2.1
  have hsub := jA_sub hW cA
  have hmk : ∀ (st₀ t T' : State) (L9 : List Loc) (M' : jM) (ρ' : Nat → Nat) (κ' : Nat → ClassId), st₀.heap = H → T'.heap = t.heap → s.vm.Alike t.vm → (∀ q ∈ L9, va_A (jw ρ κ M) H.size q.base) → M.1.length ≤ M'.1.length → (∀ k, k < M.1.length ∨ 1000000 ≤ k → ρ' k = ρ k) → jInv Γ ρ' κ' M' t t.heap → va_D (va_A (jw ρ κ M) H.size) (jw ρ' κ' M') → va_F (va_A (jw ρ κ M) H.size) st₀ t → jW Γ s A n0 ρ0 M' ρ' κ' T'.heap (locs ++ L9) := by
    intro st₀ t T' L9 M' ρ' κ' g0 g1 gv gL gn gρ gI gD gF
    rw [g1]
    unfold va_F at gF
    rw [g0] at gF
    have hS3 := hW.2.2.1
    refine ⟨gI.1, gD.weaken fun k q _ h => hsub _ h, ⟨Nat.le_trans hS3.1 gF.1, fun q u1 u2 => ?_, fun q hq => ?_⟩, fun q z u1 u2 => va_K.moved gv.symm (gI.2.1 q z u1 u2), gI.2.2, Nat.le_trans hW.2.2.2.2.2.1 gn, fun k hk => ?_⟩
    · rw [gF.2 q (Nat.lt_of_lt_of_le u1 hS3.1) (fun z => u2 (hsub _ z))]; exact hS3.2.1 q u1 u2
    · rcases List.mem_append.mp hq with h | h
      · exact hS3.2.2 q h
      · exact hsub _ (gL q h)
    · rw [gρ k (hk.imp (fun z => Nat.lt_of_lt_of_le z hW.2.2.2.2.2.1) id)]; exact hW.2.2.2.2.2.2 k hk
  have hjL : ∀ (M' : jM) (ρ' : Nat → Nat), M.1.length ≤ M'.1.length → (∀ k, k < M.1.length ∨ 1000000 ≤ k → ρ' k = ρ k) → jL ρ' M'.1.length mi.2.2.1 L ls := fun M' ρ' gn gρ =>
    ⟨hL.1, hL.2.1, hL.2.2.1, fun i v hi => by obtain ⟨u1, u2⟩ := hL.2.2.2 i v hi; exact ⟨by rw [jre_ext gρ u2]; exact u1, jok_mono gn u2⟩⟩
  rcases hr T hT X9 with ⟨v, st₀, t, T', L9, g0, X8, gL, g1, g2, ⟨⟨v', M', ρ', κ', gv, gP, gok, gn, gρ, gI, gD⟩, gF⟩, st⟩ | ⟨q, st₀, t, T', L9, E, ce, g0, X8, gL, g1, g2, ⟨⟨M', ρ', κ', gX, gn, gρ, gI, gD⟩, gF⟩, g3, g4, g5, st⟩
  · have gva : s.vm.Alike t.vm := by rw [← g2]; exact X8.warmed.alike
    have hv : v = v'.map (jre ρ') := by cases gv; rfl
    have hst : v.toList ++ S.map (jre ρ) = (v'.toList ++ S).map (jre ρ') := by
      rw [hv, List.map_append, jre_map gρ hS]
      cases v' <;> rfl
    rw [hst] at st
    obtain ⟨t2, a1, b1⟩ := kk v' M' ρ' κ' T'.heap (locs ++ L9) gP (hmk st₀ t T' L9 M' ρ' κ' g0 g1 gva gL gn gρ gI gD gF) (hjL M' ρ' gn gρ)
      (fun w hw => by
        rcases List.mem_append.mp hw with h | h
        · exact gok w (by cases v' <;> simp_all)
        · exact jok_mono gn (hS w h)) T' rfl X8
    exact ⟨t2, st t2 a1, b1⟩
  · have gva : s.vm.Alike t.vm := by rw [← g2]; exact X8.warmed.alike
    rw [← jre_map gρ hS] at st
    obtain ⟨t2, a1, b1⟩ := kx M' ρ' κ' T'.heap (locs ++ L9) E q ce gX (hmk st₀ t T' L9 M' ρ' κ' g0 g1 gva gL gn gρ gI gD gF) (hjL M' ρ' gn gρ) (by rw [g1]; exact g3) g4 g5 T' rfl X8
    exact ⟨t2, st.trans a1, b1⟩
/-- what is known of a method that is called: its code, its class, how many arguments it takes -/
def jME (mi' : jMI) (n : Nat) : Prop := Cond.code mi'.1 mi'.2.1 mi'.2.2.1 mi'.2.2.2 ∈ jG ∧ Cond.initialized mi'.1.cls ∈ jG ∧ (mi'.1.cls ≠ "java/lang/invoke/MethodHandle" ∧ mi'.1.cls ≠ "java/lang/invoke/VarHandle" ∧ (parseMethodDescriptor mi'.1.desc).map (fun d => d.parameters.length) = some n) ∧ mi'.2.2.1 ≤ 21
def jVE (mi' : jMI) (n : Nat) : Prop := jME mi' n ∧ Cond.instanceMethod mi'.1 ∈ jG ∧ Cond.selects mi'.1.cls mi'.1 mi'.1 ∈ jG
def jSE (mi' : jMI) (n : Nat) : Prop := jME mi' n ∧ Cond.static mi'.1 ∈ jG
theorem jws_good {mi' : jMI} {n : Nat} (h : jME mi' n) : GoodIn jG (jws mi') := by
  intro w hw
  have h1 : w ∈ jG := (List.mem_cons.mp hw).elim (fun e => e ▸ h.1) id
  exact ⟨h1, jG_good h1⟩
theorem jgood {w : Cond} (h : w ∈ jG) : w ∈ jG ∧ ((w.onTables && w.keeps) = true ∨ ∃ ty, w = .arrayClass ty) := ⟨h, jG_good h⟩
theorem jroom {d : Nat} {mi' : jMI} {R : Room} {b' : Nat × Nat × Nat} (hb : b'.1 + 1 ≤ d) (hm : mi'.2.2.1 ≤ 21) (h1 : d + 16 ≤ R.frames) (h2 : 40 * d + 400 ≤ R.locals) : (jrm b').frames + 1 ≤ R.frames ∧ 8 + (mi'.2.2.1 + 11) + (jrm b').locals ≤ R.locals := by
  show b'.1 + 16 + 1 ≤ R.frames ∧ 8 + (mi'.2.2.1 + 11) + (40 * b'.1 + 400) ≤ R.locals
  omega
theorem jcatS {ρ : Nat → Nat} {S : List Value} {k : Nat} (h : (S.map fun v => v.category).sum ≤ k) : ((S.map (jre ρ)).map fun v => v.category).sum ≤ k := by
  rw [List.map_map]
  have : (S.map ((fun v => v.category) ∘ jre ρ)) = S.map fun v => v.category := List.map_congr_left fun v _ => jre_cat ρ v
  rw [this]; exact h
theorem jok_app {n : Nat} {A S : List Value} (h : ∀ v ∈ A ++ S, jok n v) : (∀ v ∈ A, jok n v) ∧ ∀ v ∈ S, jok n v := ⟨fun v hv => h v (List.mem_append_left _ hv), fun v hv => h v (List.mem_append_right _ hv)⟩

def jIE (mi' : jMI) (n : Nat) : Prop := jME mi' n ∧ Cond.instanceMethod mi'.1 ∈ jG ∧ mi'.1.name = "<init>" ∧ mi'.2.2.2 = none

set_option maxHeartbeats 1000000 in
theorem J.callV {q idx : Nat} {b' : Nat × Nat × Nat} {mi' : jMI} (As : List Value) {P' : Option Value → jM → Prop} {X' : String → jM → Prop} (d : decode mi.2.1 pc = .ok (.invokevirtual idx, 3)) (hl : Cond.methodLink mi.1.cls idx mi'.1 ∈ jG) (hs : jVE mi' As.length) {ci n : Nat} (hq : M.1[q]? = some (ci, n)) (hqc : (vwCl[ci]?).map (fun z => z.1) = some mi'.1.cls) (hb : b'.1 + 1 ≤ b.1 ∧ b'.2.1 ≤ b.2.1 ∧ b'.2.2 ≤ b.2.2) (hc : Con Γ b' mi' (.ref q :: As) M P' X') (hX : ∀ E M', X' E M' → X E M') (hcat : (S.map fun v => v.category).sum ≤ 8)
    (k : ∀ v M', P' v M' → J Γ (b.1, b.2.1 - b'.2.1, b.2.2 - b'.2.2) mi (pc + 3) L (v.toList ++ S) M' P X) : J Γ b mi pc L (As.reverse ++ .ref q :: S) M P X := by
  intro p e R s m args below meth c A n0 ρ0 Q C F ρ κ ls H locs cells slots hW hL hS h1 h2
  have hS1 := jok_app hS
  have hok : ∀ v ∈ As, jok M.1.length v := fun v hv => hS1.1 v (List.mem_reverse.mpr hv)
  have hpre := jPre_call C hW
  have hokq : ∀ v ∈ Value.ref q :: As, jok M.1.length v := List.forall_mem_cons.mpr ⟨hS1.2 _ List.mem_cons_self, hok⟩
  have hS2 : ∀ v ∈ S, jok M.1.length v := jS_tl hS1.2
  rw [List.map_append, List.map_reverse]
  have hM := hc ρ κ H.size hokq
  have hrm := jroom (R := R) hb.1 hs.1.2.2.2 C.2.2.2.2.2.2.2.1 C.2.2.2.2.2.2.2.2.1
  have fx : CallFix p m c mi.2.1 mi.2.2.1 s args jG mi.1.cls := ⟨C.1, C.2.1, C.2.2.1, C.2.2.2.2.2.1, C.2.2.2.2.2.2.1⟩
  have hg : GoodIn jG (wsV mi.1.cls idx mi'.1.cls mi'.1 (jws mi')) := by
    intro w hw
    rcases List.mem_append.mp hw with h | h
    · simp only [List.mem_cons, List.not_mem_nil, or_false] at h
      rcases h with rfl | rfl | rfl | rfl
      · exact jgood hl
      · exact jgood hs.2.1
      · exact jgood hs.2.2
      · exact jgood hs.1.2.1
    · exact jws_good hs.1 w h
  obtain ⟨q', hq', hqn⟩ := Option.map_eq_some_iff.mp hqc
  have he := jw_at (ρ := ρ) (κ := κ) hq
  have hci : ci < 100 := Nat.lt_of_lt_of_le (List.getElem?_eq_some_iff.mp hq').1 (Nat.le_of_ble_eq_true rfl)
  rw [jcell_obj hci] at he
  have hrv := va_recv C.2.2.2.2.2.2.2.2.2.1 hW.1 hq' he
  rw [hqn] at hrv
  exact jcont C hW hL hS2 h1 h2 hb.2 (vx_runV (As := As.map (jre ρ)) fx hM (cwV As.length C.2.2.2.2.2.2.1 hg rfl rfl rfl ⟨rfl, hs.1.2.2.1⟩ hrm) ⟨jPre_blind, hrv, fun U hU hw => ⟨rfl, hpre U hU hw⟩⟩ rfl (List.length_map _) hL.2.1 rfl (lv_room (jcatS hcat)) d ⟨by omega, by omega⟩)
    (fun M' ρ' κ' H1 locs1 E q9 ce gX gW gL g1 g2 g3 => F.2.1 M' ρ' κ' ls H1 locs1 _ _ pc _ E q9 ce (hX E M' gX) gW (by omega) (by omega) g1 g2 g3) (fun v M' ρ' κ' H1 locs1 gP gW gL gok => k v M' gP p e R s m args below meth c A n0 ρ0 Q C F ρ' κ' ls H1 locs1 _ _ gW gL gok (by show _ + _ + (_ - _) ≤ _; omega) (by show _ + _ + (_ - _) ≤ _; omega))

set_option maxHeartbeats 1000000 in
theorem J.callVN {q idx : Nat} {host : String} {b' : Nat × Nat × Nat} {mi' : jMI} (As : List Value) {P' : Option Value → jM → Prop} {X' : String → jM → Prop} (d : decode mi.2.1 pc = .ok (.invokevirtual idx, 3)) (hl : Cond.methodLinkNest mi.1.cls idx mi'.1 host ∈ lw_tbl) (hs : jVE mi' As.length) {ci n : Nat} (hq : M.1[q]? = some (ci, n)) (hqc : (vwCl[ci]?).map (fun z => z.1) = some mi'.1.cls) (hb : b'.1 + 1 ≤ b.1 ∧ b'.2.1 ≤ b.2.1 ∧ b'.2.2 ≤ b.2.2) (hc : Con Γ b' mi' (.ref q :: As) M P' X') (hX0 : ∀ E M', ¬ X' E M') (hX : ∀ E M', X' E M' → X E M') (hcat : (S.map fun v => v.category).sum ≤ 8)
    (k : ∀ v M', P' v M' → J Γ (b.1, b.2.1 - b'.2.1, b.2.2 - b'.2.2) mi (pc + 3) L (v.toList ++ S) M' P X) : J Γ b mi pc L (As.reverse ++ .ref q :: S) M P X := by
  intro p e R s m args below meth c A n0 ρ0 Q C F ρ κ ls H locs cells slots hW hL hS h1 h2
  have hS1 := jok_app hS
  have hok : ∀ v ∈ As, jok M.1.length v := fun v hv => hS1.1 v (List.mem_reverse.mpr hv)
  have hpre := jPre_call C hW
  have hokq : ∀ v ∈ Value.ref q :: As, jok M.1.length v := List.forall_mem_cons.mpr ⟨hS1.2 _ List.mem_cons_self, hok⟩
  have hS2 : ∀ v ∈ S, jok M.1.length v := jS_tl hS1.2
  rw [List.map_append, List.map_reverse]
  have hM := hc ρ κ H.size hokq
  have hrm := jroom (R := R) hb.1 hs.1.2.2.2 C.2.2.2.2.2.2.2.1 C.2.2.2.2.2.2.2.2.1
  have fx : CallFix p m c mi.2.1 mi.2.2.1 s args jG mi.1.cls := ⟨C.1, C.2.1, C.2.2.1, C.2.2.2.2.2.1, C.2.2.2.2.2.2.1⟩
  have hM := vx_toMet hM (fun E st t h => by obtain ⟨⟨M', _, _, hx, _⟩, _⟩ := h; exact hX0 _ _ hx)
  obtain ⟨q', hq', hqn⟩ := Option.map_eq_some_iff.mp hqc
  have he := jw_at (ρ := ρ) (κ := κ) hq
  have hci : ci < 100 := Nat.lt_of_lt_of_le (List.getElem?_eq_some_iff.mp hq').1 (Nat.le_of_ble_eq_true rfl)
  rw [jcell_obj hci] at he
  have hrv := va_recv C.2.2.2.2.2.2.2.2.2.1 hW.1 hq' he
  rw [hqn] at hrv
  have hnw := C.2.2.2.2.2.2.2.2.2.2.2.2.2.2.1.1 _ _ _ _ hl
  exact jcont C hW hL hS2 h1 h2 hb.2 (vx_ofRun (va_runVN (As := As.map (jre ρ)) fx hM ⟨va_cnB As.length C.2.2.2.2.2.2.1 (jws_good hs.1) rfl rfl rfl hnw (C.2.2.2.2.2.2.1 _ hs.1.2.1) hs.1.2.2.1 hrm, C.2.2.2.2.2.2.1 _ hs.2.1, C.2.2.2.2.2.2.1 _ hs.2.2⟩ ⟨jPre_blind, hrv, fun U hU hw => ⟨rfl, hpre U hU hw⟩⟩ rfl (List.length_map _) hL.2.1 rfl (lv_room (jcatS hcat)) d ⟨by omega, by omega⟩))
    (fun M' ρ' κ' H1 locs1 E q9 ce gX gW gL g1 g2 g3 => F.2.1 M' ρ' κ' ls H1 locs1 _ _ pc _ E q9 ce (hX E M' gX) gW (by omega) (by omega) g1 g2 g3) (fun v M' ρ' κ' H1 locs1 gP gW gL gok => k v M' gP p e R s m args below meth c A n0 ρ0 Q C F ρ' κ' ls H1 locs1 _ _ gW gL gok (by show _ + _ + (_ - _) ≤ _; omega) (by show _ + _ + (_ - _) ≤ _; omega))

set_option maxHeartbeats 1000000 in
theorem J.callS {idx : Nat} {b' : Nat × Nat × Nat} {mi' : jMI} (As : List Value) {P' : Option Value → jM → Prop} {X' : String → jM → Prop} (d : decode mi.2.1 pc = .ok (.invokestatic idx, 3)) (hl : Cond.methodLink mi.1.cls idx mi'.1 ∈ jG) (hs : jSE mi' As.length) (hsame : mi'.1.cls = mi.1.cls) (hb : b'.1 + 1 ≤ b.1 ∧ b'.2.1 ≤ b.2.1 ∧ b'.2.2 ≤ b.2.2) (hc : Con Γ b' mi' As M P' X') (hX : ∀ E M', X' E M' → X E M') (hcat : (S.map fun v => v.category).sum ≤ 8)
    (k : ∀ v M', P' v M' → J Γ (b.1, b.2.1 - b'.2.1, b.2.2 - b'.2.2) mi (pc + 3) L (v.toList ++ S) M' P X) : J Γ b mi pc L (As.reverse ++ S) M P X := by
  intro p e R s m args below meth c A n0 ρ0 Q C F ρ κ ls H locs cells slots hW hL hS h1 h2
  have hS1 := jok_app hS
  have hok : ∀ v ∈ As, jok M.1.length v := fun v hv => hS1.1 v (List.mem_reverse.mpr hv)
  have hpre := jPre_call C hW
  have hS2 : ∀ v ∈ S, jok M.1.length v := hS1.2
  rw [List.map_append, List.map_reverse]
  have hM := hc ρ κ H.size hok
  have hrm := jroom (R := R) hb.1 hs.1.2.2.2 C.2.2.2.2.2.2.2.1 C.2.2.2.2.2.2.2.2.1
  have fx : CallFix p m c mi.2.1 mi.2.2.1 s args jG mi.1.cls := ⟨C.1, C.2.1, C.2.2.1, C.2.2.2.2.2.1, C.2.2.2.2.2.2.1⟩
  have hg : GoodIn jG (wsS mi.1.cls idx mi'.1 (jws mi')) := by
    intro w hw
    rcases List.mem_append.mp hw with h | h
    · simp only [List.mem_cons, List.not_mem_nil, or_false] at h
      rcases h with rfl | rfl | rfl
      · exact jgood hl
      · exact jgood hs.2
      · exact jgood (hsame ▸ hs.1.2.1)
    · exact jws_good hs.1 w h
  exact jcont C hW hL hS2 h1 h2 hb.2 (vx_runS (As := As.map (jre ρ)) fx hM (cwS As.length C.2.2.2.2.2.2.1 hg rfl rfl rfl ⟨hsame, hs.1.2.2.1⟩ hrm) ⟨jPre_blind, fun U hU hw => ⟨rfl, hpre U hU hw⟩⟩ rfl (List.length_map _) hL.2.1 rfl (lv_room (jcatS hcat)) d ⟨by omega, by omega⟩)
    (fun M' ρ' κ' H1 locs1 E q9 ce gX gW gL g1 g2 g3 => F.2.1 M' ρ' κ' ls H1 locs1 _ _ pc _ E q9 ce (hX E M' gX) gW (by omega) (by omega) g1 g2 g3) (fun v M' ρ' κ' H1 locs1 gP gW gL gok => k v M' gP p e R s m args below meth c A n0 ρ0 Q C F ρ' κ' ls H1 locs1 _ _ gW gL gok (by show _ + _ + (_ - _) ≤ _; omega) (by show _ + _ + (_ - _) ≤ _; omega))

set_option maxHeartbeats 1000000 in
theorem J.callSN {idx : Nat} {host : String} {b' : Nat × Nat × Nat} {mi' : jMI} (As : List Value) {P' : Option Value → jM → Prop} {X' : String → jM → Prop} (d : decode mi.2.1 pc = .ok (.invokestatic idx, 3)) (hl : Cond.methodLinkNest mi.1.cls idx mi'.1 host ∈ lw_tbl) (hs : jSE mi' As.length) (hb : b'.1 + 1 ≤ b.1 ∧ b'.2.1 ≤ b.2.1 ∧ b'.2.2 ≤ b.2.2) (hc : Con Γ b' mi' As M P' X') (hX0 : ∀ E M', ¬ X' E M') (hX : ∀ E M', X' E M' → X E M') (hcat : (S.map fun v => v.category).sum ≤ 8)
    (k : ∀ v M', P' v M' → J Γ (b.1, b.2.1 - b'.2.1, b.2.2 - b'.2.2) mi (pc + 3) L (v.toList ++ S) M' P X) : J Γ b mi pc L (As.reverse ++ S) M P X := by
  intro p e R s m args below meth c A n0 ρ0 Q C F ρ κ ls H locs cells slots hW hL hS h1 h2
  have hS1 := jok_app hS
  have hok : ∀ v ∈ As, jok M.1.length v := fun v hv => hS1.1 v (List.mem_reverse.mpr hv)
  have hpre := jPre_call C hW
  have hS2 : ∀ v ∈ S, jok M.1.length v := hS1.2
  rw [List.map_append, List.map_reverse]
  have hM := hc ρ κ H.size hok
  have hrm := jroom (R := R) hb.1 hs.1.2.2.2 C.2.2.2.2.2.2.2.1 C.2.2.2.2.2.2.2.2.1
  have fx : CallFix p m c mi.2.1 mi.2.2.1 s args jG mi.1.cls := ⟨C.1, C.2.1, C.2.2.1, C.2.2.2.2.2.1, C.2.2.2.2.2.2.1⟩
  have hM := vx_toMet hM (fun E st t h => by obtain ⟨⟨M', _, _, hx, _⟩, _⟩ := h; exact hX0 _ _ hx)
  have hnw := C.2.2.2.2.2.2.2.2.2.2.2.2.2.2.1.1 _ _ _ _ hl
  exact jcont C hW hL hS2 h1 h2 hb.2 (vx_ofRun (va_runSN (As := As.map (jre ρ)) fx hM ⟨va_cnB As.length C.2.2.2.2.2.2.1 (jws_good hs.1) rfl rfl rfl hnw (C.2.2.2.2.2.2.1 _ hs.1.2.1) hs.1.2.2.1 hrm, C.2.2.2.2.2.2.1 _ hs.2, trivial⟩ ⟨jPre_blind, fun U hU hw => ⟨rfl, hpre U hU hw⟩⟩ rfl (List.length_map _) hL.2.1 rfl (lv_room (jcatS hcat)) d ⟨by omega, by omega⟩))
    (fun M' ρ' κ' H1 locs1 E q9 ce gX gW gL g1 g2 g3 => F.2.1 M' ρ' κ' ls H1 locs1 _ _ pc _ E q9 ce (hX E M' gX) gW (by omega) (by omega) g1 g2 g3) (fun v M' ρ' κ' H1 locs1 gP gW gL gok => k v M' gP p e R s m args below meth c A n0 ρ0 Q C F ρ' κ' ls H1 locs1 _ _ gW gL gok (by show _ + _ + (_ - _) ≤ _; omega) (by show _ + _ + (_ - _) ≤ _; omega))

set_option maxHeartbeats 1000000 in
theorem J.callI {q idx : Nat} {b' : Nat × Nat × Nat} {mi' : jMI} (As : List Value) {P' : Option Value → jM → Prop} {X' : String → jM → Prop} (d : decode mi.2.1 pc = .ok (.invokespecial idx, 3)) (hl : Cond.methodLink mi.1.cls idx mi'.1 ∈ jG) (hs : jIE mi' As.length) (hb : b'.1 + 1 ≤ b.1 ∧ b'.2.1 ≤ b.2.1 ∧ b'.2.2 ≤ b.2.2) (hc : Con Γ b' mi' (.ref q :: As) M P' X') (hX0 : ∀ E M', ¬ X' E M') (hX : ∀ E M', X' E M' → X E M') (hcat : (S.map fun v => v.category).sum ≤ 8)
    (k : ∀ v M', P' v M' → J Γ (b.1, b.2.1 - b'.2.1, b.2.2 - b'.2.2) mi (pc + 3) L (v.toList ++ S) M' P X) : J Γ b mi pc L (As.reverse ++ .ref q :: S) M P X := by
  intro p e R s m args below meth c A n0 ρ0 Q C F ρ κ ls H locs cells slots hW hL hS h1 h2
  have hS1 := jok_app hS
  have hok : ∀ v ∈ As, jok M.1.length v := fun v hv => hS1.1 v (List.mem_reverse.mpr hv)
  have hpre := jPre_call C hW
  have hokq : ∀ v ∈ Value.ref q :: As, jok M.1.length v := List.forall_mem_cons.mpr ⟨hS1.2 _ List.mem_cons_self, hok⟩
  have hS2 : ∀ v ∈ S, jok M.1.length v := jS_tl hS1.2
  rw [List.map_append, List.map_reverse]
  have hM := hc ρ κ H.size hokq
  have hrm := jroom (R := R) hb.1 hs.1.2.2.2 C.2.2.2.2.2.2.2.1 C.2.2.2.2.2.2.2.2.1
  have fx : CallFix p m c mi.2.1 mi.2.2.1 s args jG mi.1.cls := ⟨C.1, C.2.1, C.2.2.1, C.2.2.2.2.2.1, C.2.2.2.2.2.2.1⟩
  have hM := vx_toMet hM (fun E st t h => by obtain ⟨⟨M', _, _, hx, _⟩, _⟩ := h; exact hX0 _ _ hx)
  have hcw := cwI As.length C.2.2.2.2.2.2.1 (jws_good hs.1) (show jws mi' = Cond.code mi'.1 mi'.2.1 mi'.2.2.1 none :: jG by unfold jws; rw [hs.2.2.2]) rfl rfl (C.2.2.2.2.2.2.1 _ hs.1.2.1) (C.2.2.2.2.2.2.1 _ hl) (C.2.2.2.2.2.2.1 _ hs.2.1) hs.2.2.1 hs.1.2.2.1 hrm
  exact jcont C hW hL hS2 h1 h2 hb.2 (vx_ofRun (va_runI (As := As.map (jre ρ)) fx hM hcw ⟨jPre_blind, fun U hU hw => ⟨rfl, hpre U hU hw⟩⟩ rfl (List.length_map _) hL.2.1 rfl (lv_room (jcatS hcat)) d ⟨by omega, by omega⟩))
    (fun M' ρ' κ' H1 locs1 E q9 ce gX gW gL g1 g2 g3 => F.2.1 M' ρ' κ' ls H1 locs1 _ _ pc _ E q9 ce (hX E M' gX) gW (by omega) (by omega) g1 g2 g3) (fun v M' ρ' κ' H1 locs1 gP gW gL gok => k v M' gP p e R s m args below meth c A n0 ρ0 Q C F ρ' κ' ls H1 locs1 _ _ gW gL gok (by show _ + _ + (_ - _) ≤ _; omega) (by show _ + _ + (_ - _) ≤ _; omega))

set_option maxHeartbeats 1000000 in
theorem J.callIN {q idx : Nat} {host : String} {b' : Nat × Nat × Nat} {mi' : jMI} (As : List Value) {P' : Option Value → jM → Prop} {X' : String → jM → Prop} (d : decode mi.2.1 pc = .ok (.invokespecial idx, 3)) (hl : Cond.methodLinkNest mi.1.cls idx mi'.1 host ∈ lw_tbl) (hs : jIE mi' As.length) (hb : b'.1 + 1 ≤ b.1 ∧ b'.2.1 ≤ b.2.1 ∧ b'.2.2 ≤ b.2.2) (hc : Con Γ b' mi' (.ref q :: As) M P' X') (hX0 : ∀ E M', ¬ X' E M') (hX : ∀ E M', X' E M' → X E M') (hcat : (S.map fun v => v.category).sum ≤ 8)
    (k : ∀ v M', P' v M' → J Γ (b.1, b.2.1 - b'.2.1, b.2.2 - b'.2.2) mi (pc + 3) L (v.toList ++ S) M' P X) : J Γ b mi pc L (As.reverse ++ .ref q :: S) M P X := by
  intro p e R s m args below meth c A n0 ρ0 Q C F ρ κ ls H locs cells slots hW hL hS h1 h2
  have hS1 := jok_app hS
  have hok : ∀ v ∈ As, jok M.1.length v := fun v hv => hS1.1 v (List.mem_reverse.mpr hv)
  have hpre := jPre_call C hW
  have hokq : ∀ v ∈ Value.ref q :: As, jok M.1.length v := List.forall_mem_cons.mpr ⟨hS1.2 _ List.mem_cons_self, hok⟩
  have hS2 : ∀ v ∈ S, jok M.1.length v := jS_tl hS1.2
  rw [List.map_append, List.map_reverse]
  have hM := hc ρ κ H.size hokq
  have hrm := jroom (R := R) hb.1 hs.1.2.2.2 C.2.2.2.2.2.2.2.1 C.2.2.2.2.2.2.2.2.1
  have fx : CallFix p m c mi.2.1 mi.2.2.1 s args jG mi.1.cls := ⟨C.1, C.2.1, C.2.2.1, C.2.2.2.2.2.1, C.2.2.2.2.2.2.1⟩
  have hM := vx_toMet hM (fun E st t h => by obtain ⟨⟨M', _, _, hx, _⟩, _⟩ := h; exact hX0 _ _ hx)
  have hnw := C.2.2.2.2.2.2.2.2.2.2.2.2.2.2.1.1 _ _ _ _ hl
  have hcn := va_cnB As.length C.2.2.2.2.2.2.1 (jws_good hs.1) (show jws mi' = Cond.code mi'.1 mi'.2.1 mi'.2.2.1 none :: jG by unfold jws; rw [hs.2.2.2]) rfl rfl hnw (C.2.2.2.2.2.2.1 _ hs.1.2.1) hs.1.2.2.1 hrm
  exact jcont C hW hL hS2 h1 h2 hb.2 (vx_ofRun (va_runIN (As := As.map (jre ρ)) fx hM ⟨hcn, hs.2.2.1, C.2.2.2.2.2.2.1 _ hs.2.1⟩ ⟨jPre_blind, fun U hU hw => ⟨rfl, hpre U hU hw⟩⟩ rfl (List.length_map _) hL.2.1 rfl (lv_room (jcatS hcat)) d ⟨by omega, by omega⟩))
    (fun M' ρ' κ' H1 locs1 E q9 ce gX gW gL g1 g2 g3 => F.2.1 M' ρ' κ' ls H1 locs1 _ _ pc _ E q9 ce (hX E M' gX) gW (by omega) (by omega) g1 g2 g3) (fun v M' ρ' κ' H1 locs1 gP gW gL gok => k v M' gP p e R s m args below meth c A n0 ρ0 Q C F ρ' κ' ls H1 locs1 _ _ gW gL gok (by show _ + _ + (_ - _) ≤ _; omega) (by show _ + _ + (_ - _) ≤ _; omega))

end JL
