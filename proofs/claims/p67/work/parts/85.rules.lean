/-! rules for more instructions, and over the larger memories -/
section R5
variable {Γ : jE} {b : Nat × Nat × Nat} {mi : jMI} {pc : Nat} {L : List (Option Value)} {S : List Value} {M : jM} {P : Option Value → jM → Prop} {X : String → jM → Prop}
theorem J.ior {x y : Int32} (d : decode mi.2.1 pc = .ok (.ior, 1)) (k : J Γ b mi (pc + 1) L (.int (x ||| y) :: S) M P X) : J Γ b mi pc L (.int y :: .int x :: S) M P X := by
  intro p e R s m args below meth c A n0 ρ0 Q C F ρ κ ls H locs cells slots hW hL hS h1 h2
  exact lv_ior C.1 C.2.1 d (k p e R s m args below meth c A n0 ρ0 Q C F ρ κ ls H locs cells slots hW hL (jS_c (v := .int (x ||| y)) trivial (jS_tl (jS_tl hS))) h1 h2)
theorem J.ishl {x y : Int32} (d : decode mi.2.1 pc = .ok (.ishl, 1)) (k : J Γ b mi (pc + 1) L (.int (x <<< (y &&& 31)) :: S) M P X) : J Γ b mi pc L (.int y :: .int x :: S) M P X := by
  intro p e R s m args below meth c A n0 ρ0 Q C F ρ κ ls H locs cells slots hW hL hS h1 h2
  exact lv_ishl C.1 C.2.1 d (k p e R s m args below meth c A n0 ρ0 Q C F ρ κ ls H locs cells slots hW hL (jS_c (v := .int (x <<< (y &&& 31))) trivial (jS_tl (jS_tl hS))) h1 h2)
theorem J.dup2 {x : Int32} {q : Nat} (d : decode mi.2.1 pc = .ok (.dup2, 1)) (k : J Γ b mi (pc + 1) L (.int x :: .ref q :: .int x :: .ref q :: S) M P X) : J Γ b mi pc L (.int x :: .ref q :: S) M P X := by
  intro p e R s m args below meth c A n0 ρ0 Q C F ρ κ ls H locs cells slots hW hL hS h1 h2
  exact lv_dup2_11 C.1 C.2.1 d rfl rfl (k p e R s m args below meth c A n0 ρ0 Q C F ρ κ ls H locs cells slots hW hL (jS_c (jS_hd hS) (jS_c (jS_hd (jS_tl hS)) hS)) h1 h2)
theorem J.dupx1 {x : Int32} {q : Nat} (d : decode mi.2.1 pc = .ok (.dup_x1, 1)) (k : J Γ b mi (pc + 1) L (.int x :: .ref q :: .int x :: S) M P X) : J Γ b mi pc L (.int x :: .ref q :: S) M P X := by
  intro p e R s m args below meth c A n0 ρ0 Q C F ρ κ ls H locs cells slots hW hL hS h1 h2
  exact lv_dup_x1 C.1 C.2.1 d rfl rfl (k p e R s m args below meth c A n0 ρ0 Q C F ρ κ ls H locs cells slots hW hL (jS_c (jS_hd hS) (jS_c (jS_hd (jS_tl hS)) (jS_c (jS_hd hS) (jS_tl (jS_tl hS))))) h1 h2)
theorem J.popR {q : Nat} (d : decode mi.2.1 pc = .ok (.pop, 1)) (k : J Γ b mi (pc + 1) L S M P X) : J Γ b mi pc L (.ref q :: S) M P X := by
  intro p e R s m args below meth c A n0 ρ0 Q C F ρ κ ls H locs cells slots hW hL hS h1 h2
  exact lv_pop C.1 C.2.1 d rfl (k p e R s m args below meth c A n0 ρ0 Q C F ρ κ ls H locs cells slots hW hL (jS_tl hS) h1 h2)
theorem jcell_z {ρ : Nat → Nat} {κ : Nat → ClassId} {q n : Nat} : jcell ρ κ M q (107, n) = .inl (κ q, n, .inl (M.2.2.1 q)) := rfl
theorem jw_setZ {ρ : Nat → Nat} {κ : Nat → ClassId} {q n i : Nat} {x : Int32} (hs : M.1[q]? = some (107, n)) :
    (jw ρ κ M).set q (ρ q, .inl (κ q, n, .inl (upd (M.2.2.1 q) i x))) = jw ρ κ (M.1, M.2.1, jup2 M.2.2.1 q i x, M.2.2.2) := by
  have e1 : upd (M.2.2.1 q) i x = jup2 M.2.2.1 q i x q := by funext j; simp [upd, jup2]
  rw [e1]
  have e4 : jcell ρ κ (M.1, M.2.1, jup2 M.2.2.1 q i x, M.2.2.2) q (107, n) = .inl (κ q, n, .inl (jup2 M.2.2.1 q i x q)) := rfl
  rw [← e4]
  refine jw_set hs rfl ?_
  intro a z' ha _
  have e2 : ∀ c j, jfv ρ (M.1, M.2.1, jup2 M.2.2.1 q i x, M.2.2.2) a c j = jfv ρ M a c j := fun c j => by unfold jfv; simp [jup2, ha]
  have e3 : jup2 M.2.2.1 q i x a = M.2.2.1 a := by funext j; simp [jup2, ha]
  unfold jcell
  simp only [e3, show jfv ρ (M.1, M.2.1, jup2 M.2.2.1 q i x, M.2.2.2) a z'.1 = jfv ρ M a z'.1 from funext fun i => e2 _ i]
theorem J.zald {q n : Nat} {i : Int32} (d : decode mi.2.1 pc = .ok (.baload, 1)) (hs : M.1[q]? = some (107, n)) (hin : vp_in i n) (kk : J Γ b mi (pc + 1) L (.int (M.2.2.1 q i.toNatClampNeg) :: S) M P X) : J Γ b mi pc L (.int i :: .ref q :: S) M P X := by
  intro p e R s m args below meth c A n0 ρ0 Q C F ρ κ ls H locs cells slots hW hL hS h1 h2
  have he := jw_at (ρ := ρ) (κ := κ) hs
  rw [jcell_z] at he
  have hK := hW.2.2.2.1 q _ hs (Nat.le_of_ble_eq_true rfl)
  exact va_zald C.1 C.2.1 hK hW.1 q 0 he rfl hin d (kk p e R s m args below meth c A n0 ρ0 Q C F ρ κ ls H locs cells slots hW hL (jS_c (v := .int _) trivial (jS_tl (jS_tl hS))) h1 h2)
theorem J.zast {q n : Nat} {i x : Int32} (d : decode mi.2.1 pc = .ok (.bastore, 1)) (hs : M.1[q]? = some (107, n)) (hin : vp_in i n) (kk : J Γ b mi (pc + 1) L S (M.1, M.2.1, jup2 M.2.2.1 q i.toNatClampNeg (vp_nar .boolean x), M.2.2.2) P X) : J Γ b mi pc L (.int x :: .int i :: .ref q :: S) M P X := by
  intro p e R s m args below meth c A n0 ρ0 Q C F ρ κ ls H locs cells slots hW hL hS h1 h2
  have he := jw_at (ρ := ρ) (κ := κ) hs
  rw [jcell_z] at he
  have hK := hW.2.2.2.1 q _ hs (Nat.le_of_ble_eq_true rfl)
  refine va_zast C.1 C.2.1 hK hW.1 hW.2.1 hW.2.2.1 q 0 he rfl hin d (fun H1 locs1 hP1 hD1 hS1 => ?_)
  rw [jw_setZ hs] at hP1 hD1
  exact kk p e R s m args below meth c A n0 ρ0 Q C F ρ κ ls H1 locs1 cells slots ⟨hP1, hD1, hS1, hW.2.2.2⟩ hL (jS_tl (jS_tl (jS_tl hS))) h1 h2
theorem nm_rr {s : State} {cA : ClassId} (h : va_RA s cA (.array .int)) : s.vm.findClass "[[I" = some cA := by
  have e : "[" ++ (FieldType.array .int).toString = "[[I" := by decide +kernel
  rw [← e]
  exact h
theorem rr_nm {s : State} {cA : ClassId} (h : s.vm.findClass "[[I" = some cA) : va_RA s cA (.array .int) := by
  have e : "[" ++ (FieldType.array .int).toString = "[[I" := by decide +kernel
  show s.vm.findClass ("[" ++ (FieldType.array .int).toString) = some cA
  rw [e]
  exact h
theorem jcell_rr {ρ : Nat → Nat} {κ : Nat → ClassId} {q n : Nat} : jcell ρ κ M q (106, n) = .inl (κ q, n, .inr (.inr (.inr (.inr (fun i => (M.2.1 q i).map ρ))))) := rfl
theorem J.raald {q n r : Nat} {i : Int32} (d : decode mi.2.1 pc = .ok (.aaload, 1)) (hs : M.1[q]? = some (106, n)) (hin : vp_in i n) (hr : M.2.1 q i.toNatClampNeg = some r) (kk : J Γ b mi (pc + 1) L (.ref r :: S) M P X) : J Γ b mi pc L (.int i :: .ref q :: S) M P X := by
  intro p e R s m args below meth c A n0 ρ0 Q C F ρ κ ls H locs cells slots hW hL hS h1 h2
  have he := jw_at (ρ := ρ) (κ := κ) hs
  rw [jcell_rr] at he
  have hK := hW.2.2.2.1 q _ hs (Nat.le_of_ble_eq_true rfl)
  have hlt : i.toNatClampNeg < n := Nat.not_le.mp fun z => hin (Or.inr z)
  refine W.aald (v := .ref (ρ r)) (ty := .array .int) C.1 C.2.1 (hW.1 q _ he) ((hK.2 0 _ rfl).1 n (fun j => va_rf ((M.2.1 q j).map ρ))) rfl (fun z => by cases z) (by show ¬ (i < 0 ∨ (arrV _ _ _).slots.size ≤ _); rw [arrV_size]; exact hin) (by show (arrV _ _ _).slots[_]? = _; rw [arrV_read _ _ hlt]; show some (va_rf ((M.2.1 q i.toNatClampNeg).map ρ)) = _; rw [hr]; rfl) rfl rfl d ?_
  exact kk p e R s m args below meth c A n0 ρ0 Q C F ρ κ ls H locs cells slots hW hL (jS_c (v := .ref r) (Or.inl (hW.2.2.2.2.1 q _ r hr)) (jS_tl (jS_tl hS))) h1 h2
theorem jw_setRR {ρ : Nat → Nat} {κ : Nat → ClassId} {q n i r : Nat} (hs : M.1[q]? = some (106, n)) :
    (jw ρ κ M).set q (ρ q, .inl (κ q, n, .inr (.inr (.inr (.inr (va_up (fun i => (M.2.1 q i).map ρ) i (some (ρ r)))))))) = jw ρ κ (M.1, jup2 M.2.1 q i (some r), M.2.2) := by
  have e1 : va_up (fun i => (M.2.1 q i).map ρ) i (some (ρ r)) = fun j => (jup2 M.2.1 q i (some r) q j).map ρ := by funext j; by_cases hj : j = i <;> simp [va_up, jup2, hj]
  rw [e1]
  refine jw_set (M' := (M.1, jup2 M.2.1 q i (some r), M.2.2)) hs rfl ?_
  intro a z' ha _
  have e3 : jup2 M.2.1 q i (some r) a = M.2.1 a := by funext j; simp [jup2, ha]
  unfold jcell jfv
  simp only [e3]
set_option maxHeartbeats 1000000 in
theorem J.raast {q n r n6 : Nat} {i : Int32} (d : decode mi.2.1 pc = .ok (.aastore, 1)) (hs : M.1[q]? = some (106, n)) (hin : vp_in i n) (hr : M.1[r]? = some (100, n6)) (kk : J Γ b mi (pc + 1) L S (M.1, jup2 M.2.1 q i.toNatClampNeg (some r), M.2.2) P X) : J Γ b mi pc L (.ref r :: .int i :: .ref q :: S) M P X := by
  intro p e R s m args below meth c A n0 ρ0 Q C F ρ κ ls H locs cells slots hW hL hS h1 h2
  have he := jw_at (ρ := ρ) (κ := κ) hs
  rw [jcell_rr] at he
  have hK := hW.2.2.2.1 q _ hs (Nat.le_of_ble_eq_true rfl)
  have hv := jw_at (ρ := ρ) (κ := κ) hr
  rw [jcell_arr (by decide)] at hv
  have hKr := hW.2.2.2.1 r _ hr (Nat.le_of_ble_eq_true rfl)
  have hlt : i.toNatClampNeg < n := Nat.not_le.mp fun z => hin (Or.inr z)
  have h0 : ¬ i < 0 := fun z => hin (Or.inl z)
  obtain ⟨comp, cc, kA, a1, a2, a3, a4, a5⟩ := C.2.2.2.2.2.2.2.2.2.2.2.2.2.2.1.2.2.1.2
  have c1 : s.vm.findClass "[[I" = some (κ q) := nm_rr (hK.2 0 _ rfl).2
  have c2 : s.vm.findClass "[I" = some (κ r) := va_nm_int (hKr.2 0 _ rfl).2
  have e1 : cc = κ q := Option.some.inj (a5.symm.trans c1)
  have e2 : comp = κ r := Option.some.inj (a1.symm.trans c2)
  subst e1; subst e2
  obtain ⟨-, kr, kr1, -⟩ := (hKr.2 0 _ rfl).1 0 (fun _ => .null)
  refine W.aast C.1 C.2.1 (hW.1 q _ he) (fun z h => by cases h) (fun h => by cases h) a3 a4 rfl kr1 ⟨h0, by show _ < (arrV _ _ _).slots.size; rw [arrV_size]; exact hlt⟩ (hW.1 r _ hv) (fun z h => by cases h) kr1 (va_asg _ _) rfl rfl d fun H1 e9 z oq => ?_
  have hcell : H1[ρ q]? = some (vp_cell (κ q) (n, .inr (.inr (.inr (.inr (va_up (fun i => (M.2.1 q i).map ρ) i.toNatClampNeg (some (ρ r)))))))) := by
    rw [e9]
    show some (Cell.setSlot (vp_cell _ _) _ _) = _
    rw [vp_cell_q, vp_cell_q, arrV_store]
    congr 2
    funext j
    by_cases hj : j = i.toNatClampNeg
    · subst hj; simp [updV, va_up, va_rf]
    · simp [updV, va_up, hj]
  have hP1 : va_P Γ.2.1 vwCl ((jw ρ κ M).set q (ρ q, .inl (κ q, n, .inr (.inr (.inr (.inr (va_up (fun i => (M.2.1 q i).map ρ) i.toNatClampNeg (some (ρ r))))))))) H1 := hW.1.set hW.2.1 he hcell oq
  have hD1 := hW.2.1.set (e := .inl (κ q, n, .inr (.inr (.inr (.inr (va_up (fun i => (M.2.1 q i).map ρ) i.toNatClampNeg (some (ρ r)))))))) he
  have hS1 := hW.2.2.1.put (k := i.toNatClampNeg) z oq (hW.2.1.2 q _ he)
  rw [jw_setRR hs] at hP1 hD1
  exact kk p e R s m args below meth c A n0 ρ0 Q C F ρ κ ls H1 _ cells slots ⟨hP1, hD1, hS1, hW.2.2.2.1, jtau_up hW.2.2.2.2.1 (List.getElem?_eq_some_iff.mp hr).1, hW.2.2.2.2.2⟩ hL (jS_tl (jS_tl (jS_tl hS))) h1 h2
section AW
variable {p : Program} {l : Launch} {e : Env} {R : Room} {s : State} {m : MethodId} {args : Array Value} {below : List Frame} {meth : Method} {c : Code} {T : State} {H : Heap} {locs : List Loc} {cells slots : Nat} {Q : State → Prop}
/-- a row of int rows is made -/
theorem jx_anew (X : Stand p l e R s m args below meth c T locs cells slots) (hexec : p.tables.exec = Jvm.exec) {own : String} {index : Nat}
    (hown : s.vm.findClass own = some m.cls) (hclink : (Cond.classLink own index "[I").before args s = true) (hai : jAI s)
    {g : JFrame} (hg : g.method = m) (hdg : decode c.code g.pc = .ok (.anewarray index, 3)) {n : Int32} {rest : List Value} (hstack : g.stack = .int n :: rest)
    (hn : ¬ n < 0) (hbytes : n.toNatClampNeg * 4 ≤ 536870912) (hcells : cells + 1 ≤ R.cells) (hslots : slots + n.toNatClampNeg ≤ R.slots) :
    ∃ (vm₁ : Vm) (cA : ClassId) (kA : Class) (comp : ClassId),
      s.vm.findClass "[[I" = some cA ∧ s.vm.classes[cA]? = some kA ∧ kA.kind = .array comp (.array .int) ∧
      Stand p l e R s m args below meth c ((T.setVm vm₁).pushCell { cls := cA, slots := Array.replicate n.toNatClampNeg .null, vm := .none }) locs (cells + 1) (slots + n.toNatClampNeg) ∧
      ∀ target, Steps p.tables e below (((T.setVm vm₁).pushCell { cls := cA, slots := Array.replicate n.toNatClampNeg .null, vm := .none }).setTop { g with pc := g.pc + 3, stack := .ref T.heap.size :: rest }) target →
        Steps p.tables e below (T.setTop g) target := by
  subst hg
  have hpl : e.platform.magicAccessors = ({} : Platform).magicAccessors := by rw [X.admits.platform]
  obtain ⟨comp, cA, kA, hcomp, hidx, hkA, hkindA, hnameA⟩ := id hai
  obtain ⟨kComp, hkComp, -⟩ := Vm.findClass_spec hcomp
  obtain ⟨cc, hfcc, hcl⟩ := Cond.classLink_spec hown hclink e.platform hpl
  cases hcomp.symm.trans hfcc
  obtain ⟨hg₁, hwarm₁, hready₁⟩ := State.classEntry (e := e) X.warmed hcl
  generalize T.vm.noted g.method.cls index (.cls comp) = vm₁ at hg₁ hwarm₁ hready₁
  have hal : s.vm.Alike vm₁ := hwarm₁.alike
  obtain ⟨kComp₁, hkComp₁, -⟩ := hal.2.2 _ _ hkComp
  obtain ⟨kA₁, hkA₁, heA⟩ := hal.2.2 _ _ hkA
  have hkindA₁ : kA₁.kind = .array comp (.array .int) := by rw [heA]; exact hkindA
  have hidx₁ : (vm₁.classes.findIdx? fun x => match x.kind with | .array component _ => component == comp | _ => false) = some cA := by
    rw [hal.findIdx?_eq _ (fun _ => rfl)]; exact hidx
  have hlimit : ¬ n.toNatClampNeg > e.platform.arrayLengthLimit := by rw [Launch.admits_arrayLengthLimit X.admits]; omega
  have hheap : ¬ n.toNatClampNeg * componentBytes (.array .int) > e.platform.maxHeapBytes := by
    rw [Launch.admits_maxHeapBytes X.admits]; show ¬ n.toNatClampNeg * 4 > 536870912; omega
  have X₁ := X.noted hwarm₁
  have X₂ := X₁.pushed { cls := cA, slots := Array.replicate n.toNatClampNeg .null, vm := .none }
  obtain ⟨hr1, hr2⟩ := X.roomAbove hcells hslots
  refine ⟨vm₁, cA, kA, comp, hnameA, hkA, hkindA, by simpa using X₂, fun target hrest => ?_⟩
  jvm_step X.here [hexec, hdg, anewarray.wp_cold (e := e) (s := T) (f := g) X.here.top hg₁ hready₁,
    anewarray.wp_ready (e := e) (s := T.setVm vm₁) (f := g) (kc := kComp₁) (k := kA₁) (type := .array .int) X.here.top hready₁ hkComp₁ hidx₁ hkA₁ hkindA₁ rfl hstack hn hlimit hheap]
  exact ⟨by show T.heap.size < _; omega, by show T.slotsUsed + _ ≤ _; exact hr2, hrest⟩
theorem W_anewI {cc : ByteArray} (hexec : p.tables.exec = Jvm.exec) (hb : c.code = cc) {own : String} {index : Nat} (hown : s.vm.findClass own = some m.cls) (hclink : (Cond.classLink own index "[I").before args s = true) (hai : jAI s)
    {g : JFrame} (hg : g.method = m) (hdg : decode cc g.pc = .ok (.anewarray index, 3)) {n : Int32} {rest : List Value} (hstack : g.stack = .int n :: rest) (hn : ¬ n < 0) (hbytes : n.toNatClampNeg * 4 ≤ 536870912) (hcells : cells + 1 ≤ R.cells) (hslots : slots + n.toNatClampNeg ≤ R.slots)
    (kk : ∀ (cA : ClassId) (kA : Class) (comp : ClassId), s.vm.findClass "[[I" = some cA → s.vm.classes[cA]? = some kA → kA.kind = .array comp (.array .int) →
      W p l e R s m args below meth c (H.push { cls := cA, slots := Array.replicate n.toNatClampNeg .null, vm := .none }) locs (cells + 1) (slots + n.toNatClampNeg) Q { g with pc := g.pc + 3, stack := .ref H.size :: rest }) : W p l e R s m args below meth c H locs cells slots Q g := by
  intro T hT X
  subst hT; subst hb
  obtain ⟨vm₁, cA, kA, comp, h1, h2, h3, X', st⟩ := jx_anew X hexec hown hclink hai hg hdg hstack hn hbytes hcells hslots
  obtain ⟨t, a1, b1⟩ := kk cA kA comp h1 h2 h3 _ (by rfl) X'
  exact ⟨t, st t a1, b1⟩
end AW
set_option maxHeartbeats 1000000 in
theorem J.ranew {x : Int32} {idx : Nat} (n : Nat) (d : decode mi.2.1 pc = .ok (.anewarray idx, 3)) (hl : Cond.classLink mi.1.cls idx "[I" ∈ jG) (hx : x = Int32.ofNat n) (hn : n < 1000000) (hfr : jFr M) (hb : 1 ≤ b.2.1 ∧ n ≤ b.2.2)
    (k : J Γ (b.1, b.2.1 - 1, b.2.2 - n) mi (pc + 3) L (.ref M.1.length :: S) (M.1 ++ [(106, n)], M.2) P X) : J Γ b mi pc L (.int x :: S) M P X := by
  intro p e R s m args below meth c A n0 ρ0 Q C F ρ κ ls H locs cells slots hW hL hS h1 h2
  have hx2 : x = nI n := hx
  have hS' := jS_tl hS
  have hneg : ¬ x < 0 := by rw [hx2]; exact nI_pos (by omega)
  have hclp : x.toNatClampNeg = n := by rw [hx2]; exact nI_clamp (by omega)
  have hai := C.2.2.2.2.2.2.2.2.2.2.2.2.2.2.1.2.2.1.2
  have hA := C.2.2.2.2.2.2.2.2.2.2.1
  have hKc := C.2.2.2.2.2.2.2.2.2.1
  refine W_anewI C.1 C.2.1 C.2.2.2.2.2.1 (C.2.2.2.2.2.2.1 _ hl) hai rfl d rfl hneg (by rw [hclp]; omega) (by omega) (by rw [hclp]; omega) fun cA kA comp f1 f2 f3 => ?_
  rw [hclp]
  generalize hH1 : H.push ({ cls := cA, slots := Array.replicate n .null, vm := .none } : Cell) = H1
  have z1 : H1.size = H.size + 1 := by rw [← hH1, Array.size_push]
  have e1 : H1[H.size]? = some (arrV cA n (fun _ => .null)) := by rw [← hH1, Array.getElem?_push_size, ← arrV_new]
  have o1 : ∀ q : Nat, q < H.size → H1[q]? = H[q]? := fun q hq => by rw [← hH1, Array.getElem?_push, if_neg (Nat.ne_of_lt hq)]
  have hAr : ArrOfT s cA (.array .int) := fun N z => ⟨(fun k h => by cases h), kA, f2, comp, f3⟩
  have hSS := hW.2.2.1
  have hk : ∀ (k : Nat) (x : Nat × va_E), (jw ρ κ M)[k]? = some x → H1[x.1]? = H[x.1]? := fun k x hx => o1 x.1 ((hW.1 k x hx).lt)
  have hP : va_P Γ.2.1 vwCl (jw ρ κ M ++ [(H.size, .inl (cA, n, .inr (.inr (.inr (.inr (fun _ => none))))))]) H1 := (hW.1.kept hk).app (fun k x hx => by
    have hz : k < 1 := (List.getElem?_eq_some_iff.mp hx).1
    rw [show k = 0 by omega] at hx
    cases hx
    show H1[H.size]? = some (vp_cell _ _)
    rw [vp_cell_q]
    exact e1)
  have hD : va_D A (jw ρ κ M ++ [(H.size, .inl (cA, n, .inr (.inr (.inr (.inr (fun _ => none))))))]) := hW.2.1.push hW.1 rfl (hA _ hSS.1)
  have hS1 : va_S A s.heap H1 locs := ⟨Nat.le_trans hSS.1 (by omega), fun x h1 h2 => (o1 x (Nat.lt_of_lt_of_le h1 hSS.1)).trans (hSS.2.1 x h1 h2), hSS.2.2⟩
  have hcell : jcell (fun k => if k = M.1.length then H.size else ρ k) (fun k => if k = M.1.length then cA else κ k) (M.1 ++ [(106, n)], M.2) M.1.length (106, n) = .inl (cA, n, .inr (.inr (.inr (.inr (fun _ => none))))) := by
    obtain ⟨g1, g2, g3, g4⟩ := hfr.2 M.1.length (Nat.le_refl _)
    unfold jcell
    simp [g1]
  have hW2 := jW_app hfr hW hcell hP hD hS1 (fun _ => ⟨hKc.1, fun i z hz => by
    match i, hz with
    | 0, hz => cases hz; exact ⟨hAr, rr_nm f1⟩
    | i + 1, hz => cases hz⟩)
  have := k p e R s m args below meth c A n0 ρ0 Q C F _ _ ls H1 locs (cells + 1) (slots + n) hW2 (by show jL _ (M.1 ++ [(106, n)]).length _ _ _; rw [List.length_append]; exact jL_app hfr.1 hL) (jS_c (v := .ref M.1.length) (Or.inl (by show _ < (M.1 ++ [(106, n)]).length; simp)) (fun v hv => jok_mono (by show _ ≤ (M.1 ++ [(106, n)]).length; simp) (hS' v hv))) (by show _ + _ + (_ - _) ≤ _; omega) (by show _ + _ + (_ - _) ≤ _; omega)
  rw [List.map_cons, jre_app hfr.1 hS'] at this
  simpa [jre] using this
set_option maxHeartbeats 1000000 in
theorem J.newaZ {x : Int32} (n : Nat) (d : decode mi.2.1 pc = .ok (.newarray .boolean, 2)) (hw : Cond.arrayClass .boolean ∈ jG) (hx : x = Int32.ofNat n) (hn : n < 1000000) (hfr : jFr M) (hb : 1 ≤ b.2.1 ∧ n ≤ b.2.2)
    (k : J Γ (b.1, b.2.1 - 1, b.2.2 - n) mi (pc + 2) L (.ref M.1.length :: S) (M.1 ++ [(107, n)], M.2) P X) : J Γ b mi pc L (.int x :: S) M P X := by
  intro p e R s m args below meth c A n0 ρ0 Q C F ρ κ ls H locs cells slots hW hL hS h1 h2
  have hx2 : x = nI n := hx
  have hS' := jS_tl hS
  have hneg : ¬ x < 0 := by rw [hx2]; exact nI_pos (by omega)
  have hclp : x.toNatClampNeg = n := by rw [hx2]; exact nI_clamp (by omega)
  have hby : n * componentBytes .boolean ≤ 536870912 := by
    have h8 : componentBytes .boolean ≤ 8 := by decide
    have := Nat.mul_le_mul_left n h8
    omega
  refine va_newa (atype := .boolean) (ty := .boolean) (N' := n) (a0 := (n, .inl (fun _ => 0))) C.1 C.2.1 (C.2.2.2.2.2.2.1 _ hw) rfl C.2.2.2.2.2.2.2.2.2.1 hW.1 hW.2.1 hW.2.2.1 C.2.2.2.2.2.2.2.2.2.2.1 (fun cA => rfl) hneg hclp hby (by omega) (by omega) d (fun q cA H1 hK hP hD hS1 => ?_)
  have hcell : jcell (fun k => if k = M.1.length then q else ρ k) (fun k => if k = M.1.length then cA else κ k) (M.1 ++ [(107, n)], M.2) M.1.length (107, n) = .inl (cA, n, .inl (fun _ => 0)) := by
    obtain ⟨f1, f2, f3, f4⟩ := hfr.2 M.1.length (Nat.le_refl _)
    have e2 : M.2.2.1 M.1.length = fun _ => 0 := funext f2
    have e3 : M.2.2.2.1 M.1.length = fun _ => 0 := funext f3
    have e4 : M.2.2.2.2 M.1.length = fun _ => 0 := funext f4
    unfold jcell
    simp [e2, e3, e4]
  have hW2 := jW_app hfr hW hcell hP hD hS1 (fun _ => ⟨hK.1, fun i z hz => hK.2 i z hz⟩)
  have := k p e R s m args below meth c A n0 ρ0 Q C F _ _ ls H1 locs (cells + 1) (slots + n) hW2 (by show jL _ (M.1 ++ [(107, n)]).length _ _ _; rw [List.length_append]; exact jL_app hfr.1 hL) (jS_c (v := .ref M.1.length) (Or.inl (by show _ < (M.1 ++ [(107, n)]).length; simp)) (fun v hv => jok_mono (by show _ ≤ (M.1 ++ [(107, n)]).length; simp) (hS' v hv))) (by show _ + _ + (_ - _) ≤ _; omega) (by show _ + _ + (_ - _) ≤ _; omega)
  rw [List.map_cons, jre_app hfr.1 hS'] at this
  simpa [jre] using this
end R5
