section JL2
variable {Γ : jE} {b : Nat × Nat × Nat} {mi : jMI} {pc : Nat} {L : List (Option Value)} {S : List Value} {M : jM} {P : Option Value → jM → Prop} {X : String → jM → Prop}
/-- rows that are not yet used are blank -/
def jFr (M : jM) : Prop := M.1.length < 1000000 ∧ ∀ q, M.1.length ≤ q → (∀ i, M.2.1 q i = none) ∧ (∀ i, M.2.2.1 q i = 0) ∧ (∀ i, M.2.2.2.1 q i = 0) ∧ ∀ i, M.2.2.2.2 q i = 0
theorem jw_app {ρ ρ' : Nat → Nat} {κ κ' : Nat → ClassId} {z : Nat × Nat} (hρ : ∀ k, k < M.1.length → ρ' k = ρ k ∧ κ' k = κ k) (hτ : ∀ q i r, M.2.1 q i = some r → r < M.1.length) :
    jw ρ' κ' (M.1 ++ [z], M.2) = jw ρ κ M ++ [(ρ' M.1.length, jcell ρ' κ' (M.1 ++ [z], M.2) M.1.length z)] := by
  unfold jw
  rw [List.mapIdx_append]
  congr 1
  · apply List.ext_getElem?
    intro k
    rw [List.getElem?_mapIdx, List.getElem?_mapIdx]
    cases hk : M.1[k]? with
    | none => rfl
    | some z' =>
      have hlt : k < M.1.length := (List.getElem?_eq_some_iff.mp hk).1
      have hm : ∀ q i, (M.2.1 q i).map ρ' = (M.2.1 q i).map ρ := fun q i => by
        cases hv : M.2.1 q i with
        | none => rfl
        | some r => simp only [Option.map_some, (hρ r (hτ q i r hv)).1]
      simp only [Option.map_some]
      rw [(hρ k hlt).1]
      unfold jcell jfv
      simp only [hm, (hρ k hlt).2]
  · simp
/-- one cell more -/
theorem jW_app {s : State} {A : Nat → Prop} {n0 : Nat} {ρ0 ρ : Nat → Nat} {κ : Nat → ClassId} {H H1 : Heap} {locs : List Loc} {z : Nat × Nat} {q : Nat} {cA : ClassId} {e9 : va_E} (hfr : jFr M) (hW : jW Γ s A n0 ρ0 M ρ κ H locs)
    (hcell : jcell (fun k => if k = M.1.length then q else ρ k) (fun k => if k = M.1.length then cA else κ k) (M.1 ++ [z], M.2) M.1.length z = e9)
    (hP : va_P Γ.2.1 vwCl (jw ρ κ M ++ [(q, e9)]) H1) (hD : va_D A (jw ρ κ M ++ [(q, e9)])) (hS : va_S A s.heap H1 locs) (hK : 100 ≤ z.1 → va_K Γ.2.1 vwCl [(cA, jty z.1)] s) :
    jW Γ s A n0 ρ0 (M.1 ++ [z], M.2) (fun k => if k = M.1.length then q else ρ k) (fun k => if k = M.1.length then cA else κ k) H1 locs := by
  obtain ⟨w1, w2, w3, w4, w5, w6, w7⟩ := hW
  have e := jw_app (M := M) (z := z) (ρ := ρ) (κ := κ) (ρ' := fun k => if k = M.1.length then q else ρ k) (κ' := fun k => if k = M.1.length then cA else κ k) (fun k hk => by simp [Nat.ne_of_lt hk]) w5
  rw [hcell] at e
  simp only [if_true] at e
  refine ⟨by rw [e]; exact hP, by rw [e]; exact hD, hS, fun k z' hk hz => ?_, fun k i r hr => ?_, ?_, fun k hk => ?_⟩
  · have hk : (M.1 ++ [z])[k]? = some z' := hk
    rw [List.getElem?_append] at hk
    split at hk
    · rename_i hlt
      simp only [if_neg (Nat.ne_of_lt hlt)]
      exact w4 k z' hk hz
    · rename_i hge
      have hk0 : k = M.1.length := by
        have := (List.getElem?_eq_some_iff.mp hk).1
        simp at this; omega
      subst hk0
      simp at hk
      subst hk
      simp only [if_true]
      exact hK hz
  · have := w5 k i r hr
    show r < (M.1 ++ [z]).length
    simp; omega
  · show n0 ≤ (M.1 ++ [z]).length
    simp; omega
  · have hne : k ≠ M.1.length := by
      rcases hk with h | h
      · omega
      · have := hfr.1; omega
    simp only [if_neg hne]
    exact w7 k hk
theorem jL_app {ρ : Nat → Nat} {n nL q : Nat} {L : List (Option Value)} {ls : Array Slot} (hn : n < 1000000) (hL : jL ρ n nL L ls) : jL (fun k => if k = n then q else ρ k) (n + 1) nL L ls :=
  ⟨hL.1, hL.2.1, hL.2.2.1, fun i v hi => by
    obtain ⟨u1, u2⟩ := hL.2.2.2 i v hi
    refine ⟨?_, jok_mono (Nat.le_succ n) u2⟩
    rw [jre_ext (ρ := ρ) (n := n) (fun k hk => by have : k ≠ n := by omega
                                                  simp [this]) u2]; exact u1⟩
theorem jre_app {ρ : Nat → Nat} {n q : Nat} {S : List Value} (hn : n < 1000000) (hS : ∀ v ∈ S, jok n v) : S.map (jre (fun k => if k = n then q else ρ k)) = S.map (jre ρ) :=
  jre_map (n := n) (fun k hk => by have : k ≠ n := by omega
                                   simp [this]) hS
/-- the fields of a new object: null or 0 -/
def jDef : Prop := ∀ (ci : Nat) (C : String) (T : u_T) (N : Nat), vwCl[ci]? = some (C, T, N) → ci < 100 ∧ (∀ w ∈ u_ws C T N, w ∈ jG) ∧ ∃ ty0 : Nat → FieldType, (∀ k, k < N → parseFieldDescriptor (T k).2.2.1 = some (ty0 k)) ∧ ∀ k, k < N → defaultValue (ty0 k) = if jrf ci k = true then .null else .int 0
set_option maxHeartbeats 1000000 in
theorem J.new (hdf : jDef) {idx ci N : Nat} {Cn : String} {T : u_T} (d : decode mi.2.1 pc = .ok (.new idx, 3)) (hc : vwCl[ci]? = some (Cn, T, N)) (hl : Cond.classLink mi.1.cls idx Cn ∈ jG) (hi : Cond.instantiable Cn N ∈ jG) (hini : Cond.initialized Cn ∈ jG) (hfr : jFr M) (hb : 1 ≤ b.2.1 ∧ N ≤ b.2.2)
    (k : J Γ (b.1, b.2.1 - 1, b.2.2 - N) mi (pc + 3) L (.ref M.1.length :: S) (M.1 ++ [(ci, N)], M.2) P X) : J Γ b mi pc L S M P X := by
  intro p e R s m args below meth c A n0 ρ0 Q C F ρ κ ls H locs cells slots hW hL hS h1 h2
  obtain ⟨hci, hin, ty0, hty, hdv⟩ := hdf ci Cn T N hc
  have hts := C.2.2.2.2.2.2.1
  refine va_new (fs := (List.range N).map fun j => if jrf ci j = true then Value.null else .int 0) C.1 C.2.1 hts hin ty0 hty C.2.2.2.2.2.1 (hts _ hl) (hts _ hi) (hts _ hini) C.2.2.2.2.2.2.2.2.2.1 hW.1 hW.2.1 hW.2.2.1 C.2.2.2.2.2.2.2.2.2.2.1 hc ?_ (by omega) (by omega) d (fun q H1 hP hD hS1 => ?_)
  · intro j hj
    rw [hdv j hj]
    unfold vp_V
    rw [List.getD_eq_getElem?_getD, List.getElem?_map, List.getElem?_range hj]
    rfl
  have hcell : jcell (fun k => if k = M.1.length then q else ρ k) (fun k => if k = M.1.length then 0 else κ k) (M.1 ++ [(ci, N)], M.2) M.1.length (ci, N) = .inr (ci, (List.range N).map fun j => if jrf ci j = true then Value.null else .int 0) := by
    rw [jcell_obj hci]
    congr 2
    apply List.map_congr_left
    intro j _
    unfold jfv
    obtain ⟨f1, f2, -⟩ := hfr.2 M.1.length (Nat.le_refl _)
    show (if jrf ci j = true then va_rf ((M.2.1 M.1.length j).map _) else Value.int (M.2.2.1 M.1.length j)) = _
    rw [f1 j, f2 j]
    rfl
  have hW2 := jW_app hfr hW hcell hP hD hS1 (fun h => absurd h (Nat.not_le.mpr hci))
  have := k p e R s m args below meth c A n0 ρ0 Q C F _ _ ls H1 locs (cells + 1) (slots + N) hW2 (by show jL _ (M.1 ++ [(ci, N)]).length _ _ _; rw [List.length_append]; exact jL_app hfr.1 hL) (jS_c (v := .ref M.1.length) (Or.inl (by show _ < (M.1 ++ [(ci, N)]).length; simp)) (fun v hv => jok_mono (by show _ ≤ (M.1 ++ [(ci, N)]).length; simp) (hS v hv))) (by show _ + _ + (_ - _) ≤ _; omega) (by show _ + _ + (_ - _) ≤ _; omega)
  rw [List.map_cons, jre_app hfr.1 hS] at this
  simpa [jre] using this

set_option maxHeartbeats 1000000 in
theorem J.newaI {x : Int32} (n : Nat) (d : decode mi.2.1 pc = .ok (.newarray .int, 2)) (hw : Cond.arrayClass .int ∈ jG) (hx : x = Int32.ofNat n) (hn : n < 1000000) (hfr : jFr M) (hb : 1 ≤ b.2.1 ∧ n ≤ b.2.2)
    (k : J Γ (b.1, b.2.1 - 1, b.2.2 - n) mi (pc + 2) L (.ref M.1.length :: S) (M.1 ++ [(100, n)], M.2) P X) : J Γ b mi pc L (.int x :: S) M P X := by
  intro p e R s m args below meth c A n0 ρ0 Q C F ρ κ ls H locs cells slots hW hL hS h1 h2
  have hx2 : x = nI n := hx
  have hS' := jS_tl hS
  have hneg : ¬ x < 0 := by rw [hx2]; exact nI_pos (by omega)
  have hclp : x.toNatClampNeg = n := by rw [hx2]; exact nI_clamp (by omega)
  have hby : n * componentBytes .int ≤ 536870912 := by
    have h8 : componentBytes .int ≤ 8 := by decide
    have := Nat.mul_le_mul_left n h8
    omega
  refine va_newa (atype := .int) (ty := .int) (N' := n) (a0 := (n, .inl (fun _ => 0))) C.1 C.2.1 (C.2.2.2.2.2.2.1 _ hw) rfl C.2.2.2.2.2.2.2.2.2.1 hW.1 hW.2.1 hW.2.2.1 C.2.2.2.2.2.2.2.2.2.2.1 (fun cA => rfl) hneg hclp hby (by omega) (by omega) d (fun q cA H1 hK hP hD hS1 => ?_)
  have hcell : jcell (fun k => if k = M.1.length then q else ρ k) (fun k => if k = M.1.length then cA else κ k) (M.1 ++ [(100, n)], M.2) M.1.length (100, n) = .inl (cA, n, .inl (fun _ => 0)) := by
    obtain ⟨f1, f2, f3, f4⟩ := hfr.2 M.1.length (Nat.le_refl _)
    have e2 : M.2.2.1 M.1.length = fun _ => 0 := funext f2
    have e3 : M.2.2.2.1 M.1.length = fun _ => 0 := funext f3
    have e4 : M.2.2.2.2 M.1.length = fun _ => 0 := funext f4
    unfold jcell
    simp [e2, e3, e4]
  have hW2 := jW_app hfr hW hcell hP hD hS1 (fun _ => ⟨hK.1, fun i z hz => hK.2 i z hz⟩)
  have := k p e R s m args below meth c A n0 ρ0 Q C F _ _ ls H1 locs (cells + 1) (slots + n) hW2 (by show jL _ (M.1 ++ [(100, n)]).length _ _ _; rw [List.length_append]; exact jL_app hfr.1 hL) (jS_c (v := .ref M.1.length) (Or.inl (by show _ < (M.1 ++ [(100, n)]).length; simp)) (fun v hv => jok_mono (by show _ ≤ (M.1 ++ [(100, n)]).length; simp) (hS' v hv))) (by show _ + _ + (_ - _) ≤ _; omega) (by show _ + _ + (_ - _) ≤ _; omega)
  rw [List.map_cons, jre_app hfr.1 hS'] at this
  simpa [jre] using this

set_option maxHeartbeats 1000000 in
theorem J.newaB {x : Int32} (n : Nat) (d : decode mi.2.1 pc = .ok (.newarray .byte, 2)) (hw : Cond.arrayClass .byte ∈ jG) (hx : x = Int32.ofNat n) (hn : n < 1000000) (hfr : jFr M) (hb : 1 ≤ b.2.1 ∧ n ≤ b.2.2)
    (k : J Γ (b.1, b.2.1 - 1, b.2.2 - n) mi (pc + 2) L (.ref M.1.length :: S) (M.1 ++ [(101, n)], M.2) P X) : J Γ b mi pc L (.int x :: S) M P X := by
  intro p e R s m args below meth c A n0 ρ0 Q C F ρ κ ls H locs cells slots hW hL hS h1 h2
  have hx2 : x = nI n := hx
  have hS' := jS_tl hS
  have hneg : ¬ x < 0 := by rw [hx2]; exact nI_pos (by omega)
  have hclp : x.toNatClampNeg = n := by rw [hx2]; exact nI_clamp (by omega)
  have hby : n * componentBytes .byte ≤ 536870912 := by
    have h8 : componentBytes .byte ≤ 8 := by decide
    have := Nat.mul_le_mul_left n h8
    omega
  refine va_newa (atype := .byte) (ty := .byte) (N' := n) (a0 := (n, .inl (fun _ => 0))) C.1 C.2.1 (C.2.2.2.2.2.2.1 _ hw) rfl C.2.2.2.2.2.2.2.2.2.1 hW.1 hW.2.1 hW.2.2.1 C.2.2.2.2.2.2.2.2.2.2.1 (fun cA => rfl) hneg hclp hby (by omega) (by omega) d (fun q cA H1 hK hP hD hS1 => ?_)
  have hcell : jcell (fun k => if k = M.1.length then q else ρ k) (fun k => if k = M.1.length then cA else κ k) (M.1 ++ [(101, n)], M.2) M.1.length (101, n) = .inl (cA, n, .inl (fun _ => 0)) := by
    obtain ⟨f1, f2, f3, f4⟩ := hfr.2 M.1.length (Nat.le_refl _)
    have e2 : M.2.2.1 M.1.length = fun _ => 0 := funext f2
    have e3 : M.2.2.2.1 M.1.length = fun _ => 0 := funext f3
    have e4 : M.2.2.2.2 M.1.length = fun _ => 0 := funext f4
    unfold jcell
    simp [e2, e3, e4]
  have hW2 := jW_app hfr hW hcell hP hD hS1 (fun _ => ⟨hK.1, fun i z hz => hK.2 i z hz⟩)
  have := k p e R s m args below meth c A n0 ρ0 Q C F _ _ ls H1 locs (cells + 1) (slots + n) hW2 (by show jL _ (M.1 ++ [(101, n)]).length _ _ _; rw [List.length_append]; exact jL_app hfr.1 hL) (jS_c (v := .ref M.1.length) (Or.inl (by show _ < (M.1 ++ [(101, n)]).length; simp)) (fun v hv => jok_mono (by show _ ≤ (M.1 ++ [(101, n)]).length; simp) (hS' v hv))) (by show _ + _ + (_ - _) ≤ _; omega) (by show _ + _ + (_ - _) ≤ _; omega)
  rw [List.map_cons, jre_app hfr.1 hS'] at this
  simpa [jre] using this

set_option maxHeartbeats 1000000 in
theorem J.newaC {x : Int32} (n : Nat) (d : decode mi.2.1 pc = .ok (.newarray .char, 2)) (hw : Cond.arrayClass .char ∈ jG) (hx : x = Int32.ofNat n) (hn : n < 1000000) (hfr : jFr M) (hb : 1 ≤ b.2.1 ∧ n ≤ b.2.2)
    (k : J Γ (b.1, b.2.1 - 1, b.2.2 - n) mi (pc + 2) L (.ref M.1.length :: S) (M.1 ++ [(102, n)], M.2) P X) : J Γ b mi pc L (.int x :: S) M P X := by
  intro p e R s m args below meth c A n0 ρ0 Q C F ρ κ ls H locs cells slots hW hL hS h1 h2
  have hx2 : x = nI n := hx
  have hS' := jS_tl hS
  have hneg : ¬ x < 0 := by rw [hx2]; exact nI_pos (by omega)
  have hclp : x.toNatClampNeg = n := by rw [hx2]; exact nI_clamp (by omega)
  have hby : n * componentBytes .char ≤ 536870912 := by
    have h8 : componentBytes .char ≤ 8 := by decide
    have := Nat.mul_le_mul_left n h8
    omega
  refine va_newa (atype := .char) (ty := .char) (N' := n) (a0 := (n, .inl (fun _ => 0))) C.1 C.2.1 (C.2.2.2.2.2.2.1 _ hw) rfl C.2.2.2.2.2.2.2.2.2.1 hW.1 hW.2.1 hW.2.2.1 C.2.2.2.2.2.2.2.2.2.2.1 (fun cA => rfl) hneg hclp hby (by omega) (by omega) d (fun q cA H1 hK hP hD hS1 => ?_)
  have hcell : jcell (fun k => if k = M.1.length then q else ρ k) (fun k => if k = M.1.length then cA else κ k) (M.1 ++ [(102, n)], M.2) M.1.length (102, n) = .inl (cA, n, .inl (fun _ => 0)) := by
    obtain ⟨f1, f2, f3, f4⟩ := hfr.2 M.1.length (Nat.le_refl _)
    have e2 : M.2.2.1 M.1.length = fun _ => 0 := funext f2
    have e3 : M.2.2.2.1 M.1.length = fun _ => 0 := funext f3
    have e4 : M.2.2.2.2 M.1.length = fun _ => 0 := funext f4
    unfold jcell
    simp [e2, e3, e4]
  have hW2 := jW_app hfr hW hcell hP hD hS1 (fun _ => ⟨hK.1, fun i z hz => hK.2 i z hz⟩)
  have := k p e R s m args below meth c A n0 ρ0 Q C F _ _ ls H1 locs (cells + 1) (slots + n) hW2 (by show jL _ (M.1 ++ [(102, n)]).length _ _ _; rw [List.length_append]; exact jL_app hfr.1 hL) (jS_c (v := .ref M.1.length) (Or.inl (by show _ < (M.1 ++ [(102, n)]).length; simp)) (fun v hv => jok_mono (by show _ ≤ (M.1 ++ [(102, n)]).length; simp) (hS' v hv))) (by show _ + _ + (_ - _) ≤ _; omega) (by show _ + _ + (_ - _) ≤ _; omega)
  rw [List.map_cons, jre_app hfr.1 hS'] at this
  simpa [jre] using this

set_option maxHeartbeats 1000000 in
theorem J.newaL {x : Int32} (n : Nat) (d : decode mi.2.1 pc = .ok (.newarray .long, 2)) (hw : Cond.arrayClass .long ∈ jG) (hx : x = Int32.ofNat n) (hn : n < 1000000) (hfr : jFr M) (hb : 1 ≤ b.2.1 ∧ n ≤ b.2.2)
    (k : J Γ (b.1, b.2.1 - 1, b.2.2 - n) mi (pc + 2) L (.ref M.1.length :: S) (M.1 ++ [(103, n)], M.2) P X) : J Γ b mi pc L (.int x :: S) M P X := by
  intro p e R s m args below meth c A n0 ρ0 Q C F ρ κ ls H locs cells slots hW hL hS h1 h2
  have hx2 : x = nI n := hx
  have hS' := jS_tl hS
  have hneg : ¬ x < 0 := by rw [hx2]; exact nI_pos (by omega)
  have hclp : x.toNatClampNeg = n := by rw [hx2]; exact nI_clamp (by omega)
  have hby : n * componentBytes .long ≤ 536870912 := by
    have h8 : componentBytes .long ≤ 8 := by decide
    have := Nat.mul_le_mul_left n h8
    omega
  refine va_newa (atype := .long) (ty := .long) (N' := n) (a0 := (n, .inr (.inl (fun _ => 0)))) C.1 C.2.1 (C.2.2.2.2.2.2.1 _ hw) rfl C.2.2.2.2.2.2.2.2.2.1 hW.1 hW.2.1 hW.2.2.1 C.2.2.2.2.2.2.2.2.2.2.1 (fun cA => rfl) hneg hclp hby (by omega) (by omega) d (fun q cA H1 hK hP hD hS1 => ?_)
  have hcell : jcell (fun k => if k = M.1.length then q else ρ k) (fun k => if k = M.1.length then cA else κ k) (M.1 ++ [(103, n)], M.2) M.1.length (103, n) = .inl (cA, n, .inr (.inl (fun _ => 0))) := by
    obtain ⟨f1, f2, f3, f4⟩ := hfr.2 M.1.length (Nat.le_refl _)
    have e2 : M.2.2.1 M.1.length = fun _ => 0 := funext f2
    have e3 : M.2.2.2.1 M.1.length = fun _ => 0 := funext f3
    have e4 : M.2.2.2.2 M.1.length = fun _ => 0 := funext f4
    unfold jcell
    simp [e2, e3, e4]
  have hW2 := jW_app hfr hW hcell hP hD hS1 (fun _ => ⟨hK.1, fun i z hz => hK.2 i z hz⟩)
  have := k p e R s m args below meth c A n0 ρ0 Q C F _ _ ls H1 locs (cells + 1) (slots + n) hW2 (by show jL _ (M.1 ++ [(103, n)]).length _ _ _; rw [List.length_append]; exact jL_app hfr.1 hL) (jS_c (v := .ref M.1.length) (Or.inl (by show _ < (M.1 ++ [(103, n)]).length; simp)) (fun v hv => jok_mono (by show _ ≤ (M.1 ++ [(103, n)]).length; simp) (hS' v hv))) (by show _ + _ + (_ - _) ≤ _; omega) (by show _ + _ + (_ - _) ≤ _; omega)
  rw [List.map_cons, jre_app hfr.1 hS'] at this
  simpa [jre] using this

set_option maxHeartbeats 1000000 in
theorem J.newaD {x : Int32} (n : Nat) (d : decode mi.2.1 pc = .ok (.newarray .double, 2)) (hw : Cond.arrayClass .double ∈ jG) (hx : x = Int32.ofNat n) (hn : n < 1000000) (hfr : jFr M) (hb : 1 ≤ b.2.1 ∧ n ≤ b.2.2)
    (k : J Γ (b.1, b.2.1 - 1, b.2.2 - n) mi (pc + 2) L (.ref M.1.length :: S) (M.1 ++ [(104, n)], M.2) P X) : J Γ b mi pc L (.int x :: S) M P X := by
  intro p e R s m args below meth c A n0 ρ0 Q C F ρ κ ls H locs cells slots hW hL hS h1 h2
  have hx2 : x = nI n := hx
  have hS' := jS_tl hS
  have hneg : ¬ x < 0 := by rw [hx2]; exact nI_pos (by omega)
  have hclp : x.toNatClampNeg = n := by rw [hx2]; exact nI_clamp (by omega)
  have hby : n * componentBytes .double ≤ 536870912 := by
    have h8 : componentBytes .double ≤ 8 := by decide
    have := Nat.mul_le_mul_left n h8
    omega
  refine va_newa (atype := .double) (ty := .double) (N' := n) (a0 := (n, .inr (.inr (.inr (.inl (fun _ => 0)))))) C.1 C.2.1 (C.2.2.2.2.2.2.1 _ hw) rfl C.2.2.2.2.2.2.2.2.2.1 hW.1 hW.2.1 hW.2.2.1 C.2.2.2.2.2.2.2.2.2.2.1 (fun cA => rfl) hneg hclp hby (by omega) (by omega) d (fun q cA H1 hK hP hD hS1 => ?_)
  have hcell : jcell (fun k => if k = M.1.length then q else ρ k) (fun k => if k = M.1.length then cA else κ k) (M.1 ++ [(104, n)], M.2) M.1.length (104, n) = .inl (cA, n, .inr (.inr (.inr (.inl (fun _ => 0))))) := by
    obtain ⟨f1, f2, f3, f4⟩ := hfr.2 M.1.length (Nat.le_refl _)
    have e2 : M.2.2.1 M.1.length = fun _ => 0 := funext f2
    have e3 : M.2.2.2.1 M.1.length = fun _ => 0 := funext f3
    have e4 : M.2.2.2.2 M.1.length = fun _ => 0 := funext f4
    unfold jcell
    simp [e2, e3, e4]
  have hW2 := jW_app hfr hW hcell hP hD hS1 (fun _ => ⟨hK.1, fun i z hz => hK.2 i z hz⟩)
  have := k p e R s m args below meth c A n0 ρ0 Q C F _ _ ls H1 locs (cells + 1) (slots + n) hW2 (by show jL _ (M.1 ++ [(104, n)]).length _ _ _; rw [List.length_append]; exact jL_app hfr.1 hL) (jS_c (v := .ref M.1.length) (Or.inl (by show _ < (M.1 ++ [(104, n)]).length; simp)) (fun v hv => jok_mono (by show _ ≤ (M.1 ++ [(104, n)]).length; simp) (hS' v hv))) (by show _ + _ + (_ - _) ≤ _; omega) (by show _ + _ + (_ - _) ≤ _; omega)
  rw [List.map_cons, jre_app hfr.1 hS'] at this
  simpa [jre] using this

set_option maxHeartbeats 1000000 in
theorem J.anew {x : Int32} {idx : Nat} (n : Nat) (d : decode mi.2.1 pc = .ok (.anewarray idx, 3)) (hl : Cond.classLink mi.1.cls idx "DominoChains$State" ∈ jG) (hx : x = Int32.ofNat n) (hn : n < 1000000) (hfr : jFr M) (hb : 1 ≤ b.2.1 ∧ n ≤ b.2.2)
    (k : J Γ (b.1, b.2.1 - 1, b.2.2 - n) mi (pc + 3) L (.ref M.1.length :: S) (M.1 ++ [(105, n)], M.2) P X) : J Γ b mi pc L (.int x :: S) M P X := by
  intro p e R s m args below meth c A n0 ρ0 Q C F ρ κ ls H locs cells slots hW hL hS h1 h2
  have hx2 : x = nI n := hx
  have hS' := jS_tl hS
  have hneg : ¬ x < 0 := by rw [hx2]; exact nI_pos (by omega)
  have hclp : x.toNatClampNeg = n := by rw [hx2]; exact nI_clamp (by omega)
  refine va_newq (N' := n) C.1 C.2.1 C.2.2.2.2.2.1 (C.2.2.2.2.2.2.1 _ hl) C.2.2.2.2.2.2.2.2.2.2.2.2.2.2.1.2.2.1.1 C.2.2.2.2.2.2.2.2.2.1 hW.1 hW.2.1 hW.2.2.1 C.2.2.2.2.2.2.2.2.2.2.1 hneg hclp (by omega) (by omega) (by omega) d (fun q cA H1 hK hP hD hS1 => ?_)
  have hcell : jcell (fun k => if k = M.1.length then q else ρ k) (fun k => if k = M.1.length then cA else κ k) (M.1 ++ [(105, n)], M.2) M.1.length (105, n) = .inl (cA, n, .inr (.inr (.inr (.inr (fun _ => none))))) := by
    obtain ⟨f1, f2, f3, f4⟩ := hfr.2 M.1.length (Nat.le_refl _)
    unfold jcell
    simp [f1]
  have hW2 := jW_app hfr hW hcell hP hD hS1 (fun _ => ⟨hK.1, fun i z hz => hK.2 i z hz⟩)
  have := k p e R s m args below meth c A n0 ρ0 Q C F _ _ ls H1 locs (cells + 1) (slots + n) hW2 (by show jL _ (M.1 ++ [(105, n)]).length _ _ _; rw [List.length_append]; exact jL_app hfr.1 hL) (jS_c (v := .ref M.1.length) (Or.inl (by show _ < (M.1 ++ [(105, n)]).length; simp)) (fun v hv => jok_mono (by show _ ≤ (M.1 ++ [(105, n)]).length; simp) (hS' v hv))) (by show _ + _ + (_ - _) ≤ _; omega) (by show _ + _ + (_ - _) ≤ _; omega)
  rw [List.map_cons, jre_app hfr.1 hS'] at this
  simpa [jre] using this

theorem J.objInit {q idx : Nat} (d : decode mi.2.1 pc = .ok (.invokespecial idx, 3)) (hl : Cond.methodLink mi.1.cls idx Lib.objectInit ∈ jG) (hi : Cond.instanceMethod Lib.objectInit ∈ jG) (hc : Cond.code Lib.objectInit ⟨#[0xb1]⟩ 1 none ∈ jG) (hcat : (S.map fun v => v.category).sum ≤ 8) (k : J Γ b mi (pc + 3) L S M P X) : J Γ b mi pc L (.ref q :: S) M P X := by
  intro p e R s m args below meth c A n0 ρ0 Q C F ρ κ ls H locs cells slots hW hL hS h1 h2
  have hts := C.2.2.2.2.2.2.1
  have hr1 := C.2.2.2.2.2.2.2.1
  have hr2 := C.2.2.2.2.2.2.2.2.1
  have := lv_room (m := m) (pc := pc) (ls := ls) (rest := S.map (jre ρ)) (jcatS (ρ := ρ) hcat)
  exact W.objInit C.1 C.2.1 C.2.2.2.2.2.1 (hts _ hl) (hts _ hi) (hts _ hc) rfl (hL.2.1.trans C.2.2.1.symm) rfl d (by omega) (by have h9 : 2 * (F0 m pc ls ((Value.ref q :: S).map (jre ρ))).monitorRoom + ((S.map (jre ρ)).map fun v => v.category).sum ≤ 8 := this; omega) (k p e R s m args below meth c A n0 ρ0 Q C F ρ κ ls H locs cells slots hW hL (jS_tl hS) h1 h2)

theorem J.mmax {x y : Int32} {idx : Nat} (d : decode mi.2.1 pc = .ok (.invokestatic idx, 3)) (hl : Cond.methodLink mi.1.cls idx Lib.Math.max.name ∈ jG) (hs : Cond.static Lib.Math.max.name ∈ jG) (hi : Cond.initialized "java/lang/Math" ∈ jG) (hc : Cond.code Lib.Math.max.name Lib.Math.max.code 2 (some .int) ∈ jG) (hcat : (S.map fun v => v.category).sum ≤ 8) (k : J Γ b mi (pc + 3) L (.int (if x < y then y else x) :: S) M P X) : J Γ b mi pc L (.int y :: .int x :: S) M P X := by
  intro p e R s m args below meth c A n0 ρ0 Q C F ρ κ ls H locs cells slots hW hL hS h1 h2
  have hts := C.2.2.2.2.2.2.1
  have hr1 := C.2.2.2.2.2.2.2.1
  have hr2 := C.2.2.2.2.2.2.2.2.1
  have := jcatS (ρ := ρ) hcat
  exact va_mmax C.1 C.2.1 (C.2.2.1.trans hL.2.1.symm) C.2.2.2.2.2.1 (hts _ hl) (hts _ hs) (hts _ hi) (hts _ hc) (by omega) (by omega) (by omega) (by omega) d (k p e R s m args below meth c A n0 ρ0 Q C F ρ κ ls H locs cells slots hW hL (jS_c (v := .int _) trivial (jS_tl (jS_tl hS))) h1 h2)

theorem J.mmin {x y : Int32} {idx : Nat} (d : decode mi.2.1 pc = .ok (.invokestatic idx, 3)) (hl : Cond.methodLink mi.1.cls idx Lib.Math.min.name ∈ jG) (hs : Cond.static Lib.Math.min.name ∈ jG) (hi : Cond.initialized "java/lang/Math" ∈ jG) (hc : Cond.code Lib.Math.min.name Lib.Math.min.code 2 (some .int) ∈ jG) (hcat : (S.map fun v => v.category).sum ≤ 8) (k : J Γ b mi (pc + 3) L (.int (if y < x then y else x) :: S) M P X) : J Γ b mi pc L (.int y :: .int x :: S) M P X := by
  intro p e R s m args below meth c A n0 ρ0 Q C F ρ κ ls H locs cells slots hW hL hS h1 h2
  have hts := C.2.2.2.2.2.2.1
  have hr1 := C.2.2.2.2.2.2.2.1
  have hr2 := C.2.2.2.2.2.2.2.2.1
  have := jcatS (ρ := ρ) hcat
  exact va_mmin C.1 C.2.1 (C.2.2.1.trans hL.2.1.symm) C.2.2.2.2.2.1 (hts _ hl) (hts _ hs) (hts _ hi) (hts _ hc) (by omega) (by omega) (by omega) (by omega) d (k p e R s m args below meth c A n0 ρ0 Q C F ρ κ ls H locs cells slots hW hL (jS_c (v := .int _) trivial (jS_tl (jS_tl hS))) h1 h2)

def jrow {α : Type} (f : Nat → Nat → α) (q : Nat) (g : Nat → α) : Nat → Nat → α := fun a => if a = q then g else f a
theorem jw_setRow {ρ : Nat → Nat} {κ : Nat → ClassId} {q n : Nat} {g : Nat → Int32} (hs : M.1[q]? = some (100, n)) :
    (jw ρ κ M).set q (ρ q, .inl (κ q, n, .inl g)) = jw ρ κ (M.1, M.2.1, jrow M.2.2.1 q g, M.2.2.2) := by
  have e1 : g = jrow M.2.2.1 q g q := by unfold jrow; rw [if_pos rfl]
  have e4 := jcell_arr (ρ := ρ) (κ := κ) (M := (M.1, M.2.1, jrow M.2.2.1 q g, M.2.2.2)) (q := q) (t := 100) (n := n) (by decide)
  have e5 : (Sum.inl (κ q, n, .inl g) : va_E) = jcell ρ κ (M.1, M.2.1, jrow M.2.2.1 q g, M.2.2.2) q (100, n) := by rw [e4]; exact congrArg (fun z => (Sum.inl (κ q, n, Sum.inl z) : va_E)) e1
  rw [e5]
  refine jw_set hs rfl ?_
  intro a z' ha _
  have e3 : jrow M.2.2.1 q g a = M.2.2.1 a := by unfold jrow; rw [if_neg ha]
  unfold jcell jfv
  simp only [e3]
theorem J.copyi {q0 q1 n0 n1 idx : Nat} {x : Int32} (n : Nat) (d : decode mi.2.1 pc = .ok (.invokestatic idx, 3)) (hl : Cond.methodLink mi.1.cls idx arraycopyName ∈ jG) (hn : Cond.native arraycopyName ∈ jG) (hs : Cond.static arraycopyName ∈ jG) (hi : Cond.initialized "java/lang/System" ∈ jG)
    (g0 : M.1[q0]? = some (100, n0)) (g1 : M.1[q1]? = some (100, n1)) (hx : x = Int32.ofNat n) (hb : n < 1000000) (h4 : n ≤ n0) (h5 : n ≤ n1) (hcat : (S.map fun v => v.category).sum ≤ 8)
    (k : J Γ b mi (pc + 3) L S (M.1, M.2.1, jrow M.2.2.1 q1 (va_cpy (M.2.2.1 q0) (M.2.2.1 q1) 0 0 n), M.2.2.2) P X) : J Γ b mi pc L (.int x :: .int 0 :: .ref q1 :: .int 0 :: .ref q0 :: S) M P X := by
  intro p e R s m args below meth c A n9 ρ0 Q C F ρ κ ls H locs cells slots hW hL hS h1 h2
  have hts := C.2.2.2.2.2.2.1
  have hr1 := C.2.2.2.2.2.2.2.1
  have hr2 := C.2.2.2.2.2.2.2.2.1
  have hcs := jcatS (ρ := ρ) hcat
  have he0 := jw_at (ρ := ρ) (κ := κ) g0
  have he1 := jw_at (ρ := ρ) (κ := κ) g1
  rw [jcell_arr (by decide)] at he0 he1
  have hK0 := hW.2.2.2.1 q0 _ g0 (Nat.le_of_ble_eq_true rfl)
  have hK1 := hW.2.2.2.1 q1 _ g1 (Nat.le_of_ble_eq_true rfl)
  have hK : va_K Γ.2.1 vwCl [(κ q0, .int), (κ q1, .int)] s := by
    refine ⟨hK0.1, fun i z hz => ?_⟩
    match i, hz with
    | 0, hz => exact hK0.2 0 z hz
    | 1, hz => exact hK1.2 0 z hz
    | i + 2, hz => cases hz
  have hx2 : x = nI n := hx
  have hcl : x.toNatClampNeg = n := by rw [hx2]; exact nI_clamp (by omega)
  have hz : (0 : Int32).toNatClampNeg = 0 := rfl
  have hnw : nativeFrameWords "java/lang/System" "arraycopy" 5 + 11 ≤ 100 := by decide
  refine va_copyi C.1 C.2.1 (C.2.2.1.trans hL.2.1.symm) C.2.2.2.2.2.1 (hts _ hl) (hts _ hn) (hts _ hs) (hts _ hi) hK hW.1 hW.2.1 hW.2.2.1 q0 q1 0 1 he0 he1 rfl rfl rfl (by decide) (by decide) (by rw [hx2]; exact nI_pos (by omega)) (by rw [hz, hcl]; omega) (by rw [hz, hcl]; omega) (fun _ _ => rfl) (by omega) (by omega) d (fun H1 locs1 hP1 hD1 hS1 => ?_)
  rw [hz, hcl, jw_setRow g1] at hP1 hD1
  exact k p e R s m args below meth c A n9 ρ0 Q C F ρ κ ls H1 locs1 cells slots ⟨hP1, hD1, hS1, hW.2.2.2⟩ hL (jS_tl (jS_tl (jS_tl (jS_tl (jS_tl hS))))) h1 h2

theorem J.ldcS {idx : Nat} {t : String} (i : Nat) (d : decode mi.2.1 pc = .ok (.ldc idx, 2)) (ht : (mi.1.cls, idx, t) ∈ jStr) (hi : jStrNo t = some i) (k : J Γ b mi (pc + 2) L (.ref (1000000 + i) :: S) M P X) : J Γ b mi pc L S M P X := by
  intro p e R s m args below meth c A n0 ρ0 Q C F ρ κ ls H locs cells slots hW hL hS h1 h2
  obtain ⟨a, h3, h4⟩ := C.2.2.2.2.2.2.2.2.2.2.2.2.2.2.2 _ ht
  have h5 : ρ (1000000 + i) = a := (hW.2.2.2.2.2.2 _ (Or.inr (Nat.le_add_right _ _))).trans (h4 i hi)
  have := k p e R s m args below meth c A n0 ρ0 Q C F ρ κ ls H locs cells slots hW hL (jS_c (v := .ref (1000000 + i)) (Or.inr (Nat.le_add_right _ _)) hS) h1 h2
  refine va_ldcS C.1 C.2.1 C.2.2.2.2.2.1 h3 d ?_
  rw [← h5]
  exact this
theorem J.throwS {E text : String} {names : List String} {ik is ic : Nat} (ht : (mi.1.cls, is, text) ∈ jStr) (hf : Bundle.fit E = true ∧ (∀ n ∈ names, Bundle.fit n = true) ∧ names.length ≤ 2) (hk : Cond.classLink mi.1.cls ik E ∈ jG) (hini : Cond.initialized E ∈ jG) (hat : ∀ w ∈ vx_atS mi.1.cls ic E names, w ∈ lw_tbl ∧ (goodWord w = true ∨ (∃ C T, w = .castable C T) ∨ ∃ y, w = .declares y)) (hot : ∀ w ∈ Cond.classLink mi.1.cls ik E :: Cond.initialized E :: vx_atS mi.1.cls ic E names, vx_ot w = true)
    (hd : (decode mi.2.1 pc = .ok (.new ik, 3) ∧ decode mi.2.1 (pc + 3) = .ok (.dup, 1) ∧ decode mi.2.1 (pc + 4) = .ok (.ldc is, 2) ∧ decode mi.2.1 (pc + 6) = .ok (.invokespecial ic, 3) ∧ decode mi.2.1 (pc + 9) = .ok (.athrow, 1)) ∨
     (decode mi.2.1 pc = .ok (.new ik, 3) ∧ decode mi.2.1 (pc + 3) = .ok (.dup, 1) ∧ decode mi.2.1 (pc + 4) = .ok (.ldc_w is, 3) ∧ decode mi.2.1 (pc + 7) = .ok (.invokespecial ic, 3) ∧ decode mi.2.1 (pc + 10) = .ok (.athrow, 1)))
    (hb : 1 ≤ b.2.1 ∧ 6 ≤ b.2.2) (hcat : (S.map fun v => v.category).sum ≤ 8) (hX : X E M) : J Γ b mi pc L S M P X := by
  intro p e R s m args below meth c A n0 ρ0 Q C F ρ κ ls H locs cells slots hW hL hS h1 h2
  have hts := C.2.2.2.2.2.2.1
  obtain ⟨a, h3, -⟩ := C.2.2.2.2.2.2.2.2.2.2.2.2.2.2.2 _ ht
  exact F.2.2 M ρ κ ls H locs cells slots pc _ E text names ik is ic hX hW (by omega) (by omega) hL.2.1 (jcatS hcat) ⟨hf.1, hf.2.1, hf.2.2, hts _ hk, hts _ hini, ⟨a, h3⟩, fun w hw => by
    obtain ⟨g1, g2⟩ := hat w hw
    rcases g2 with g2 | ⟨C1, T1, rfl⟩ | ⟨y, rfl⟩
    · exact hts _ (jG_in g1 g2)
    · exact (C.2.2.2.2.2.2.2.2.2.2.2.2.2.2.1.2.1 _ _ g1).use rfl
    · exact (C.2.2.2.2.2.2.2.2.2.2.2.2.2.2.1.2.2.2.2 _ g1).use rfl, hot⟩ hd
/-- the law's script -/
theorem J.sld {Ls : Nat} {xs : Nat → Int32} {i : Int32} (hsc : Γ.2.2 = some (Ls, xs)) (d : decode mi.2.1 pc = .ok (.iaload, 1)) (hin : vp_in i Ls) (kk : J Γ b mi (pc + 1) L (.int (xs i.toNatClampNeg) :: S) M P X) : J Γ b mi pc L (.int i :: .ref 2000000 :: S) M P X := by
  intro p e R s m args below meth c A n0 ρ0 Q C F ρ κ ls H locs cells slots hW hL hS h1 h2
  obtain ⟨x1, x2, x3⟩ := C.2.2.2.2.2.2.2.2.2.2.2.2.1.2.2.1 Ls xs hsc
  have hρ : ρ 2000000 = ρ0 2000000 := hW.2.2.2.2.2.2 _ (Or.inr (Nat.le_of_ble_eq_true rfl))
  rw [← hρ] at x1 x2 x3
  exact va_sld C.1 C.2.1 x1 x2 x3 hW.2.2.1 hin d (kk p e R s m args below meth c A n0 ρ0 Q C F ρ κ ls H locs cells slots hW hL (jS_c (v := .int _) trivial (jS_tl (jS_tl hS))) h1 h2)
theorem J.slen {Ls : Nat} {xs : Nat → Int32} (hsc : Γ.2.2 = some (Ls, xs)) (d : decode mi.2.1 pc = .ok (.arraylength, 1)) (kk : J Γ b mi (pc + 1) L (.int (Int32.ofNat Ls) :: S) M P X) : J Γ b mi pc L (.ref 2000000 :: S) M P X := by
  intro p e R s m args below meth c A n0 ρ0 Q C F ρ κ ls H locs cells slots hW hL hS h1 h2
  obtain ⟨x1, x2, x3⟩ := C.2.2.2.2.2.2.2.2.2.2.2.2.1.2.2.1 Ls xs hsc
  have hρ : ρ 2000000 = ρ0 2000000 := hW.2.2.2.2.2.2 _ (Or.inr (Nat.le_of_ble_eq_true rfl))
  rw [← hρ] at x1 x2 x3
  exact va_slen C.1 C.2.1 x1 x2 x3 hW.2.2.1 d (kk p e R s m args below meth c A n0 ρ0 Q C F ρ κ ls H locs cells slots hW hL (jS_c (v := .int _) trivial (jS_tl hS)) h1 h2)
end JL2
