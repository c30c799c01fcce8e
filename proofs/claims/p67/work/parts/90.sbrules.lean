/-! rules for the text classes -/
theorem sup_sb : Cond.superclass "java/lang/StringBuilder" "java/lang/AbstractStringBuilder" ∈ jG := jG_mem 1149 (by decide +kernel) rfl
theorem sel_len : Cond.selects "java/lang/StringBuilder" yJ5_length_8abf5 yJ4_length_8abf5 ∈ jG := jG_mem 1305 (by decide +kernel) rfl
theorem sm_len : Cond.sameMethod "java/lang/AbstractStringBuilder" "java/lang/AbstractStringBuilder" "length" "()I" ∈ jG := jG_mem 1304 (by decide +kernel) rfl
theorem pv_ensureCapacityInternal_d00df : Cond.selects "java/lang/StringBuilder" yJ5_ensureCapacityInternal_d00df yJ5_ensureCapacityInternal_d00df ∈ jG := List.mem_append_left _ (List.mem_of_getElem? (i := 0) rfl)
theorem pv_newCapacity_0f7a4 : Cond.selects "java/lang/StringBuilder" yJ5_newCapacity_0f7a4 yJ5_newCapacity_0f7a4 ∈ jG := List.mem_append_left _ (List.mem_of_getElem? (i := 1) rfl)
theorem pv_putStringAt_47b60 : Cond.selects "java/lang/StringBuilder" yJ5_putStringAt_47b60 yJ5_putStringAt_47b60 ∈ jG := List.mem_append_left _ (List.mem_of_getElem? (i := 2) rfl)
theorem pv_inflateIfNeededFor_a7421 : Cond.selects "java/lang/StringBuilder" yJ5_inflateIfNeededFor_a7421 yJ5_inflateIfNeededFor_a7421 ∈ jG := List.mem_append_left _ (List.mem_of_getElem? (i := 3) rfl)
theorem cl_link : Cond.methodLink RJ7 310 ⟨"[B", "clone", "()Ljava/lang/Object;"⟩ ∈ jG := jG_mem 1182 (by decide +kernel) rfl
theorem cl_same : Cond.sameMethod "[B" "java/lang/Object" "clone" "()Ljava/lang/Object;" ∈ jG := jG_mem 1183 (by decide +kernel) rfl
theorem cl_nat : Cond.native ⟨"java/lang/Object", "clone", "()Ljava/lang/Object;"⟩ ∈ jG := jG_mem 1184 (by decide +kernel) rfl
theorem cl_inst : Cond.instanceMethod ⟨"java/lang/Object", "clone", "()Ljava/lang/Object;"⟩ ∈ jG := jG_mem 1185 (by decide +kernel) rfl
theorem cl_sel : Cond.selects "[B" ⟨"[B", "clone", "()Ljava/lang/Object;"⟩ ⟨"java/lang/Object", "clone", "()Ljava/lang/Object;"⟩ ∈ jG := jG_mem 1186 (by decide +kernel) rfl
theorem cl_cast : Cond.castable "[B" "java/lang/Cloneable" ∈ lw_tbl := List.mem_of_getElem? (i := 1187) (by decide +kernel)
section R90
variable {Γ : jE} {b : Nat × Nat × Nat} {mi : jMI} {pc : Nat} {L : List (Option Value)} {S : List Value} {M : jM} {P : Option Value → jM → Prop} {X : String → jM → Prop}
theorem J.putNR (hcl : jCls) {q idx ci k n r : Nat} {ty : FieldType} (d : decode mi.2.1 pc = .ok (.putfield idx, 3)) (f : jFld mi.1.cls idx ci k ty false) (hs : M.1[q]? = some (ci, n)) (hn : k < n) (hr : jrf ci k = true) (hx : ∀ a : Nat, narrow ty (.ref a) = .ref a ∧ fits ty (.ref a) = true) (hrn : r < M.1.length) (kk : J Γ b mi (pc + 3) L S (M.1, jup2 M.2.1 q k (some r), M.2.2) P X) : J Γ b mi pc L (.ref r :: .ref q :: S) M P X := by
  intro p e R s m args below meth c A n0 ρ0 Q C F ρ κ ls H locs cells slots hW hL hS h1 h2
  obtain ⟨Cn, T, N, hc, hk, hlk, hrf, hty, hfi⟩ := f
  obtain ⟨hci, hin, ⟨ty0, hty0⟩, hnm⟩ := hcl ci Cn T N hc
  have he := jw_at (ρ := ρ) (κ := κ) hs
  rw [jcell_obj hci] at he
  refine va_put (v := .ref (ρ r)) C.1 C.2.1 C.2.2.2.2.2.2.1 hin ty0 hty0 hnm C.2.2.2.2.2.1 C.2.2.2.2.2.2.2.2.2.1 hW.1 hW.2.1 hW.2.2.1 q he hc k hk (C.2.2.2.2.2.2.1 _ hlk) (fun x hx => hx) hfi hty (hx _).1 (hx _).2 (by simpa using hn) d (fun H1 locs1 hP1 hD1 hS1 => ?_)
  rw [jw_putR hci hs hr] at hP1 hD1
  exact kk p e R s m args below meth c A n0 ρ0 Q C F ρ κ ls H1 locs1 cells slots ⟨hP1, hD1, hS1, hW.2.2.2.1, jtau_up hW.2.2.2.2.1 hrn, hW.2.2.2.2.2⟩ hL (jS_tl (jS_tl hS)) h1 h2
theorem J.putFI (hcl : jCls) {q idx ci k n : Nat} {ty : FieldType} {x : Int32} (d : decode mi.2.1 pc = .ok (.putfield idx, 3)) (f : jFld mi.1.cls idx ci k ty true) (hs : M.1[q]? = some (ci, n)) (hn : k < n) (hr : jrf ci k = false) (hin2 : mi.1.name = "<init>") (hown : (vwCl.getD ci (RX0, TX0, 3)).1 = mi.1.cls) (hx : narrow ty (.int x) = .int x) (hx2 : fits ty (.int x) = true) (kk : J Γ b mi (pc + 3) L S (M.1, M.2.1, jup2 M.2.2.1 q k x, M.2.2.2) P X) : J Γ b mi pc L (.int x :: .ref q :: S) M P X := by
  intro p e R s m args below meth c A n0 ρ0 Q C F ρ κ ls H locs cells slots hW hL hS h1 h2
  obtain ⟨Cn, T, N, hc, hk, hlk, hrf, hty, hfi⟩ := f
  obtain ⟨hci, hin, ⟨ty0, hty0⟩, hnm⟩ := hcl ci Cn T N hc
  have he := jw_at (ρ := ρ) (κ := κ) hs
  rw [jcell_obj hci] at he
  refine va_putF (v := .int x) C.1 C.2.1 C.2.2.2.2.2.2.1 hin ty0 hty0 hnm C.2.2.2.2.2.1 C.2.2.2.2.2.2.2.2.2.1 hW.1 hW.2.1 hW.2.2.1 q he hc k hk (C.2.2.2.2.2.2.1 _ hlk) (fun x hx => hx) hfi (C.2.2.2.2.2.2.2.2.2.2.2.2.2.1 hin2) (by rw [hrf rfl, ← hown, List.getD_eq_getElem?_getD, hc]; rfl) hty hx hx2 (by simpa using hn) d (fun H1 locs1 hP1 hD1 hS1 => ?_)
  rw [jw_putI hci hs hr] at hP1 hD1
  exact kk p e R s m args below meth c A n0 ρ0 Q C F ρ κ ls H1 locs1 cells slots ⟨hP1, hD1, hS1, hW.2.2.2⟩ hL (jS_tl (jS_tl hS)) h1 h2
theorem jw_setRowB {ρ : Nat → Nat} {κ : Nat → ClassId} {q n : Nat} {g : Nat → Int32} (hs : M.1[q]? = some (101, n)) :
    (jw ρ κ M).set q (ρ q, .inl (κ q, n, .inl g)) = jw ρ κ (M.1, M.2.1, jrow M.2.2.1 q g, M.2.2.2) := by
  have e1 : g = jrow M.2.2.1 q g q := by unfold jrow; rw [if_pos rfl]
  have e4 := jcell_arr (ρ := ρ) (κ := κ) (M := (M.1, M.2.1, jrow M.2.2.1 q g, M.2.2.2)) (q := q) (t := 101) (n := n) (by decide)
  have e5 : (Sum.inl (κ q, n, .inl g) : va_E) = jcell ρ κ (M.1, M.2.1, jrow M.2.2.1 q g, M.2.2.2) q (101, n) := by rw [e4]; exact congrArg (fun z => (Sum.inl (κ q, n, Sum.inl z) : va_E)) e1
  rw [e5]
  refine jw_set hs rfl ?_
  intro a z' ha _
  have e3 : jrow M.2.2.1 q g a = M.2.2.1 a := by unfold jrow; rw [if_neg ha]
  unfold jcell jfv
  simp only [e3]
set_option maxHeartbeats 1000000 in
theorem J.copyb {q0 q1 n0 n1 idx : Nat} {x : Int32} (n : Nat) (d : decode mi.2.1 pc = .ok (.invokestatic idx, 3)) (hl : Cond.methodLink mi.1.cls idx arraycopyName ∈ jG) (hn : Cond.native arraycopyName ∈ jG) (hs : Cond.static arraycopyName ∈ jG) (hi : Cond.initialized "java/lang/System" ∈ jG)
    (g0 : M.1[q0]? = some (101, n0)) (g1 : M.1[q1]? = some (101, n1)) (hx : x = Int32.ofNat n) (hb : n < 1000000) (h4 : n ≤ n0) (h5 : n ≤ n1) (hf : ∀ i, i < n → fits .byte (.int (M.2.2.1 q0 i)) = true) (hcat : (S.map fun v => v.category).sum ≤ 8)
    (k : J Γ b mi (pc + 3) L S (M.1, M.2.1, jrow M.2.2.1 q1 (va_cpy (M.2.2.1 q0) (M.2.2.1 q1) 0 0 n), M.2.2.2) P X) : J Γ b mi pc L (.int x :: .int 0 :: .ref q1 :: .int 0 :: .ref q0 :: S) M P X := by
  intro p e R s m args below meth c A n9 ρ0 Q C F ρ κ ls H locs cells slots hW hL hS h1 h2
  have hts := C.2.2.2.2.2.2.1
  have hr1 := C.2.2.2.2.2.2.2.1
  have hr2 := C.2.2.2.2.2.2.2.2.1
  have hcs := jcatS (ρ := ρ) hcat
  have he0 := jw_at (ρ := ρ) (κ := κ) g0
  have he1 := jw_at (ρ := ρ) (κ := κ) g1
  rw [jcell_arr (by decide)] at he0 he1
  have hK0 := hW.2.2.2.1 q0 _ g0 (Nat.le_of_ble_eq_true rfl)
  have hK1 := hW.2.2.2.1 q1 _ g1 (Nat.le_of_ble_eq_true rfl)
  have hK : va_K Γ.2.1 vwCl [(κ q0, .byte), (κ q1, .byte)] s := by
    refine ⟨hK0.1, fun i z hz => ?_⟩
    match i, hz with
    | 0, hz => exact hK0.2 0 z hz
    | 1, hz => exact hK1.2 0 z hz
    | i + 2, hz => cases hz
  have hx2 : x = nI n := hx
  have hcl : x.toNatClampNeg = n := by rw [hx2]; exact nI_clamp (by omega)
  have hz : (0 : Int32).toNatClampNeg = 0 := rfl
  have hnw : nativeFrameWords "java/lang/System" "arraycopy" 5 + 11 ≤ 100 := by decide
  refine va_copyi C.1 C.2.1 (C.2.2.1.trans hL.2.1.symm) C.2.2.2.2.2.1 (hts _ hl) (hts _ hn) (hts _ hs) (hts _ hi) hK hW.1 hW.2.1 hW.2.2.1 q0 q1 0 1 he0 he1 rfl rfl rfl (by decide) (by decide) (by rw [hx2]; exact nI_pos (by omega)) (by rw [hz, hcl]; omega) (by rw [hz, hcl]; omega) (fun i hi => by rw [hz, Nat.zero_add]; exact hf i (by rw [hcl] at hi; exact hi)) (by omega) (by omega) d (fun H1 locs1 hP1 hD1 hS1 => ?_)
  rw [hz, hcl, jw_setRowB g1] at hP1 hD1
  exact k p e R s m args below meth c A n9 ρ0 Q C F ρ κ ls H1 locs1 cells slots ⟨hP1, hD1, hS1, hW.2.2.2⟩ hL (jS_tl (jS_tl (jS_tl (jS_tl (jS_tl hS))))) h1 h2
set_option maxHeartbeats 1000000 in
theorem J.cloneB {q n : Nat} (hm : mi.1.cls = RJ7) (d : decode mi.2.1 pc = .ok (.invokevirtual 310, 3)) (dc : decode mi.2.1 (pc + 3) = .ok (.checkcast 311, 3)) (hs : M.1[q]? = some (101, n)) (hn : n < 1000000) (hf : ∀ i, i < n → fits .byte (.int (M.2.2.1 q i)) = true) (hfr : jFr M) (hb : 1 ≤ b.2.1 ∧ n ≤ b.2.2) (hcat : (S.map fun v => v.category).sum ≤ 8)
    (k : J Γ (b.1, b.2.1 - 1, b.2.2 - n) mi (pc + 6) L (.ref M.1.length :: S) (M.1 ++ [(101, n)], M.2.1, jrow M.2.2.1 M.1.length (M.2.2.1 q), M.2.2.2) P X) : J Γ b mi pc L (.ref q :: S) M P X := by
  intro p e R s m args below meth c A n0 ρ0 Q C F ρ κ ls H locs cells slots hW hL hS h1 h2
  have hts := C.2.2.2.2.2.2.1
  have hr1 := C.2.2.2.2.2.2.2.1
  have hr2 := C.2.2.2.2.2.2.2.2.1
  have hcs := jcatS (ρ := ρ) hcat
  have hS' := jS_tl hS
  have he := jw_at (ρ := ρ) (κ := κ) hs
  rw [jcell_arr (by decide)] at he
  have hK := hW.2.2.2.1 q _ hs (Nat.le_of_ble_eq_true rfl)
  have hnm : s.vm.findClass "[B" = some (κ q) := va_nm_byte (hK.2 0 _ rfl).2
  refine va_clone C.1 C.2.1 (C.2.2.1.trans hL.2.1.symm) (own := mi.1.cls) C.2.2.2.2.2.1 (by rw [hm]; exact hts _ cl_link) (hts _ cl_same) (hts _ cl_nat) (hts _ cl_inst) (hts _ cl_sel) (C.2.2.2.2.2.2.2.2.2.2.2.2.2.2.1.2.1 _ _ cl_cast) hK hW.1 hW.2.1 hW.2.2.1 C.2.2.2.2.2.2.2.2.2.2.1 q 0 he rfl hnm ?_ (by omega) (by omega) (by omega) (by show slots + n ≤ _; omega) d (fun q2 H1 hK2 hP hD hS1 => ?_)
  · intro i v hv
    have hv2 : (arrV (κ q) n (fun j => Value.int (M.2.2.1 q j))).slots[i]? = some v := hv
    have hlt : i < n := by
      have := (Array.getElem?_eq_some_iff.mp hv2).1
      rwa [arrV_size] at this
    rw [arrV_read _ _ hlt] at hv2
    cases hv2
    exact hf i hlt
  · have hcell : jcell (fun k => if k = M.1.length then q2 else ρ k) (fun k => if k = M.1.length then κ q else κ k) (M.1 ++ [(101, n)], M.2.1, jrow M.2.2.1 M.1.length (M.2.2.1 q), M.2.2.2) M.1.length (101, n) = .inl (κ q, n, .inl (M.2.2.1 q)) := by
      unfold jcell jrow
      simp
    refine va_castA C.1 C.2.1 C.2.2.2.2.2.1 (by rw [hm]; exact hts _ kJ7_311) hP M.1.length (cA := κ q) (x := (n, .inl (M.2.2.1 q))) ?_ hnm dc ?_
    · rw [List.getElem?_append_right (by unfold jw; rw [List.length_mapIdx]; exact Nat.le_refl _)]
      unfold jw
      rw [List.length_mapIdx, Nat.sub_self]
      rfl
    have hW2 : jW Γ s A n0 ρ0 (M.1 ++ [(101, n)], M.2.1, jrow M.2.2.1 M.1.length (M.2.2.1 q), M.2.2.2) (fun k => if k = M.1.length then q2 else ρ k) (fun k => if k = M.1.length then κ q else κ k) H1 locs := by
      have ej : jw (fun k => if k = M.1.length then q2 else ρ k) (fun k => if k = M.1.length then κ q else κ k) (M.1 ++ [(101, n)], M.2.1, jrow M.2.2.1 M.1.length (M.2.2.1 q), M.2.2.2) = jw ρ κ M ++ [(q2, .inl (κ q, n, .inl (M.2.2.1 q)))] := by
        apply List.ext_getElem?
        intro i
        unfold jw
        rw [List.getElem?_mapIdx]
        rcases Nat.lt_trichotomy i M.1.length with h | h | h
        · rw [List.getElem?_append_left h, List.getElem?_append_left (by rw [List.length_mapIdx]; exact h), List.getElem?_mapIdx]
          cases hz : M.1[i]? with
          | none => rfl
          | some z =>
            simp only [Option.map_some, if_neg (Nat.ne_of_lt h)]
            congr 2
            have e1 : jrow M.2.2.1 M.1.length (M.2.2.1 q) i = M.2.2.1 i := by unfold jrow; rw [if_neg (Nat.ne_of_lt h)]
            have e2 : ∀ j, (M.2.1 i j).map (fun k => if k = M.1.length then q2 else ρ k) = (M.2.1 i j).map ρ := by
              intro j
              cases hr : M.2.1 i j with
              | none => rfl
              | some r => show some (if r = M.1.length then q2 else ρ r) = some (ρ r); rw [if_neg (Nat.ne_of_lt (hW.2.2.2.2.1 i j r hr))]
            unfold jcell jfv
            simp only [e1, e2, if_neg (Nat.ne_of_lt h)]
        · subst h
          rw [List.getElem?_append_right (Nat.le_refl _), List.getElem?_append_right (by rw [List.length_mapIdx]; exact Nat.le_refl _), List.length_mapIdx, Nat.sub_self]
          simp only [List.getElem?_cons_zero, Option.map_some, if_pos]
          rw [hcell]
        · rw [List.getElem?_eq_none (by rw [List.length_append]; simp; omega), List.getElem?_eq_none (by rw [List.length_append, List.length_mapIdx]; simp; omega)]
          rfl
      refine ⟨by rw [ej]; exact hP, by rw [ej]; exact hD, hS1, fun a z ha hz => ?_, fun a i r hr => ?_, ?_, fun k hk => ?_⟩
      · rcases Nat.lt_trichotomy a M.1.length with h | h | h
        · have h9 : M.1[a]? = some z := by rw [← ha]; exact (List.getElem?_append_left h).symm
          simp only [if_neg (Nat.ne_of_lt h)]
          exact hW.2.2.2.1 a z h9 hz
        · subst h
          have h9 : some (101, n) = some z := by rw [← ha]; show _ = (M.1 ++ [(101, n)])[M.1.length]?; rw [List.getElem?_append_right (Nat.le_refl _), Nat.sub_self]; rfl
          cases h9
          simp only [if_pos]
          exact hK
        · have h9 : (M.1 ++ [(101, n)])[a]? = some z := ha
          rw [List.getElem?_eq_none (by rw [List.length_append]; simp; omega)] at h9
          cases h9
      · show r < (M.1 ++ [(101, n)]).length
        rw [List.length_append]
        exact Nat.lt_of_lt_of_le (hW.2.2.2.2.1 a i r hr) (Nat.le_add_right _ _)
      · show n0 ≤ (M.1 ++ [(101, n)]).length
        rw [List.length_append]
        exact Nat.le_trans hW.2.2.2.2.2.1 (Nat.le_add_right _ _)
      · have hne : k ≠ M.1.length := by
          rcases hk with hk | hk
          · have := hW.2.2.2.2.2.1; omega
          · have := hfr.1; omega
        simp only [if_neg hne]
        exact hW.2.2.2.2.2.2 k hk
    have := k p e R s m args below meth c A n0 ρ0 Q C F _ _ ls H1 locs (cells + 1) (slots + n) hW2 (by show jL _ (M.1 ++ [(101, n)]).length _ _ _; rw [List.length_append]; exact jL_app hfr.1 hL) (jS_c (v := .ref M.1.length) (Or.inl (by show _ < (M.1 ++ [(101, n)]).length; simp)) (fun v hv => jok_mono (by show _ ≤ (M.1 ++ [(101, n)]).length; simp) (hS' v hv))) (by show _ + _ + (_ - _) ≤ _; omega) (by show _ + _ + (_ - _) ≤ _; omega)
    rw [List.map_cons, jre_app hfr.1 hS'] at this
    simpa [jre] using this
end R90
section Y90
variable {Γ : jE} {b : Nat × Nat × Nat} {mi : jMI} {pc : Nat} {L : List (Option Value)} {S : List Value} {P : Option Value → jM → Prop} {X : String → jM → Prop}
variable {sh : List (Nat × Nat)} {t : Nat → Nat → Option Nat} {s : Nat → Int → Int}
theorem fits_byte {x : Int} (h : -128 ≤ x ∧ x < 128) : fits .byte (.int (iI x)) = true := by
  show (decide ((-128 : Int32) ≤ iI x) && decide (iI x ≤ 127)) = true
  rw [Bool.and_eq_true]
  exact ⟨decide_eq_true ((iI_le (x := -128) (y := x) (by omega) (by omega)).mpr h.1), decide_eq_true ((iI_le (x := x) (y := 127) (by omega) (by omega)).mpr (by omega))⟩
theorem Y.gI {q idx ci n : Nat} {ty : FieldType} {fin : Bool} (k : Nat) (j : Int) (hj : (k : Int) = j) (d : decode mi.2.1 pc = .ok (.getfield idx, 3)) (f : jFld mi.1.cls idx ci k ty fin) (hs : sh[q]? = some (ci, n)) (hn : k < n) (hr : jrf ci k = false) (kk : J Γ b mi (pc + 3) L (.int (iI (s q j)) :: S) (jmx sh t s) P X) : J Γ b mi pc L (.ref q :: S) (jmx sh t s) P X := by
  subst hj; exact J.getI jcls d f hs hn hr kk
theorem Y.gR {q idx ci n r : Nat} {ty : FieldType} {fin : Bool} (k : Nat) (d : decode mi.2.1 pc = .ok (.getfield idx, 3)) (f : jFld mi.1.cls idx ci k ty fin) (hs : sh[q]? = some (ci, n)) (hn : k < n) (hr : jrf ci k = true) (hv : t q k = some r) (kk : J Γ b mi (pc + 3) L (.ref r :: S) (jmx sh t s) P X) : J Γ b mi pc L (.ref q :: S) (jmx sh t s) P X := J.getR jcls d f hs hn hr hv kk
theorem Y.pI {q idx ci n : Nat} {x : Int} (k : Nat) (j : Int) (hj : (k : Int) = j) (d : decode mi.2.1 pc = .ok (.putfield idx, 3)) (f : jFld mi.1.cls idx ci k .int false) (hs : sh[q]? = some (ci, n)) (hn : k < n) (hr : jrf ci k = false) (kk : J Γ b mi (pc + 3) L S (jmx sh t (up s q j x)) P X) : J Γ b mi pc L (.int (iI x) :: .ref q :: S) (jmx sh t s) P X := by
  subst hj; exact J.putI jcls d f hs hn hr rfl rfl (by rw [jmx_put]; exact kk)
theorem Y.pB {q idx ci n : Nat} {x : Int} (k : Nat) (j : Int) (hj : (k : Int) = j) (hx : -128 ≤ x ∧ x < 128) (hnx : narrow .byte (.int (iI x)) = .int (iI x)) (d : decode mi.2.1 pc = .ok (.putfield idx, 3)) (f : jFld mi.1.cls idx ci k .byte false) (hs : sh[q]? = some (ci, n)) (hn : k < n) (hr : jrf ci k = false) (kk : J Γ b mi (pc + 3) L S (jmx sh t (up s q j x)) P X) : J Γ b mi pc L (.int (iI x) :: .ref q :: S) (jmx sh t s) P X := by
  subst hj; exact J.putI jcls d f hs hn hr hnx (fits_byte hx) (by rw [jmx_put]; exact kk)
theorem Y.pFB {q idx ci n : Nat} {x : Int} (k : Nat) (j : Int) (hj : (k : Int) = j) (hx : -128 ≤ x ∧ x < 128) (hnx : narrow .byte (.int (iI x)) = .int (iI x)) (d : decode mi.2.1 pc = .ok (.putfield idx, 3)) (f : jFld mi.1.cls idx ci k .byte true) (hs : sh[q]? = some (ci, n)) (hn : k < n) (hr : jrf ci k = false) (hin2 : mi.1.name = "<init>") (hown : (vwCl.getD ci (RX0, TX0, 3)).1 = mi.1.cls) (kk : J Γ b mi (pc + 3) L S (jmx sh t (up s q j x)) P X) : J Γ b mi pc L (.int (iI x) :: .ref q :: S) (jmx sh t s) P X := by
  subst hj; exact J.putFI jcls d f hs hn hr hin2 hown hnx (fits_byte hx) (by rw [jmx_put]; exact kk)
theorem Y.pR {q idx ci n r : Nat} (k : Nat) (d : decode mi.2.1 pc = .ok (.putfield idx, 3)) (f : jFld mi.1.cls idx ci k (.array .byte) false) (hs : sh[q]? = some (ci, n)) (hn : k < n) (hr : jrf ci k = true) (hrn : r < sh.length) (kk : J Γ b mi (pc + 3) L S (jmx sh (jup2 t q k (some r)) s) P X) : J Γ b mi pc L (.ref r :: .ref q :: S) (jmx sh t s) P X := J.putNR jcls d f hs hn hr (fun a => ⟨rfl, rfl⟩) hrn kk
theorem Y.pFR {q idx ci n r : Nat} (k : Nat) (d : decode mi.2.1 pc = .ok (.putfield idx, 3)) (f : jFld mi.1.cls idx ci k (.array .byte) true) (hs : sh[q]? = some (ci, n)) (hn : k < n) (hr : jrf ci k = true) (hin2 : mi.1.name = "<init>") (hown : (vwCl.getD ci (RX0, TX0, 3)).1 = mi.1.cls) (hrn : r < sh.length) (kk : J Γ b mi (pc + 3) L S (jmx sh (jup2 t q k (some r)) s) P X) : J Γ b mi pc L (.ref r :: .ref q :: S) (jmx sh t s) P X := J.putFR jcls d f hs hn hr hin2 hown (fun a => ⟨rfl, rfl⟩) hrn kk
theorem jmx_cp {q0 q1 n : Nat} : ((jmx sh t s).1, (jmx sh t s).2.1, jrow (jmx sh t s).2.2.1 q1 (va_cpy ((jmx sh t s).2.2.1 q0) ((jmx sh t s).2.2.1 q1) 0 0 n), (jmx sh t s).2.2.2) = jmx sh t (cpA s q0 q1 n) := by
  unfold jmx
  congr 3
  funext a i
  unfold jrow cpA va_cpy
  by_cases h : a = q1
  · subst h
    by_cases g : i < n
    · simp [g]
    · simp [g]
  · rw [if_neg h, if_neg (fun e => h e.1)]
theorem Y.copyb {q0 q1 n0 n1 idx : Nat} {x : Int} (n : Nat) (d : decode mi.2.1 pc = .ok (.invokestatic idx, 3)) (hl : Cond.methodLink mi.1.cls idx arraycopyName ∈ jG) (g0 : sh[q0]? = some (101, n0)) (g1 : sh[q1]? = some (101, n1)) (hx : x = (n : Int)) (hb : n < 1000000) (h4 : n ≤ n0) (h5 : n ≤ n1) (hf : ∀ i : Nat, i < n → -128 ≤ s q0 i ∧ s q0 i < 128) (hcat : (S.map fun v => v.category).sum ≤ 8)
    (k : J Γ b mi (pc + 3) L S (jmx sh t (cpA s q0 q1 n)) P X) : J Γ b mi pc L (.int (iI x) :: .int (iI 0) :: .ref q1 :: .int (iI 0) :: .ref q0 :: S) (jmx sh t s) P X := by
  subst hx
  refine J.copyb n d hl ac_n ac_s ac_i g0 g1 rfl hb h4 h5 (fun i hi => fits_byte (hf i hi)) hcat ?_
  rw [jmx_cp]
  exact k
/-- a copy of a row -/
def rwA (s : Nat → Int → Int) (q r : Nat) : Nat → Int → Int := fun a i => if a = r ∧ 0 ≤ i then s q i else s a i
theorem Y.cloneB {q n : Nat} (hm : mi.1.cls = RJ7) (d : decode mi.2.1 pc = .ok (.invokevirtual 310, 3)) (dc : decode mi.2.1 (pc + 3) = .ok (.checkcast 311, 3)) (hs : sh[q]? = some (101, n)) (hn : n < 1000000) (hf : ∀ i : Nat, i < n → -128 ≤ s q i ∧ s q i < 128) (h : XB sh t s) (hb : 1 ≤ b.2.1 ∧ n ≤ b.2.2) (hcat : (S.map fun v => v.category).sum ≤ 8)
    (k : J Γ (b.1, b.2.1 - 1, b.2.2 - n) mi (pc + 6) L (.ref sh.length :: S) (jmx (sh ++ [(101, n)]) t (rwA s q sh.length)) P X) : J Γ b mi pc L (.ref q :: S) (jmx sh t s) P X := by
  refine J.cloneB hm d dc hs hn (fun i hi => fits_byte (hf i hi)) h.fr hb hcat ?_
  have e : ((jmx sh t s).1 ++ [(101, n)], (jmx sh t s).2.1, jrow (jmx sh t s).2.2.1 (jmx sh t s).1.length ((jmx sh t s).2.2.1 q), (jmx sh t s).2.2.2) = jmx (sh ++ [(101, n)]) t (rwA s q sh.length) := by
    unfold jmx
    congr 3
    funext a i
    unfold jrow rwA
    show (if a = sh.length then fun i : Nat => iI (s q i) else fun i : Nat => iI (s a i)) i = _
    by_cases h9 : a = sh.length
    · rw [if_pos h9, if_pos ⟨h9, by omega⟩]
    · rw [if_neg h9, if_neg (fun e => h9 e.1)]
  rw [e]
  exact k
end Y90
