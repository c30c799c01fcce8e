/-! rules over the larger memories -/
/-- what is not yet made is blank -/
def XB (sh : List (Nat × Nat)) (t : Nat → Nat → Option Nat) (s : Nat → Int → Int) : Prop := sh.length < 900000 ∧ ∀ q, sh.length ≤ q → (∀ i, t q i = none) ∧ ∀ i : Int, s q i = 0
theorem up_up2 {s : Nat → Int → Int} {q : Nat} {i x y : Int} : up (up s q i x) q i y = up s q i y := by
  funext a j
  unfold up
  by_cases h : a = q ∧ j = i
  · rw [if_pos h, if_pos h]
  · rw [if_neg h, if_neg h, if_neg h]
theorem up_own {s : Nat → Int → Int} {q : Nat} {i : Int} : up s q i (s q i) = s := by
  funext a j
  unfold up
  by_cases h : a = q ∧ j = i
  · rw [if_pos h, h.1, h.2]
  · rw [if_neg h]
theorem up_own2 {s : Nat → Int → Int} {q : Nat} {i x : Int} (h : x = s q i) : up s q i x = s := by rw [h]; exact up_own
theorem up_comm {s : Nat → Int → Int} {q : Nat} {i j x y : Int} (h : i ≠ j) : up (up s q i x) q j y = up (up s q j y) q i x := by
  funext a k
  unfold up
  by_cases h1 : a = q ∧ k = j
  · rw [if_pos h1, if_neg (fun e => h (e.2.symm.trans h1.2)), if_pos h1]
  · rw [if_neg h1, if_neg h1]
section YR
variable {Γ : jE} {b : Nat × Nat × Nat} {mi : jMI} {pc : Nat} {L : List (Option Value)} {S : List Value} {P : Option Value → jM → Prop} {X : String → jM → Prop}
variable {sh : List (Nat × Nat)} {t : Nat → Nat → Option Nat} {s : Nat → Int → Int}
theorem XB.fr (h : XB sh t s) : jFr (jmx sh t s) := ⟨Nat.lt_of_lt_of_le h.1 (by decide), fun q hq => ⟨(h.2 q hq).1, fun i => by show iI (s q i) = 0; rw [(h.2 q hq).2]; rfl, fun _ => rfl, fun _ => rfl⟩⟩
theorem XB.up {q : Nat} {i x : Int} (h : XB sh t s) (hq : q < sh.length) : XB sh t (up s q i x) := ⟨h.1, fun a ha => ⟨(h.2 a ha).1, fun j => by rw [up_ne (Or.inl (by omega))]; exact (h.2 a ha).2 j⟩⟩
theorem XB.app {z : Nat × Nat} (h : XB sh t s) (hn : sh.length + 1 < 900000) : XB (sh ++ [z]) t s := ⟨by rw [List.length_append]; exact hn, fun a ha => h.2 a (by rw [List.length_append] at ha; have : [z].length = 1 := rfl; omega)⟩
theorem XB.put {q i r : Nat} (h : XB sh t s) (hq : q < sh.length) : XB sh (jup2 t q i (some r)) s := ⟨h.1, fun a ha => ⟨fun j => by unfold jup2; rw [if_neg (by omega)]; exact (h.2 a ha).1 j, (h.2 a ha).2⟩⟩
theorem XB.mix {s' : Nat → Int → Int} (h : XB sh t s) (hp : PF sh t) : XB sh t (mix s' s) := ⟨h.1, fun a ha => ⟨(h.2 a ha).1, fun j => by rw [mix_hi (by have := hp.1; omega)]; exact (h.2 a ha).2 j⟩⟩
theorem PF.app {z : Nat × Nat} (h : PF sh t) : PF (sh ++ [z]) t := ⟨by rw [List.length_append]; have := h.1; omega, fun q hq => ⟨by rw [List.getElem?_append_left (by have := h.1; omega)]; exact (h.2 q hq).1, (h.2 q hq).2⟩⟩
theorem PF.put {q i r : Nat} (h : PF sh t) (hq : 137 ≤ q) : PF sh (jup2 t q i (some r)) := ⟨h.1, fun a ha => ⟨(h.2 a ha).1, by funext j; unfold jup2; rw [if_neg (by omega)]; exact congrFun (h.2 a ha).2 j⟩⟩
theorem jmx_put {q k : Nat} {z : Int} : ((jmx sh t s).1, (jmx sh t s).2.1, jup2 (jmx sh t s).2.2.1 q k (iI z), (jmx sh t s).2.2.2) = jmx sh t (up s q k z) := by
  unfold jmx
  congr 3
  funext a i
  unfold jup2 up
  by_cases h : a = q ∧ i = k
  · rw [if_pos h, if_pos (by omega)]
  · rw [if_neg h, if_neg (by omega)]
theorem Y.iald {q n : Nat} {i : Int} (d : decode mi.2.1 pc = .ok (.iaload, 1)) (hs : sh[q]? = some (100, n)) (hn : n < 2147483648) (hi : 0 ≤ i ∧ i < n) (kk : J Γ b mi (pc + 1) L (.int (iI (s q i)) :: S) (jmx sh t s) P X) : J Γ b mi pc L (.int (iI i) :: .ref q :: S) (jmx sh t s) P X :=
  J.iald d hs (iI_in hi hn) (by rw [iI_clamp (by omega)]; show J Γ b mi (pc + 1) L (.int (iI (s q (i.toNat : Int))) :: S) (jmx sh t s) P X; rw [Int.toNat_of_nonneg hi.1]; exact kk)
theorem Y.iast {q n : Nat} {i x : Int} (d : decode mi.2.1 pc = .ok (.iastore, 1)) (hs : sh[q]? = some (100, n)) (hn : n < 2147483648) (hi : 0 ≤ i ∧ i < n) (kk : J Γ b mi (pc + 1) L S (jmx sh t (up s q i x)) P X) : J Γ b mi pc L (.int (iI x) :: .int (iI i) :: .ref q :: S) (jmx sh t s) P X :=
  J.iast d hs (iI_in hi hn) (by rw [iI_clamp (by omega), jmx_put, Int.toNat_of_nonneg hi.1]; exact kk)
theorem Y.zald {q n : Nat} {i : Int} (d : decode mi.2.1 pc = .ok (.baload, 1)) (hs : sh[q]? = some (107, n)) (hn : n < 2147483648) (hi : 0 ≤ i ∧ i < n) (kk : J Γ b mi (pc + 1) L (.int (iI (s q i)) :: S) (jmx sh t s) P X) : J Γ b mi pc L (.int (iI i) :: .ref q :: S) (jmx sh t s) P X :=
  J.zald d hs (iI_in hi hn) (by rw [iI_clamp (by omega)]; show J Γ b mi (pc + 1) L (.int (iI (s q (i.toNat : Int))) :: S) (jmx sh t s) P X; rw [Int.toNat_of_nonneg hi.1]; exact kk)
theorem Y.zast {q n : Nat} {i x : Int} (d : decode mi.2.1 pc = .ok (.bastore, 1)) (hs : sh[q]? = some (107, n)) (hn : n < 2147483648) (hi : 0 ≤ i ∧ i < n) (hx : vp_nar .boolean (iI x) = iI x) (kk : J Γ b mi (pc + 1) L S (jmx sh t (up s q i x)) P X) : J Γ b mi pc L (.int (iI x) :: .int (iI i) :: .ref q :: S) (jmx sh t s) P X :=
  J.zast d hs (iI_in hi hn) (by rw [hx]; rw [iI_clamp (by omega), jmx_put, Int.toNat_of_nonneg hi.1]; exact kk)
theorem Y.bald {q n : Nat} {i : Int} (d : decode mi.2.1 pc = .ok (.baload, 1)) (hs : sh[q]? = some (101, n)) (hn : n < 2147483648) (hi : 0 ≤ i ∧ i < n) (kk : J Γ b mi (pc + 1) L (.int (iI (s q i)) :: S) (jmx sh t s) P X) : J Γ b mi pc L (.int (iI i) :: .ref q :: S) (jmx sh t s) P X :=
  J.bald d hs (iI_in hi hn) (by rw [iI_clamp (by omega)]; show J Γ b mi (pc + 1) L (.int (iI (s q (i.toNat : Int))) :: S) (jmx sh t s) P X; rw [Int.toNat_of_nonneg hi.1]; exact kk)
theorem Y.bast {q n : Nat} {i x : Int} (d : decode mi.2.1 pc = .ok (.bastore, 1)) (hs : sh[q]? = some (101, n)) (hn : n < 2147483648) (hi : 0 ≤ i ∧ i < n) (hx : vp_nar .byte (iI x) = iI x) (kk : J Γ b mi (pc + 1) L S (jmx sh t (up s q i x)) P X) : J Γ b mi pc L (.int (iI x) :: .int (iI i) :: .ref q :: S) (jmx sh t s) P X :=
  J.bast d hs (iI_in hi hn) (by rw [hx]; rw [iI_clamp (by omega), jmx_put, Int.toNat_of_nonneg hi.1]; exact kk)
theorem Y.alen {q u n : Nat} (d : decode mi.2.1 pc = .ok (.arraylength, 1)) (hs : sh[q]? = some (u, n)) (ht : 100 ≤ u) (kk : J Γ b mi (pc + 1) L (.int (iI (n : Int)) :: S) (jmx sh t s) P X) : J Γ b mi pc L (.ref q :: S) (jmx sh t s) P X := J.alen d hs ht kk
theorem Y.raald {q n r : Nat} {i : Int} (d : decode mi.2.1 pc = .ok (.aaload, 1)) (hs : sh[q]? = some (106, n)) (hn : n < 2147483648) (hi : 0 ≤ i ∧ i < n) (hr : t q i.toNat = some r) (kk : J Γ b mi (pc + 1) L (.ref r :: S) (jmx sh t s) P X) : J Γ b mi pc L (.int (iI i) :: .ref q :: S) (jmx sh t s) P X := J.raald d hs (iI_in hi hn) (by rw [iI_clamp (by omega)]; exact hr) kk
theorem Y.raast {q n r n6 : Nat} {i : Int} (d : decode mi.2.1 pc = .ok (.aastore, 1)) (hs : sh[q]? = some (106, n)) (hn : n < 2147483648) (hi : 0 ≤ i ∧ i < n) (hr : sh[r]? = some (100, n6)) (kk : J Γ b mi (pc + 1) L S (jmx sh (jup2 t q i.toNat (some r)) s) P X) : J Γ b mi pc L (.ref r :: .int (iI i) :: .ref q :: S) (jmx sh t s) P X :=
  J.raast d hs (iI_in hi hn) hr (by rw [iI_clamp (by omega)]; exact kk)
theorem Y.newI {x : Int} (n : Nat) (d : decode mi.2.1 pc = .ok (.newarray .int, 2)) (hx : x = (n : Int)) (hn : n < 1000000) (h : XB sh t s) (hb : 1 ≤ b.2.1 ∧ n ≤ b.2.2) (k : J Γ (b.1, b.2.1 - 1, b.2.2 - n) mi (pc + 2) L (.ref sh.length :: S) (jmx (sh ++ [(100, n)]) t s) P X) : J Γ b mi pc L (.int (iI x) :: S) (jmx sh t s) P X := by
  subst hx; exact J.newaI n d a_int rfl hn h.fr hb k
theorem Y.newZ {x : Int} (n : Nat) (d : decode mi.2.1 pc = .ok (.newarray .boolean, 2)) (hx : x = (n : Int)) (hn : n < 1000000) (h : XB sh t s) (hb : 1 ≤ b.2.1 ∧ n ≤ b.2.2) (k : J Γ (b.1, b.2.1 - 1, b.2.2 - n) mi (pc + 2) L (.ref sh.length :: S) (jmx (sh ++ [(107, n)]) t s) P X) : J Γ b mi pc L (.int (iI x) :: S) (jmx sh t s) P X := by
  subst hx; exact J.newaZ n d a_boolean rfl hn h.fr hb k
theorem Y.newB {x : Int} (n : Nat) (d : decode mi.2.1 pc = .ok (.newarray .byte, 2)) (hx : x = (n : Int)) (hn : n < 1000000) (h : XB sh t s) (hb : 1 ≤ b.2.1 ∧ n ≤ b.2.2) (k : J Γ (b.1, b.2.1 - 1, b.2.2 - n) mi (pc + 2) L (.ref sh.length :: S) (jmx (sh ++ [(101, n)]) t s) P X) : J Γ b mi pc L (.int (iI x) :: S) (jmx sh t s) P X := by
  subst hx; exact J.newaB n d a_byte rfl hn h.fr hb k
theorem Y.newR {x : Int} {idx : Nat} (n : Nat) (d : decode mi.2.1 pc = .ok (.anewarray idx, 3)) (hl : Cond.classLink mi.1.cls idx "[I" ∈ jG) (hx : x = (n : Int)) (hn : n < 1000000) (h : XB sh t s) (hb : 1 ≤ b.2.1 ∧ n ≤ b.2.2) (k : J Γ (b.1, b.2.1 - 1, b.2.2 - n) mi (pc + 3) L (.ref sh.length :: S) (jmx (sh ++ [(106, n)]) t s) P X) : J Γ b mi pc L (.int (iI x) :: S) (jmx sh t s) P X := by
  subst hx; exact J.ranew n d hl rfl hn h.fr hb k
/-- a static method of the same class, without handlers, that answers an int and leaves the memory alone -/
theorem Y.callS {idx : Nat} {d' : Nat} {mi' : jMI} (As : List Value) {r : Int} (d : decode mi.2.1 pc = .ok (.invokestatic idx, 3)) (hl : Cond.methodLink mi.1.cls idx mi'.1 ∈ jG) (hs : jSE mi' As.length) (hsame : mi'.1.cls = mi.1.cls) (hb : d' + 1 ≤ b.1) (hc : Con Γ (d', 0, 0) mi' As (jmx sh t s) (fun v M' => v = some (.int (iI r)) ∧ M' = jmx sh t s) X0) (hcat : (S.map fun v => v.category).sum ≤ 8)
    (k : J Γ b mi (pc + 3) L (.int (iI r) :: S) (jmx sh t s) P X) : J Γ b mi pc L (As.reverse ++ S) (jmx sh t s) P X :=
  J.callS As d hl hs hsame ⟨hb, Nat.zero_le _, Nat.zero_le _⟩ hc (fun E M' h => absurd h id) hcat (by rintro v M' ⟨rfl, rfl⟩; exact k)
end YR
