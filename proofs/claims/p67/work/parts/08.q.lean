section JQ
variable {Γ : jE} {b : Nat × Nat × Nat} {mi : jMI} {pc : Nat} {L : List (Option Value)} {S : List Value} {M : jM} {P : Option Value → jM → Prop} {X : String → jM → Prop} {s : Nat → Int → Int} {ε : jEps}
/-- an int and a memory of which something holds -/
def RQ (Q : Int → (Nat → Int → Int) → Prop) (ε : jEps) : Option Value → jM → Prop := fun v M => ∃ r s', v = some (.int (iI r)) ∧ M = jmem s' ε ∧ Q r s'
def RW (Q : (Nat → Int → Int) → Prop) (ε : jEps) : Option Value → jM → Prop := fun v M => ∃ s', v = none ∧ M = jmem s' ε ∧ Q s'
/-- an exception of a class, under a condition; the memory is as it was -/
def XT (E0 : String) (c : Prop) (s : Nat → Int → Int) (ε : jEps) : String → jM → Prop := fun E M => E = E0 ∧ c ∧ M = jmem s ε
theorem I.gI {q idx ci k n : Nat} {ty : FieldType} {fin : Bool} (i : Int) (hi : ((k : Nat) : Int) = i) (d : decode mi.2.1 pc = .ok (.getfield idx, 3)) (hcl : jCls) (f : jFld mi.1.cls idx ci k ty fin) (hs : jsh[q]? = some (ci, n)) (hn : k < n) (hr : jrf ci k = false) (kk : J Γ b mi (pc + 3) L (.int (iI (s q i)) :: S) (jmem s ε) P X) : J Γ b mi pc L (.ref q :: S) (jmem s ε) P X := by
  subst hi; exact I.getI d hcl f hs hn hr kk
theorem I.pI {q idx ci k n : Nat} {x : Int} (i : Int) (hi : ((k : Nat) : Int) = i) (d : decode mi.2.1 pc = .ok (.putfield idx, 3)) (hcl : jCls) (f : jFld mi.1.cls idx ci k .int false) (hs : jsh[q]? = some (ci, n)) (hn : k < n) (hr : jrf ci k = false) (kk : J Γ b mi (pc + 3) L S (jmem (up s q i x) ε) P X) : J Γ b mi pc L (.int (iI x) :: .ref q :: S) (jmem s ε) P X := by
  subst hi; exact I.putI d hcl f hs hn hr kk
theorem I.pZ {q idx ci k n : Nat} {x : Int} (i : Int) (hi : ((k : Nat) : Int) = i) (d : decode mi.2.1 pc = .ok (.putfield idx, 3)) (hcl : jCls) (f : jFld mi.1.cls idx ci k .boolean false) (hs : jsh[q]? = some (ci, n)) (hn : k < n) (hr : jrf ci k = false) (hx : x = 0 ∨ x = 1) (kk : J Γ b mi (pc + 3) L S (jmem (up s q i x) ε) P X) : J Γ b mi pc L (.int (iI x) :: .ref q :: S) (jmem s ε) P X := by
  subst hi; exact I.putZ d hcl f hs hn hr hx kk
theorem I.iretQ {x : Int} {Q : Int → (Nat → Int → Int) → Prop} (d : decode mi.2.1 pc = .ok (.ireturn, 1)) (hr : mi.2.2.2 = some .int) (hq : Q x s) : J Γ b mi pc L [.int (iI x)] (jmem s ε) (RQ Q ε) X := I.iret d hr ⟨x, s, rfl, rfl, hq⟩
theorem I.zretQ {x : Int} {Q : Int → (Nat → Int → Int) → Prop} (d : decode mi.2.1 pc = .ok (.ireturn, 1)) (hr : mi.2.2.2 = some .boolean) (hb : x = 0 ∨ x = 1) (hq : Q x s) : J Γ b mi pc L [.int (iI x)] (jmem s ε) (RQ Q ε) X := I.zret d hr hb ⟨x, s, rfl, rfl, hq⟩
theorem I.vretQ {Q : (Nat → Int → Int) → Prop} (d : decode mi.2.1 pc = .ok (.return_, 1)) (hr : mi.2.2.2 = none) (hq : Q s) : J Γ b mi pc L [] (jmem s ε) (RW Q ε) X := J.vret hr d ⟨s, rfl, rfl, hq⟩
theorem J.postI {r r' : Int} {s' : Nat → Int → Int} (e : r = r') (k : J Γ b mi pc L S M (RI r s' ε) X) : J Γ b mi pc L S M (RI r' s' ε) X := e ▸ k
/-- locals that know less -/
def jle : List (Option Value) → List (Option Value) → Prop
  | [], [] => True
  | a :: l, c :: l' => (a = none ∨ a = c) ∧ jle l l'
  | _, _ => False
theorem jle_len : ∀ {l l' : List (Option Value)}, jle l l' → l.length = l'.length
  | [], [], _ => rfl
  | _ :: _, _ :: _, h => congrArg (· + 1) (jle_len h.2)
  | [], _ :: _, h => h.elim
  | _ :: _, [], h => h.elim
theorem jle_at : ∀ {l l' : List (Option Value)}, jle l l' → ∀ (i : Nat) (v : Value), l[i]? = some (some v) → l'[i]? = some (some v)
  | [], [], _, i, v, e => by simp at e
  | a :: l, c :: l', h, 0, v, e => by
    have e : a = some v := by simpa using e
    rcases h.1 with g | g
    · rw [g] at e; cases e
    · simp [← g, e]
  | a :: l, c :: l', h, i + 1, v, e => by
    have e : l[i]? = some (some v) := by simpa using e
    simpa using jle_at h.2 i v e
  | [], _ :: _, h, _, _, _ => h.elim
  | _ :: _, [], h, _, _, _ => h.elim
theorem J.fgt {L' : List (Option Value)} (h : jle L' L) (k : J Γ b mi pc L' S M P X) : J Γ b mi pc L S M P X := J.forget (jle_len h) (jle_at h) k
theorem I.sx {x y : Int} (e : x = y) (k : J Γ b mi pc L (.int (iI y) :: S) M P X) : J Γ b mi pc L (.int (iI x) :: S) M P X := e ▸ k
theorem I.callV0q {q : Nat} {idx d' : Nat}{mi' : jMI} {Q : Int → (Nat → Int → Int) → Prop} (d : decode mi.2.1 pc = .ok (.invokevirtual idx, 3)) (hl : Cond.methodLink mi.1.cls idx mi'.1 ∈ jG) (hs : jVE mi' 0) {ci n : Nat} (hq : jsh[q]? = some (ci, n)) (hqc : (vwCl[ci]?).map (fun z => z.1) = some mi'.1.cls) (hc : Con Γ (d', 0, 0) mi' [.ref q] (jmem s ε) (RQ Q ε) X0) (hb : d' + 1 ≤ b.1) (hcat : (S.map fun v => v.category).sum ≤ 8) (k : ∀ r s', Q r s' → J Γ b mi (pc + 3) L (.int (iI r) :: S) (jmem s' ε) P X) : J Γ b mi pc L (.ref q :: S) (jmem s ε) P X :=
  J.callV [] d hl hs hq hqc ⟨hb, Nat.zero_le _, Nat.zero_le _⟩ hc hXX hcat (by rintro v M' ⟨r, s', rfl, rfl, hq⟩; exact k r s' hq)
theorem I.callV0w {q : Nat} {idx d' : Nat}{mi' : jMI} {Q : (Nat → Int → Int) → Prop} (d : decode mi.2.1 pc = .ok (.invokevirtual idx, 3)) (hl : Cond.methodLink mi.1.cls idx mi'.1 ∈ jG) (hs : jVE mi' 0) {ci n : Nat} (hq : jsh[q]? = some (ci, n)) (hqc : (vwCl[ci]?).map (fun z => z.1) = some mi'.1.cls) (hc : Con Γ (d', 0, 0) mi' [.ref q] (jmem s ε) (RW Q ε) X0) (hb : d' + 1 ≤ b.1) (hcat : (S.map fun v => v.category).sum ≤ 8) (k : ∀ s', Q s' → J Γ b mi (pc + 3) L (S) (jmem s' ε) P X) : J Γ b mi pc L (.ref q :: S) (jmem s ε) P X :=
  J.callV [] d hl hs hq hqc ⟨hb, Nat.zero_le _, Nat.zero_le _⟩ hc hXX hcat (by rintro v M' ⟨s', rfl, rfl, hq⟩; exact k s' hq)
theorem I.callV1q {q : Nat} {idx d' : Nat}{mi' : jMI} {a0 : Value} {Q : Int → (Nat → Int → Int) → Prop} (d : decode mi.2.1 pc = .ok (.invokevirtual idx, 3)) (hl : Cond.methodLink mi.1.cls idx mi'.1 ∈ jG) (hs : jVE mi' 1) {ci n : Nat} (hq : jsh[q]? = some (ci, n)) (hqc : (vwCl[ci]?).map (fun z => z.1) = some mi'.1.cls) (hc : Con Γ (d', 0, 0) mi' [.ref q, a0] (jmem s ε) (RQ Q ε) X0) (hb : d' + 1 ≤ b.1) (hcat : (S.map fun v => v.category).sum ≤ 8) (k : ∀ r s', Q r s' → J Γ b mi (pc + 3) L (.int (iI r) :: S) (jmem s' ε) P X) : J Γ b mi pc L (a0 :: .ref q :: S) (jmem s ε) P X :=
  J.callV [a0] d hl hs hq hqc ⟨hb, Nat.zero_le _, Nat.zero_le _⟩ hc hXX hcat (by rintro v M' ⟨r, s', rfl, rfl, hq⟩; exact k r s' hq)
theorem I.callV1qX {q : Nat} {idx : Nat} {b' : Nat × Nat × Nat}{mi' : jMI} {a0 : Value} {Q : Int → (Nat → Int → Int) → Prop} {X' : String → jM → Prop} (d : decode mi.2.1 pc = .ok (.invokevirtual idx, 3)) (hl : Cond.methodLink mi.1.cls idx mi'.1 ∈ jG) (hs : jVE mi' 1) {ci n : Nat} (hq : jsh[q]? = some (ci, n)) (hqc : (vwCl[ci]?).map (fun z => z.1) = some mi'.1.cls) (hc : Con Γ b' mi' [.ref q, a0] (jmem s ε) (RQ Q ε) X') (hb : b'.1 + 1 ≤ b.1 ∧ b'.2.1 ≤ b.2.1 ∧ b'.2.2 ≤ b.2.2) (hX : ∀ E M', X' E M' → X E M') (hcat : (S.map fun v => v.category).sum ≤ 8) (k : ∀ r s', Q r s' → J Γ (b.1, b.2.1 - b'.2.1, b.2.2 - b'.2.2) mi (pc + 3) L (.int (iI r) :: S) (jmem s' ε) P X) : J Γ b mi pc L (a0 :: .ref q :: S) (jmem s ε) P X :=
  J.callV [a0] d hl hs hq hqc hb hc hX hcat (by rintro v M' ⟨r, s', rfl, rfl, hq⟩; exact k r s' hq)
theorem I.callV1w {q : Nat} {idx d' : Nat}{mi' : jMI} {a0 : Value} {Q : (Nat → Int → Int) → Prop} (d : decode mi.2.1 pc = .ok (.invokevirtual idx, 3)) (hl : Cond.methodLink mi.1.cls idx mi'.1 ∈ jG) (hs : jVE mi' 1) {ci n : Nat} (hq : jsh[q]? = some (ci, n)) (hqc : (vwCl[ci]?).map (fun z => z.1) = some mi'.1.cls) (hc : Con Γ (d', 0, 0) mi' [.ref q, a0] (jmem s ε) (RW Q ε) X0) (hb : d' + 1 ≤ b.1) (hcat : (S.map fun v => v.category).sum ≤ 8) (k : ∀ s', Q s' → J Γ b mi (pc + 3) L (S) (jmem s' ε) P X) : J Γ b mi pc L (a0 :: .ref q :: S) (jmem s ε) P X :=
  J.callV [a0] d hl hs hq hqc ⟨hb, Nat.zero_le _, Nat.zero_le _⟩ hc hXX hcat (by rintro v M' ⟨s', rfl, rfl, hq⟩; exact k s' hq)
theorem I.callV1wX {q : Nat} {idx : Nat} {b' : Nat × Nat × Nat}{mi' : jMI} {a0 : Value} {Q : (Nat → Int → Int) → Prop} {X' : String → jM → Prop} (d : decode mi.2.1 pc = .ok (.invokevirtual idx, 3)) (hl : Cond.methodLink mi.1.cls idx mi'.1 ∈ jG) (hs : jVE mi' 1) {ci n : Nat} (hq : jsh[q]? = some (ci, n)) (hqc : (vwCl[ci]?).map (fun z => z.1) = some mi'.1.cls) (hc : Con Γ b' mi' [.ref q, a0] (jmem s ε) (RW Q ε) X') (hb : b'.1 + 1 ≤ b.1 ∧ b'.2.1 ≤ b.2.1 ∧ b'.2.2 ≤ b.2.2) (hX : ∀ E M', X' E M' → X E M') (hcat : (S.map fun v => v.category).sum ≤ 8) (k : ∀ s', Q s' → J Γ (b.1, b.2.1 - b'.2.1, b.2.2 - b'.2.2) mi (pc + 3) L (S) (jmem s' ε) P X) : J Γ b mi pc L (a0 :: .ref q :: S) (jmem s ε) P X :=
  J.callV [a0] d hl hs hq hqc hb hc hX hcat (by rintro v M' ⟨s', rfl, rfl, hq⟩; exact k s' hq)
theorem I.callV2q {q : Nat} {idx d' : Nat}{mi' : jMI} {a0 : Value} {a1 : Value} {Q : Int → (Nat → Int → Int) → Prop} (d : decode mi.2.1 pc = .ok (.invokevirtual idx, 3)) (hl : Cond.methodLink mi.1.cls idx mi'.1 ∈ jG) (hs : jVE mi' 2) {ci n : Nat} (hq : jsh[q]? = some (ci, n)) (hqc : (vwCl[ci]?).map (fun z => z.1) = some mi'.1.cls) (hc : Con Γ (d', 0, 0) mi' [.ref q, a0, a1] (jmem s ε) (RQ Q ε) X0) (hb : d' + 1 ≤ b.1) (hcat : (S.map fun v => v.category).sum ≤ 8) (k : ∀ r s', Q r s' → J Γ b mi (pc + 3) L (.int (iI r) :: S) (jmem s' ε) P X) : J Γ b mi pc L (a1 :: a0 :: .ref q :: S) (jmem s ε) P X :=
  J.callV [a0, a1] d hl hs hq hqc ⟨hb, Nat.zero_le _, Nat.zero_le _⟩ hc hXX hcat (by rintro v M' ⟨r, s', rfl, rfl, hq⟩; exact k r s' hq)
theorem I.callV2w {q : Nat} {idx d' : Nat}{mi' : jMI} {a0 : Value} {a1 : Value} {Q : (Nat → Int → Int) → Prop} (d : decode mi.2.1 pc = .ok (.invokevirtual idx, 3)) (hl : Cond.methodLink mi.1.cls idx mi'.1 ∈ jG) (hs : jVE mi' 2) {ci n : Nat} (hq : jsh[q]? = some (ci, n)) (hqc : (vwCl[ci]?).map (fun z => z.1) = some mi'.1.cls) (hc : Con Γ (d', 0, 0) mi' [.ref q, a0, a1] (jmem s ε) (RW Q ε) X0) (hb : d' + 1 ≤ b.1) (hcat : (S.map fun v => v.category).sum ≤ 8) (k : ∀ s', Q s' → J Γ b mi (pc + 3) L (S) (jmem s' ε) P X) : J Γ b mi pc L (a1 :: a0 :: .ref q :: S) (jmem s ε) P X :=
  J.callV [a0, a1] d hl hs hq hqc ⟨hb, Nat.zero_le _, Nat.zero_le _⟩ hc hXX hcat (by rintro v M' ⟨s', rfl, rfl, hq⟩; exact k s' hq)
theorem I.callV2wX {q : Nat} {idx : Nat} {b' : Nat × Nat × Nat}{mi' : jMI} {a0 : Value} {a1 : Value} {Q : (Nat → Int → Int) → Prop} {X' : String → jM → Prop} (d : decode mi.2.1 pc = .ok (.invokevirtual idx, 3)) (hl : Cond.methodLink mi.1.cls idx mi'.1 ∈ jG) (hs : jVE mi' 2) {ci n : Nat} (hq : jsh[q]? = some (ci, n)) (hqc : (vwCl[ci]?).map (fun z => z.1) = some mi'.1.cls) (hc : Con Γ b' mi' [.ref q, a0, a1] (jmem s ε) (RW Q ε) X') (hb : b'.1 + 1 ≤ b.1 ∧ b'.2.1 ≤ b.2.1 ∧ b'.2.2 ≤ b.2.2) (hX : ∀ E M', X' E M' → X E M') (hcat : (S.map fun v => v.category).sum ≤ 8) (k : ∀ s', Q s' → J Γ (b.1, b.2.1 - b'.2.1, b.2.2 - b'.2.2) mi (pc + 3) L (S) (jmem s' ε) P X) : J Γ b mi pc L (a1 :: a0 :: .ref q :: S) (jmem s ε) P X :=
  J.callV [a0, a1] d hl hs hq hqc hb hc hX hcat (by rintro v M' ⟨s', rfl, rfl, hq⟩; exact k s' hq)
end JQ
