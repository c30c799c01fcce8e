def lB : List (Nat × Nat × Nat) := ((137, 12, 141) :: (137, 10, 140) :: (137, 6, 139) :: (137, 1, 138) :: lA)
def jshB : List (Nat × Nat) := jsh.take 142
def jtauB : Nat → Nat → Option Nat := tL [(137, 12, 141), (137, 10, 140), (137, 6, 139), (137, 1, 138), (0, 11, 135), (135, 0, 136), (0, 9, 127), (127, 12, 134), (127, 11, 133), (127, 10, 132), (127, 9, 131), (127, 8, 130), (127, 7, 129), (127, 6, 128), (0, 8, 61), (62, 7, 119), (119, 12, 126), (119, 11, 125), (119, 10, 124), (119, 9, 123), (119, 8, 122), (119, 7, 121), (119, 6, 120), (62, 6, 111), (111, 12, 118), (111, 11, 117), (111, 10, 116), (111, 9, 115), (111, 8, 114), (111, 7, 113), (111, 6, 112), (62, 5, 103), (103, 12, 110), (103, 11, 109), (103, 10, 108), (103, 9, 107), (103, 8, 106), (103, 7, 105), (103, 6, 104), (62, 4, 95), (95, 12, 102), (95, 11, 101), (95, 10, 100), (95, 9, 99), (95, 8, 98), (95, 7, 97), (95, 6, 96), (62, 3, 87), (87, 12, 94), (87, 11, 93), (87, 10, 92), (87, 9, 91), (87, 8, 90), (87, 7, 89), (87, 6, 88), (62, 2, 79), (79, 12, 86), (79, 11, 85), (79, 10, 84), (79, 9, 83), (79, 8, 82), (79, 7, 81), (79, 6, 80), (62, 1, 71), (71, 12, 78), (71, 11, 77), (71, 10, 76), (71, 9, 75), (71, 8, 74), (71, 7, 73), (71, 6, 72), (62, 0, 63), (63, 12, 70), (63, 11, 69), (63, 10, 68), (63, 9, 67), (63, 8, 66), (63, 7, 65), (63, 6, 64), (61, 0, 62), (0, 7, 51), (51, 8, 60), (51, 7, 59), (51, 6, 58), (51, 5, 57), (51, 4, 56), (51, 3, 55), (51, 2, 54), (51, 1, 53), (51, 0, 52), (0, 6, 36), (36, 1, 43), (43, 12, 50), (43, 11, 49), (43, 10, 48), (43, 9, 47), (43, 8, 46), (43, 7, 45), (43, 6, 44), (36, 0, 37), (37, 5, 42), (37, 4, 41), (37, 3, 40), (37, 2, 39), (37, 1, 38), (0, 5, 21), (21, 1, 28), (28, 12, 35), (28, 11, 34), (28, 10, 33), (28, 9, 32), (28, 8, 31), (28, 7, 30), (28, 6, 29), (21, 0, 22), (22, 5, 27), (22, 4, 26), (22, 3, 25), (22, 2, 24), (22, 1, 23), (0, 4, 2), (2, 2, 20), (2, 1, 18), (18, 0, 19), (2, 0, 3), (3, 1, 10), (10, 12, 17), (10, 11, 16), (10, 10, 15), (10, 9, 14), (10, 8, 13), (10, 7, 12), (10, 6, 11), (3, 0, 4), (4, 5, 9), (4, 4, 8), (4, 3, 7), (4, 2, 6), (4, 1, 5), (0, 0, 1)]
section ZB1
variable {Γ : jE} {b : Nat × Nat × Nat} {mi : jMI} {pc : Nat} {L : List (Option Value)} {S : List Value} {M : jM} {P : Option Value → jM → Prop} {X : String → jM → Prop}
def jmemB (s : Nat → Int → Int) (ε : jEps) : jM := (jshB, jtauB, fun q k => iI (s q k), ε)
theorem jmem_putB {s : Nat → Int → Int} {ε : jEps} {q k : Nat} {z : Int} : ((jmemB s ε).1, (jmemB s ε).2.1, jup2 (jmemB s ε).2.2.1 q k (iI z), (jmemB s ε).2.2.2) = jmemB (up s q k z) ε := by
  unfold jmemB
  congr 3
  funext a i
  unfold jup2 up
  by_cases h : a = q ∧ i = k
  · rw [if_pos h, if_pos (by omega)]
  · rw [if_neg h, if_neg (by omega)]
end ZB1
section ZB2
variable {Γ : jE} {b : Nat × Nat × Nat} {mi : jMI} {pc : Nat} {L : List (Option Value)} {S : List Value} {M : jM} {P : Option Value → jM → Prop} {X : String → jM → Prop}
variable {s : Nat → Int → Int} {ε : jEps}
theorem I.getIB {q idx ci k n : Nat} {ty : FieldType} {fin : Bool} (d : decode mi.2.1 pc = .ok (.getfield idx, 3)) (hcl : jCls) (f : jFld mi.1.cls idx ci k ty fin) (hs : jshB[q]? = some (ci, n)) (hn : k < n) (hr : jrf ci k = false) (kk : J Γ b mi (pc + 3) L (.int (iI (s q k)) :: S) (jmemB s ε) P X) : J Γ b mi pc L (.ref q :: S) (jmemB s ε) P X := J.getI hcl d f hs hn hr kk
theorem I.getRB {q idx ci k n r : Nat} {ty : FieldType} {fin : Bool} (d : decode mi.2.1 pc = .ok (.getfield idx, 3)) (hcl : jCls) (f : jFld mi.1.cls idx ci k ty fin) (hs : jshB[q]? = some (ci, n)) (hn : k < n) (hr : jrf ci k = true) (hv : jtauB q k = some r) (kk : J Γ b mi (pc + 3) L (.ref r :: S) (jmemB s ε) P X) : J Γ b mi pc L (.ref q :: S) (jmemB s ε) P X := J.getR hcl d f hs hn hr hv kk
theorem I.putIB {q idx ci k n : Nat} {x : Int} (d : decode mi.2.1 pc = .ok (.putfield idx, 3)) (hcl : jCls) (f : jFld mi.1.cls idx ci k .int false) (hs : jshB[q]? = some (ci, n)) (hn : k < n) (hr : jrf ci k = false) (kk : J Γ b mi (pc + 3) L S (jmemB (up s q k x) ε) P X) : J Γ b mi pc L (.int (iI x) :: .ref q :: S) (jmemB s ε) P X := J.putI hcl d f hs hn hr rfl rfl (by rw [jmem_putB]; exact kk)
theorem I.ialdB {q n : Nat} {i : Int} (d : decode mi.2.1 pc = .ok (.iaload, 1)) (hs : jshB[q]? = some (100, n)) (hn : n < 2147483648) (hi : 0 ≤ i ∧ i < n) (kk : J Γ b mi (pc + 1) L (.int (iI (s q i)) :: S) (jmemB s ε) P X) : J Γ b mi pc L (.int (iI i) :: .ref q :: S) (jmemB s ε) P X :=
  J.iald d hs (iI_in hi hn) (by rw [iI_clamp (by omega)]; show J Γ b mi (pc + 1) L (.int (iI (s q (i.toNat : Int))) :: S) (jmemB s ε) P X; rw [Int.toNat_of_nonneg hi.1]; exact kk)
theorem I.iastB {q n : Nat} {i x : Int} (d : decode mi.2.1 pc = .ok (.iastore, 1)) (hs : jshB[q]? = some (100, n)) (hn : n < 2147483648) (hi : 0 ≤ i ∧ i < n) (kk : J Γ b mi (pc + 1) L S (jmemB (up s q i x) ε) P X) : J Γ b mi pc L (.int (iI x) :: .int (iI i) :: .ref q :: S) (jmemB s ε) P X :=
  J.iast d hs (iI_in hi hn) (by rw [iI_clamp (by omega), jmem_putB, Int.toNat_of_nonneg hi.1]; exact kk)
/-- what a method answers: an int, nothing -/
def RIB (r : Int) (s : Nat → Int → Int) (ε : jEps) : Option Value → jM → Prop := fun v M => v = some (.int (iI r)) ∧ M = jmemB s ε
theorem I.iretIB {x r : Int} {s' : Nat → Int → Int} (d : decode mi.2.1 pc = .ok (.ireturn, 1)) (hr : mi.2.2.2 = some .int) (hx : x = r) (hs : s = s') : J Γ b mi pc L [.int (iI x)] (jmemB s ε) (RIB r s' ε) X := by subst hx; subst hs; exact I.iret d hr ⟨rfl, rfl⟩
theorem I.callV1iB {q : Nat} {idx d' : Nat}{mi' : jMI} {a0 : Value} {r : Int} {s' : Nat → Int → Int} (d : decode mi.2.1 pc = .ok (.invokevirtual idx, 3)) (hl : Cond.methodLink mi.1.cls idx mi'.1 ∈ jG) (hs : jVE mi' 1) {ci n : Nat} (hq : jshB[q]? = some (ci, n)) (hqc : (vwCl[ci]?).map (fun z => z.1) = some mi'.1.cls) (hc : Con Γ (d', 0, 0) mi' [.ref q, a0] (jmemB s ε) (RIB r s' ε) X0) (hb : d' + 1 ≤ b.1) (hcat : (S.map fun v => v.category).sum ≤ 8) (k : J Γ b mi (pc + 3) L (.int (iI r) :: S) (jmemB s' ε) P X) : J Γ b mi pc L (a0 :: .ref q :: S) (jmemB s ε) P X :=
  J.callV [a0] d hl hs hq hqc ⟨hb, Nat.zero_le _, Nat.zero_le _⟩ hc hXX hcat (by rintro v M' ⟨rfl, rfl⟩; exact k)
end ZB2
section ZB3
variable {Γ : jE} {b : Nat × Nat × Nat} {mi : jMI} {pc : Nat} {L : List (Option Value)} {S : List Value} {M : jM} {P : Option Value → jM → Prop} {X : String → jM → Prop} {s : Nat → Int → Int} {ε : jEps}
def RWB (Q : (Nat → Int → Int) → Prop) (ε : jEps) : Option Value → jM → Prop := fun v M => ∃ s', v = none ∧ M = jmemB s' ε ∧ Q s'
theorem I.gIB {q idx ci k n : Nat} {ty : FieldType} {fin : Bool} (i : Int) (hi : ((k : Nat) : Int) = i) (d : decode mi.2.1 pc = .ok (.getfield idx, 3)) (hcl : jCls) (f : jFld mi.1.cls idx ci k ty fin) (hs : jshB[q]? = some (ci, n)) (hn : k < n) (hr : jrf ci k = false) (kk : J Γ b mi (pc + 3) L (.int (iI (s q i)) :: S) (jmemB s ε) P X) : J Γ b mi pc L (.ref q :: S) (jmemB s ε) P X := by
  subst hi; exact I.getIB d hcl f hs hn hr kk
theorem I.pIB {q idx ci k n : Nat} {x : Int} (i : Int) (hi : ((k : Nat) : Int) = i) (d : decode mi.2.1 pc = .ok (.putfield idx, 3)) (hcl : jCls) (f : jFld mi.1.cls idx ci k .int false) (hs : jshB[q]? = some (ci, n)) (hn : k < n) (hr : jrf ci k = false) (kk : J Γ b mi (pc + 3) L S (jmemB (up s q i x) ε) P X) : J Γ b mi pc L (.int (iI x) :: .ref q :: S) (jmemB s ε) P X := by
  subst hi; exact I.putIB d hcl f hs hn hr kk
theorem I.vretQB {Q : (Nat → Int → Int) → Prop} (d : decode mi.2.1 pc = .ok (.return_, 1)) (hr : mi.2.2.2 = none) (hq : Q s) : J Γ b mi pc L [] (jmemB s ε) (RWB Q ε) X := J.vret hr d ⟨s, rfl, rfl, hq⟩
theorem I.callV0wB {q : Nat} {idx d' : Nat}{mi' : jMI} {Q : (Nat → Int → Int) → Prop} (d : decode mi.2.1 pc = .ok (.invokevirtual idx, 3)) (hl : Cond.methodLink mi.1.cls idx mi'.1 ∈ jG) (hs : jVE mi' 0) {ci n : Nat} (hq : jshB[q]? = some (ci, n)) (hqc : (vwCl[ci]?).map (fun z => z.1) = some mi'.1.cls) (hc : Con Γ (d', 0, 0) mi' [.ref q] (jmemB s ε) (RWB Q ε) X0) (hb : d' + 1 ≤ b.1) (hcat : (S.map fun v => v.category).sum ≤ 8) (k : ∀ s', Q s' → J Γ b mi (pc + 3) L (S) (jmemB s' ε) P X) : J Γ b mi pc L (.ref q :: S) (jmemB s ε) P X :=
  J.callV [] d hl hs hq hqc ⟨hb, Nat.zero_le _, Nat.zero_le _⟩ hc hXX hcat (by rintro v M' ⟨s', rfl, rfl, hq⟩; exact k s' hq)
theorem I.callV1wB {q : Nat} {idx d' : Nat}{mi' : jMI} {a0 : Value} {Q : (Nat → Int → Int) → Prop} (d : decode mi.2.1 pc = .ok (.invokevirtual idx, 3)) (hl : Cond.methodLink mi.1.cls idx mi'.1 ∈ jG) (hs : jVE mi' 1) {ci n : Nat} (hq : jshB[q]? = some (ci, n)) (hqc : (vwCl[ci]?).map (fun z => z.1) = some mi'.1.cls) (hc : Con Γ (d', 0, 0) mi' [.ref q, a0] (jmemB s ε) (RWB Q ε) X0) (hb : d' + 1 ≤ b.1) (hcat : (S.map fun v => v.category).sum ≤ 8) (k : ∀ s', Q s' → J Γ b mi (pc + 3) L (S) (jmemB s' ε) P X) : J Γ b mi pc L (a0 :: .ref q :: S) (jmemB s ε) P X :=
  J.callV [a0] d hl hs hq hqc ⟨hb, Nat.zero_le _, Nat.zero_le _⟩ hc hXX hcat (by rintro v M' ⟨s', rfl, rfl, hq⟩; exact k s' hq)
theorem I.callV2wB {q : Nat} {idx d' : Nat}{mi' : jMI} {a0 : Value} {a1 : Value} {Q : (Nat → Int → Int) → Prop} (d : decode mi.2.1 pc = .ok (.invokevirtual idx, 3)) (hl : Cond.methodLink mi.1.cls idx mi'.1 ∈ jG) (hs : jVE mi' 2) {ci n : Nat} (hq : jshB[q]? = some (ci, n)) (hqc : (vwCl[ci]?).map (fun z => z.1) = some mi'.1.cls) (hc : Con Γ (d', 0, 0) mi' [.ref q, a0, a1] (jmemB s ε) (RWB Q ε) X0) (hb : d' + 1 ≤ b.1) (hcat : (S.map fun v => v.category).sum ≤ 8) (k : ∀ s', Q s' → J Γ b mi (pc + 3) L (S) (jmemB s' ε) P X) : J Γ b mi pc L (a1 :: a0 :: .ref q :: S) (jmemB s ε) P X :=
  J.callV [a0, a1] d hl hs hq hqc ⟨hb, Nat.zero_le _, Nat.zero_le _⟩ hc hXX hcat (by rintro v M' ⟨s', rfl, rfl, hq⟩; exact k s' hq)
end ZB3
set_option maxHeartbeats 1000000 in
theorem c_X9_getB {Γ : jE} (hl : Γ.1.stackTraces = false) {s : Nat → Int → Int} {ε : jEps} {d : Nat} {k : Int} {f : Int → Int} (hd : 0 ≤ d) (p0 : MV s f) (p1 : 0 ≤ k ∧ k < 232) : Con Γ (d, 0, 0) mX9_get [.ref 137, .int (iI k)] (jmemB s ε) (RIB (f k) (s) ε) X0 := by
  refine Con.ofJ (by decide +kernel) (by simp [Value.category]) (Nat.le_of_ble_eq_true rfl) ?_ hl
  have ha := MV.at p0
  refine J.aload_n 0 dX9_get_0 rfl rfl ?_
  refine I.getRB dX9_get_1 jcls fX9_7 rfl (by decide) rfl rfl ?_
  refine J.aload_n 0 dX9_get_4 rfl rfl ?_
  refine I.gIB 2 rfl dX9_get_5 jcls fX9_43 rfl (by decide) rfl ?_
  refine J.iload_n 1 dX9_get_8 rfl rfl ?_
  refine I.add dX9_get_9 ?_
  refine I.ialdB dX9_get_10 rfl (by omega) (by omega) ?_
  refine I.sx (p0.2 k p1.1 p1.2) ?_
  exact I.iretIB dX9_get_11 rfl (by first | rfl | omega) rfl
set_option maxHeartbeats 1000000 in
theorem c_X9_setB {Γ : jE} (hl : Γ.1.stackTraces = false) {s : Nat → Int → Int} {ε : jEps} {d : Nat} {k : Int} {v : Int} {f : Int → Int} (hd : 0 ≤ d) (p0 : MV s f) (p1 : 0 ≤ k ∧ k < 232) : Con Γ (d, 0, 0) mX9_set [.ref 137, .int (iI k), .int (iI v)] (jmemB s ε) (RWB (fun s' => MV s' (upr f k v) ∧ FrM s s') ε) X0 := by
  refine Con.ofJ (by decide +kernel) (by simp [Value.category]) (Nat.le_of_ble_eq_true rfl) ?_ hl
  have ha := MV.at p0
  refine J.aload_n 0 dX9_set_0 rfl rfl ?_
  refine I.getRB dX9_set_1 jcls fX9_7 rfl (by decide) rfl rfl ?_
  refine J.aload_n 0 dX9_set_4 rfl rfl ?_
  refine I.gIB 2 rfl dX9_set_5 jcls fX9_43 rfl (by decide) rfl ?_
  refine J.iload_n 1 dX9_set_8 rfl rfl ?_
  refine I.add dX9_set_9 ?_
  refine J.iload_n 2 dX9_set_10 rfl rfl ?_
  refine I.iastB dX9_set_11 rfl (by omega) (by omega) ?_
  exact I.vretQB dX9_set_12 rfl (MV.set p0 p1)
set_option maxHeartbeats 1000000 in
theorem k_X9_begins_2B {Γ : jE} (hl : Γ.1.stackTraces = false) {s : Nat → Int → Int} {ε : jEps} {d : Nat} (hd : 1 ≤ d) (p0 : s 137 2 = 0 ∨ s 137 2 = 2320 ∨ s 137 2 = 2552) {mc ms : Nat} {P : Option Value → jM → Prop} {X : String → jM → Prop} : ∀ (k : Nat) {z : Nat → Int → Int} {i : Int} (q0 : ((k : Nat) : Int) = 232 - i) (q1 : 0 ≤ i) (q2 : FrM s z) (q3 : ∀ j, 0 ≤ j → j < i → z 138 (s 137 2 + j) = 0) (kx : ∀ s', (MV s' (fun _ => 0) ∧ FrM s s') → J Γ (d, mc, ms) mX9_begins 21 [some (.ref 137), none] [] (jmemB s' ε) P X), J Γ (d, mc, ms) mX9_begins 2 [some (.ref 137), some (.int (iI (i)))] [] (jmemB z ε) P X := by
  intro k
  induction k with
  | zero =>
    intro z i q0 q1 q2 q3 kx
    refine J.iload_n 1 dX9_begins_2 rfl rfl ?_
    refine I.sipush dX9_begins_3 (by decide) ?_
    refine I.icmp_ge 21 dX9_begins_6 (by decide) (by omega) (by omega) (fun h6 => ?_) (fun h6 => ?_)
    · skip
      exact J.fgt (by exact ⟨Or.inr rfl, Or.inl rfl, trivial⟩) (kx _ ⟨⟨by rw [q2.1 _ _ (by decide)]; exact p0, fun j a b => by rw [q2.1 137 2 (by decide)]; exact q3 j a (by omega)⟩, q2⟩)
    · exact absurd h6 (by omega)
  | succ k ih =>
    intro z i q0 q1 q2 q3 kx
    refine J.iload_n 1 dX9_begins_2 rfl rfl ?_
    refine I.sipush dX9_begins_3 (by decide) ?_
    refine I.icmp_ge 21 dX9_begins_6 (by decide) (by omega) (by omega) (fun h6 => ?_) (fun h6 => ?_)
    · exact absurd h6 (by omega)
    · skip
      refine J.aload_n 0 dX9_begins_9 rfl rfl ?_
      refine J.iload_n 1 dX9_begins_10 rfl rfl ?_
      refine I.iconst dX9_begins_11 ?_
      refine I.callV2wB (d' := d - 1) (mi' := mX9_set) dX9_begins_12 lX9_32 eX9_set rfl rfl (c_X9_setB (d := d - 1) hl (f := fun j => z 138 (z 137 2 + j)) (by omega) ⟨by rw [q2.1 _ _ (by decide)]; exact p0, fun j a b => rfl⟩ (by first | omega | assumption)) (show d - 1 + 1 ≤ d from by omega) (Nat.le_of_ble_eq_true rfl) ?_
      rintro s12 ⟨v12, w12⟩
      refine I.iinc dX9_begins_15 rfl rfl ?_
      refine J.goto 2 dX9_begins_18 (by decide) ?_
      exact J.fgt (by exact ⟨Or.inr rfl, Or.inr rfl, trivial⟩) (ih (by omega) (by omega) (q2.trans w12) (fun j a b => by have e := v12.2 j a (by omega); rw [w12.1 137 2 (by decide), q2.1 137 2 (by decide)] at e; rw [e]; by_cases g : j = i; rw [upr_eqq g]; rw [upr_ne g]; exact q3 j a (by omega)) kx)
set_option maxHeartbeats 1000000 in
theorem c_X9_beginsB {Γ : jE} (hl : Γ.1.stackTraces = false) {s : Nat → Int → Int} {ε : jEps} {d : Nat} (hd : 1 ≤ d) (p0 : s 137 2 = 0 ∨ s 137 2 = 2320 ∨ s 137 2 = 2552) : Con Γ (d, 0, 0) mX9_begins [.ref 137] (jmemB s ε) (RWB (fun s' => MV s' (fun _ => 0) ∧ FrM s s') ε) X0 := by
  refine Con.ofJ (by decide +kernel) (by simp [Value.category]) (Nat.le_of_ble_eq_true rfl) ?_ hl
  refine I.iconst dX9_begins_0 ?_
  refine J.istore_n 1 dX9_begins_1 rfl (by decide) rfl ?_
  refine J.fgt (by exact ⟨Or.inr rfl, Or.inr rfl, trivial⟩) (k_X9_begins_2B hl (by omega) p0 (232) (by omega) (by omega) (FrM.refl s) (fun j a b => by omega) ?_)
  rintro s2 ⟨v2, w2⟩
  exact I.vretQB dX9_begins_21 rfl ⟨v2, w2⟩
set_option maxHeartbeats 1000000 in
theorem c_X9_dealsB {Γ : jE} (hl : Γ.1.stackTraces = false) {s : Nat → Int → Int} {ε : jEps} {d : Nat} {t : Int} {f : Int → Int} (hd : 1 ≤ d) (p0 : MV s f) (p1 : 0 ≤ f 1 ∧ f 1 < 4) : Con Γ (d, 0, 0) mX9_deals [.ref 137, .int (iI t)] (jmemB s ε) (RWB (fun s' => MV s' (gDeal f (f 1) t) ∧ FrM s s') ε) X0 := by
  refine Con.ofJ (by decide +kernel) (by simp [Value.category]) (Nat.le_of_ble_eq_true rfl) ?_ hl
  have ha := MV.at p0
  refine J.aload_n 0 dX9_deals_0 rfl rfl ?_
  refine I.iconst dX9_deals_1 ?_
  refine J.iload_n 1 dX9_deals_2 rfl rfl ?_
  refine I.callV2wB (d' := d - 1) (mi' := mX9_set) dX9_deals_3 lX9_32 eX9_set rfl rfl (c_X9_setB (d := d - 1) hl (by omega) (by first | assumption | exact MW.m (by assumption) | exact MV.th (by assumption) | exact MW.m (MW.th (by assumption))) (by first | omega | assumption)) (show d - 1 + 1 ≤ d from by omega) (Nat.le_of_ble_eq_true rfl) ?_
  rintro s3 ⟨v3, w3⟩
  refine J.aload_n 0 dX9_deals_6 rfl rfl ?_
  refine I.iconst dX9_deals_7 ?_
  refine J.iload_n 1 dX9_deals_8 rfl rfl ?_
  refine I.callV2wB (d' := d - 1) (mi' := mX9_set) dX9_deals_9 lX9_32 eX9_set rfl rfl (c_X9_setB (d := d - 1) hl (by omega) (by first | assumption | exact MW.m (by assumption) | exact MV.th (by assumption) | exact MW.m (MW.th (by assumption))) (by first | omega | assumption)) (show d - 1 + 1 ≤ d from by omega) (Nat.le_of_ble_eq_true rfl) ?_
  rintro s9 ⟨v9, w9⟩
  refine J.aload_n 0 dX9_deals_12 rfl rfl ?_
  refine I.iconst dX9_deals_13 ?_
  refine I.iconst dX9_deals_14 ?_
  refine I.callV2wB (d' := d - 1) (mi' := mX9_set) dX9_deals_15 lX9_32 eX9_set rfl rfl (c_X9_setB (d := d - 1) hl (by omega) (by first | assumption | exact MW.m (by assumption) | exact MV.th (by assumption) | exact MW.m (MW.th (by assumption))) (by first | omega | assumption)) (show d - 1 + 1 ≤ d from by omega) (Nat.le_of_ble_eq_true rfl) ?_
  rintro s15 ⟨v15, w15⟩
  refine J.aload_n 0 dX9_deals_18 rfl rfl ?_
  refine I.iconst dX9_deals_19 ?_
  refine I.iconst dX9_deals_20 ?_
  refine I.callV2wB (d' := d - 1) (mi' := mX9_set) dX9_deals_21 lX9_32 eX9_set rfl rfl (c_X9_setB (d := d - 1) hl (by omega) (by first | assumption | exact MW.m (by assumption) | exact MV.th (by assumption) | exact MW.m (MW.th (by assumption))) (by first | omega | assumption)) (show d - 1 + 1 ≤ d from by omega) (Nat.le_of_ble_eq_true rfl) ?_
  rintro s21 ⟨v21, w21⟩
  refine I.iconst dX9_deals_24 ?_
  refine J.istore_n 2 dX9_deals_25 rfl (by decide) rfl ?_
  refine J.iload_n 2 dX9_deals_26 rfl rfl ?_
  refine I.iconst dX9_deals_27 ?_
  refine I.icmp_ge 72 dX9_deals_28 (by decide) (by omega) (by omega) (fun h28 => ?_) (fun h28 => ?_)
  · exact absurd h28 (by omega)
  · skip
    refine J.aload_n 0 dX9_deals_31 rfl rfl ?_
    refine I.bipush dX9_deals_32 (by decide) ?_
    refine J.iload_n 2 dX9_deals_34 rfl rfl ?_
    refine I.add dX9_deals_35 ?_
    refine I.iconst dX9_deals_36 ?_
    refine I.callV2wB (d' := d - 1) (mi' := mX9_set) dX9_deals_37 lX9_32 eX9_set rfl rfl (c_X9_setB (d := d - 1) hl (by omega) (by first | assumption | exact MW.m (by assumption) | exact MV.th (by assumption) | exact MW.m (MW.th (by assumption))) (by first | omega | assumption)) (show d - 1 + 1 ≤ d from by omega) (Nat.le_of_ble_eq_true rfl) ?_
    rintro s37 ⟨v37, w37⟩
    refine J.aload_n 0 dX9_deals_40 rfl rfl ?_
    refine I.bipush dX9_deals_41 (by decide) ?_
    refine J.iload_n 2 dX9_deals_43 rfl rfl ?_
    refine I.add dX9_deals_44 ?_
    refine J.aload_n 0 dX9_deals_45 rfl rfl ?_
    refine I.bipush dX9_deals_46 (by decide) ?_
    refine I.iconst dX9_deals_48 ?_
    refine J.aload_n 0 dX9_deals_49 rfl rfl ?_
    refine I.iconst dX9_deals_50 ?_
    refine I.callV1iB (d' := d - 1) (mi' := mX9_get) dX9_deals_51 lX9_46 eX9_get rfl rfl (c_X9_getB (d := d - 1) hl (by omega) (by first | assumption | exact MW.m (by assumption) | exact MV.th (by assumption) | exact MW.m (MW.th (by assumption))) (by first | omega | assumption)) (show d - 1 + 1 ≤ d from by omega) (Nat.le_of_ble_eq_true rfl) ?_
    refine I.sx (show _ = f 1 from by (repeat (first | rw [upr_ne (by omega)] | rw [upr_eqq (by omega)])); first | done | rfl | omega | (apply congrArg; omega) | (simp only [upr]; (repeat' split) <;> first | rfl | omega | (congr 1; omega) | (congr 2; omega))) ?_
    refine I.mul dX9_deals_54 ?_
    refine I.add dX9_deals_55 ?_
    refine J.iload_n 2 dX9_deals_56 rfl rfl ?_
    refine I.add dX9_deals_57 ?_
    refine I.callV1iB (d' := d - 1) (mi' := mX9_get) dX9_deals_58 lX9_46 eX9_get rfl rfl (c_X9_getB (d := d - 1) hl (by omega) (by first | assumption | exact MW.m (by assumption) | exact MV.th (by assumption) | exact MW.m (MW.th (by assumption))) (by first | omega | assumption)) (show d - 1 + 1 ≤ d from by omega) (Nat.le_of_ble_eq_true rfl) ?_
    refine I.iconst dX9_deals_61 ?_
    refine I.sub dX9_deals_62 ?_
    refine I.callV2wB (d' := d - 1) (mi' := mX9_set) dX9_deals_63 lX9_32 eX9_set rfl rfl (c_X9_setB (d := d - 1) hl (by omega) (by first | assumption | exact MW.m (by assumption) | exact MV.th (by assumption) | exact MW.m (MW.th (by assumption))) (by first | omega | assumption)) (show d - 1 + 1 ≤ d from by omega) (Nat.le_of_ble_eq_true rfl) ?_
    rintro s63 ⟨v63, w63⟩
    refine I.iinc dX9_deals_66 rfl rfl ?_
    refine J.goto 26 dX9_deals_69 (by decide) ?_
    refine J.iload_n 2 dX9_deals_26 rfl rfl ?_
    refine I.iconst dX9_deals_27 ?_
    refine I.icmp_ge 72 dX9_deals_28 (by decide) (by omega) (by omega) (fun h28 => ?_) (fun h28 => ?_)
    · exact absurd h28 (by omega)
    · skip
      refine J.aload_n 0 dX9_deals_31 rfl rfl ?_
      refine I.bipush dX9_deals_32 (by decide) ?_
      refine J.iload_n 2 dX9_deals_34 rfl rfl ?_
      refine I.add dX9_deals_35 ?_
      refine I.iconst dX9_deals_36 ?_
      refine I.callV2wB (d' := d - 1) (mi' := mX9_set) dX9_deals_37 lX9_32 eX9_set rfl rfl (c_X9_setB (d := d - 1) hl (by omega) (by first | assumption | exact MW.m (by assumption) | exact MV.th (by assumption) | exact MW.m (MW.th (by assumption))) (by first | omega | assumption)) (show d - 1 + 1 ≤ d from by omega) (Nat.le_of_ble_eq_true rfl) ?_
      rintro s37b ⟨v37b, w37b⟩
      refine J.aload_n 0 dX9_deals_40 rfl rfl ?_
      refine I.bipush dX9_deals_41 (by decide) ?_
      refine J.iload_n 2 dX9_deals_43 rfl rfl ?_
      refine I.add dX9_deals_44 ?_
      refine J.aload_n 0 dX9_deals_45 rfl rfl ?_
      refine I.bipush dX9_deals_46 (by decide) ?_
      refine I.iconst dX9_deals_48 ?_
      refine J.aload_n 0 dX9_deals_49 rfl rfl ?_
      refine I.iconst dX9_deals_50 ?_
      refine I.callV1iB (d' := d - 1) (mi' := mX9_get) dX9_deals_51 lX9_46 eX9_get rfl rfl (c_X9_getB (d := d - 1) hl (by omega) (by first | assumption | exact MW.m (by assumption) | exact MV.th (by assumption) | exact MW.m (MW.th (by assumption))) (by first | omega | assumption)) (show d - 1 + 1 ≤ d from by omega) (Nat.le_of_ble_eq_true rfl) ?_
      refine I.sx (show _ = f 1 from by (repeat (first | rw [upr_ne (by omega)] | rw [upr_eqq (by omega)])); first | done | rfl | omega | (apply congrArg; omega) | (simp only [upr]; (repeat' split) <;> first | rfl | omega | (congr 1; omega) | (congr 2; omega))) ?_
      refine I.mul dX9_deals_54 ?_
      refine I.add dX9_deals_55 ?_
      refine J.iload_n 2 dX9_deals_56 rfl rfl ?_
      refine I.add dX9_deals_57 ?_
      refine I.callV1iB (d' := d - 1) (mi' := mX9_get) dX9_deals_58 lX9_46 eX9_get rfl rfl (c_X9_getB (d := d - 1) hl (by omega) (by first | assumption | exact MW.m (by assumption) | exact MV.th (by assumption) | exact MW.m (MW.th (by assumption))) (by first | omega | assumption)) (show d - 1 + 1 ≤ d from by omega) (Nat.le_of_ble_eq_true rfl) ?_
      refine I.iconst dX9_deals_61 ?_
      refine I.sub dX9_deals_62 ?_
      refine I.callV2wB (d' := d - 1) (mi' := mX9_set) dX9_deals_63 lX9_32 eX9_set rfl rfl (c_X9_setB (d := d - 1) hl (by omega) (by first | assumption | exact MW.m (by assumption) | exact MV.th (by assumption) | exact MW.m (MW.th (by assumption))) (by first | omega | assumption)) (show d - 1 + 1 ≤ d from by omega) (Nat.le_of_ble_eq_true rfl) ?_
      rintro s63b ⟨v63b, w63b⟩
      refine I.iinc dX9_deals_66 rfl rfl ?_
      refine J.goto 26 dX9_deals_69 (by decide) ?_
      refine J.iload_n 2 dX9_deals_26 rfl rfl ?_
      refine I.iconst dX9_deals_27 ?_
      refine I.icmp_ge 72 dX9_deals_28 (by decide) (by omega) (by omega) (fun h28 => ?_) (fun h28 => ?_)
      · exact absurd h28 (by omega)
      · skip
        refine J.aload_n 0 dX9_deals_31 rfl rfl ?_
        refine I.bipush dX9_deals_32 (by decide) ?_
        refine J.iload_n 2 dX9_deals_34 rfl rfl ?_
        refine I.add dX9_deals_35 ?_
        refine I.iconst dX9_deals_36 ?_
        refine I.callV2wB (d' := d - 1) (mi' := mX9_set) dX9_deals_37 lX9_32 eX9_set rfl rfl (c_X9_setB (d := d - 1) hl (by omega) (by first | assumption | exact MW.m (by assumption) | exact MV.th (by assumption) | exact MW.m (MW.th (by assumption))) (by first | omega | assumption)) (show d - 1 + 1 ≤ d from by omega) (Nat.le_of_ble_eq_true rfl) ?_
        rintro s37c ⟨v37c, w37c⟩
        refine J.aload_n 0 dX9_deals_40 rfl rfl ?_
        refine I.bipush dX9_deals_41 (by decide) ?_
        refine J.iload_n 2 dX9_deals_43 rfl rfl ?_
        refine I.add dX9_deals_44 ?_
        refine J.aload_n 0 dX9_deals_45 rfl rfl ?_
        refine I.bipush dX9_deals_46 (by decide) ?_
        refine I.iconst dX9_deals_48 ?_
        refine J.aload_n 0 dX9_deals_49 rfl rfl ?_
        refine I.iconst dX9_deals_50 ?_
        refine I.callV1iB (d' := d - 1) (mi' := mX9_get) dX9_deals_51 lX9_46 eX9_get rfl rfl (c_X9_getB (d := d - 1) hl (by omega) (by first | assumption | exact MW.m (by assumption) | exact MV.th (by assumption) | exact MW.m (MW.th (by assumption))) (by first | omega | assumption)) (show d - 1 + 1 ≤ d from by omega) (Nat.le_of_ble_eq_true rfl) ?_
        refine I.sx (show _ = f 1 from by (repeat (first | rw [upr_ne (by omega)] | rw [upr_eqq (by omega)])); first | done | rfl | omega | (apply congrArg; omega) | (simp only [upr]; (repeat' split) <;> first | rfl | omega | (congr 1; omega) | (congr 2; omega))) ?_
        refine I.mul dX9_deals_54 ?_
        refine I.add dX9_deals_55 ?_
        refine J.iload_n 2 dX9_deals_56 rfl rfl ?_
        refine I.add dX9_deals_57 ?_
        refine I.callV1iB (d' := d - 1) (mi' := mX9_get) dX9_deals_58 lX9_46 eX9_get rfl rfl (c_X9_getB (d := d - 1) hl (by omega) (by first | assumption | exact MW.m (by assumption) | exact MV.th (by assumption) | exact MW.m (MW.th (by assumption))) (by first | omega | assumption)) (show d - 1 + 1 ≤ d from by omega) (Nat.le_of_ble_eq_true rfl) ?_
        refine I.iconst dX9_deals_61 ?_
        refine I.sub dX9_deals_62 ?_
        refine I.callV2wB (d' := d - 1) (mi' := mX9_set) dX9_deals_63 lX9_32 eX9_set rfl rfl (c_X9_setB (d := d - 1) hl (by omega) (by first | assumption | exact MW.m (by assumption) | exact MV.th (by assumption) | exact MW.m (MW.th (by assumption))) (by first | omega | assumption)) (show d - 1 + 1 ≤ d from by omega) (Nat.le_of_ble_eq_true rfl) ?_
        rintro s63c ⟨v63c, w63c⟩
        refine I.iinc dX9_deals_66 rfl rfl ?_
        refine J.goto 26 dX9_deals_69 (by decide) ?_
        refine J.iload_n 2 dX9_deals_26 rfl rfl ?_
        refine I.iconst dX9_deals_27 ?_
        refine I.icmp_ge 72 dX9_deals_28 (by decide) (by omega) (by omega) (fun h28 => ?_) (fun h28 => ?_)
        · skip
          exact I.vretQB dX9_deals_72 rfl (by
            refine ⟨v63c.congr fun k k0 k1 => ?_, w3.trans (w9.trans (w15.trans (w21.trans (w37.trans (w63.trans (w37b.trans (w63b.trans (w37c.trans w63c))))))))⟩
            by_cases g : 37 ≤ k ∧ k < 40
            · obtain rfl | rfl | rfl : k = 37 + 0 ∨ k = 37 + (0 + 1) ∨ k = 37 + (0 + 1 + 1) := by omega
              all_goals (rw [gDeal_hi (by omega) (by omega)]; (repeat (first | rw [upr_ne (by omega)] | rw [upr_eqq (by omega)])); first | done | rfl | omega | (apply congrArg; omega) | (simp only [upr]; (repeat' split) <;> first | rfl | omega | (congr 1; omega) | (congr 2; omega)))
            · unfold gDeal
              (repeat' split) <;> ((repeat (first | rw [upr_ne (by omega)] | rw [upr_eqq (by omega)])); first | done | rfl | omega | (apply congrArg; omega) | (simp only [upr]; (repeat' split) <;> first | rfl | omega | (congr 1; omega) | (congr 2; omega))))
        · exact absurd h28 (by omega)
set_option maxHeartbeats 1000000 in
theorem t_X9_initB {Γ : jE} (hl : Γ.1.stackTraces = false) {s : Nat → Int → Int} {ε : jEps} {d : Nat} (hd : 2 ≤ d) (p0 : ∀ j, s 137 j = 0) : J Γ (d, 0, 0) mX9_init 39 [some (.ref 137)] [] (jmemB s ε) (RWB (fun s' => MI s' iA0 ∧ s' 137 0 = 0 ∧ LoE s s' ∧ ∀ q j, 138 < q → s' q j = s q j) ε) X0 := by
  refine J.aload_n 0 dX9_init_39 rfl rfl ?_
  refine I.iconst dX9_init_40 ?_
  refine I.pIB 9 rfl dX9_init_41 jcls fX9_25 rfl (by decide) rfl ?_
  refine J.aload_n 0 dX9_init_44 rfl rfl ?_
  refine I.callV0wB (d' := d - 1) (mi' := mX9_begins) dX9_init_45 lX9_29 eX9_begins rfl rfl (c_X9_beginsB (d := d - 1) hl (by omega) (Or.inl ((up_ne (by omega)).trans (p0 2)))) (show d - 1 + 1 ≤ d from by omega) (Nat.le_of_ble_eq_true rfl) ?_
  rintro s45 ⟨v45, f45⟩
  refine J.aload_n 0 dX9_init_48 rfl rfl ?_
  refine I.iconst dX9_init_49 ?_
  refine I.iconst dX9_init_50 ?_
  refine I.callV2wB (d' := d - 1) (mi' := mX9_set) dX9_init_51 lX9_32 eX9_set rfl rfl (c_X9_setB (d := d - 1) hl (by omega) v45 (by decide)) (show d - 1 + 1 ≤ d from by omega) (Nat.le_of_ble_eq_true rfl) ?_
  rintro s51 ⟨v51, f51⟩
  refine J.aload_n 0 dX9_init_54 rfl rfl ?_
  refine I.bipush dX9_init_55 (by decide) ?_
  refine I.iconst dX9_init_57 ?_
  refine I.callV2wB (d' := d - 1) (mi' := mX9_set) dX9_init_58 lX9_32 eX9_set rfl rfl (c_X9_setB (d := d - 1) hl (by omega) v51 (by decide)) (show d - 1 + 1 ≤ d from by omega) (Nat.le_of_ble_eq_true rfl) ?_
  rintro s58 ⟨v58, f58⟩
  refine J.aload_n 0 dX9_init_61 rfl rfl ?_
  refine I.bipush dX9_init_62 (by decide) ?_
  refine I.iconst dX9_init_64 ?_
  refine I.callV2wB (d' := d - 1) (mi' := mX9_set) dX9_init_65 lX9_32 eX9_set rfl rfl (c_X9_setB (d := d - 1) hl (by omega) v58 (by decide)) (show d - 1 + 1 ≤ d from by omega) (Nat.le_of_ble_eq_true rfl) ?_
  rintro s65 ⟨v65, f65⟩
  refine J.aload_n 0 dX9_init_68 rfl rfl ?_
  refine I.bipush dX9_init_69 (by decide) ?_
  refine I.iconst dX9_init_71 ?_
  refine I.callV2wB (d' := d - 1) (mi' := mX9_set) dX9_init_72 lX9_32 eX9_set rfl rfl (c_X9_setB (d := d - 1) hl (by omega) v65 (by decide)) (show d - 1 + 1 ≤ d from by omega) (Nat.le_of_ble_eq_true rfl) ?_
  rintro s72 ⟨v72, f72⟩
  refine J.aload_n 0 dX9_init_75 rfl rfl ?_
  refine I.bipush dX9_init_76 (by decide) ?_
  refine I.bipush dX9_init_78 (by decide) ?_
  refine I.callV2wB (d' := d - 1) (mi' := mX9_set) dX9_init_80 lX9_32 eX9_set rfl rfl (c_X9_setB (d := d - 1) hl (by omega) v72 (by decide)) (show d - 1 + 1 ≤ d from by omega) (Nat.le_of_ble_eq_true rfl) ?_
  rintro s80 ⟨v80, f80⟩
  refine J.aload_n 0 dX9_init_83 rfl rfl ?_
  refine I.bipush dX9_init_84 (by decide) ?_
  refine I.bipush dX9_init_86 (by decide) ?_
  refine I.callV2wB (d' := d - 1) (mi' := mX9_set) dX9_init_88 lX9_32 eX9_set rfl rfl (c_X9_setB (d := d - 1) hl (by omega) v80 (by decide)) (show d - 1 + 1 ≤ d from by omega) (Nat.le_of_ble_eq_true rfl) ?_
  rintro s88 ⟨v88, f88⟩
  refine J.aload_n 0 dX9_init_91 rfl rfl ?_
  refine I.bipush dX9_init_92 (by decide) ?_
  refine I.bipush dX9_init_94 (by decide) ?_
  refine I.callV2wB (d' := d - 1) (mi' := mX9_set) dX9_init_96 lX9_32 eX9_set rfl rfl (c_X9_setB (d := d - 1) hl (by omega) v88 (by decide)) (show d - 1 + 1 ≤ d from by omega) (Nat.le_of_ble_eq_true rfl) ?_
  rintro s96 ⟨v96, f96⟩
  refine J.aload_n 0 dX9_init_99 rfl rfl ?_
  refine I.bipush dX9_init_100 (by decide) ?_
  refine I.iconst dX9_init_102 ?_
  refine I.callV2wB (d' := d - 1) (mi' := mX9_set) dX9_init_103 lX9_32 eX9_set rfl rfl (c_X9_setB (d := d - 1) hl (by omega) v96 (by decide)) (show d - 1 + 1 ≤ d from by omega) (Nat.le_of_ble_eq_true rfl) ?_
  rintro s103 ⟨v103, f103⟩
  refine J.aload_n 0 dX9_init_106 rfl rfl ?_
  refine I.bipush dX9_init_107 (by decide) ?_
  refine I.bipush dX9_init_109 (by decide) ?_
  refine I.callV2wB (d' := d - 1) (mi' := mX9_set) dX9_init_111 lX9_32 eX9_set rfl rfl (c_X9_setB (d := d - 1) hl (by omega) v103 (by decide)) (show d - 1 + 1 ≤ d from by omega) (Nat.le_of_ble_eq_true rfl) ?_
  rintro s111 ⟨v111, f111⟩
  refine J.aload_n 0 dX9_init_114 rfl rfl ?_
  refine I.bipush dX9_init_115 (by decide) ?_
  refine I.bipush dX9_init_117 (by decide) ?_
  refine I.callV2wB (d' := d - 1) (mi' := mX9_set) dX9_init_119 lX9_32 eX9_set rfl rfl (c_X9_setB (d := d - 1) hl (by omega) v111 (by decide)) (show d - 1 + 1 ≤ d from by omega) (Nat.le_of_ble_eq_true rfl) ?_
  rintro s119 ⟨v119, f119⟩
  refine J.aload_n 0 dX9_init_122 rfl rfl ?_
  refine I.iconst dX9_init_123 ?_
  refine I.callV1wB (d' := d - 1) (mi' := mX9_deals) dX9_init_124 lX9_36 eX9_deals rfl rfl (c_X9_dealsB (d := d - 1) hl (by omega) (show MV s119 iM10 from v119) (by decide +kernel)) (show d - 1 + 1 ≤ d from by omega) (Nat.le_of_ble_eq_true rfl) ?_
  rintro s124 ⟨v124, f124⟩
  have e0 : FrM (up s 137 9 (-1)) s124 := (((((((((((f45).trans f51).trans f58).trans f65).trans f72).trans f80).trans f88).trans f96).trans f103).trans f111).trans f119).trans f124
  have e1 := e0.1
  have e2 : iM10 1 = 0 := by decide +kernel
  rw [e2] at v124
  have a2 : s124 137 2 = 0 := (e1 137 2 (by decide)).trans ((up_ne (by omega)).trans (p0 2))
  exact I.vretQB dX9_init_127 rfl ⟨⟨a2, fun k x y => (by have z := v124.2 k x y; rw [a2, Int.zero_add] at z; exact z), ⟨(e1 137 3 (by decide)).trans ((up_ne (by omega)).trans (p0 3)), by have x : s124 137 4 = 0 := (e1 137 4 (by decide)).trans ((up_ne (by omega)).trans (p0 4)); omega, by have x : s124 137 4 = 0 := (e1 137 4 (by decide)).trans ((up_ne (by omega)).trans (p0 4)); omega, fun k k0 (k1 : k < 0) => by omega⟩, ⟨(e1 137 5 (by decide)).trans ((up_ne (by omega)).trans (p0 5)), fun (b : (0 : Int) = 1) => absurd b (by decide)⟩, TX.nil ((e1 137 11 (by decide)).trans ((up_ne (by omega)).trans (p0 11))), ⟨(e1 137 7 (by decide)).trans ((up_ne (by omega)).trans (p0 7)), fun i i0 (i1 : i < 0) => by omega⟩, (e1 137 8 (by decide)).trans ((up_ne (by omega)).trans (p0 8)), (e1 137 9 (by decide)).trans (up_eq _ _ _ _)⟩, (e1 137 0 (by decide)).trans ((up_ne (by omega)).trans (p0 0)), fun q j x => (e1 q j (by omega)).trans (up_ne (by omega)), fun q j x => (e1 q j (by omega)).trans (up_ne (by omega))⟩

set_option maxHeartbeats 4000000 in
set_option maxRecDepth 100000 in
theorem c_X9_init {Γ : jE} (hl : Γ.1.stackTraces = false) {d : Nat} {s : Nat → Int → Int} (hd : 3 ≤ d) (h0 : CT 138 lA s) (hz : ∀ j, s 137 j = 0) : Con Γ (d, 4, 527772) mX9_init [.ref 137] (jmT 138 lA s) (fun v M' => v = none ∧ ∃ s', M' = jmT 142 lB s' ∧ CT 142 lB s' ∧ (MI s' iA0 ∧ s' 137 0 = 0 ∧ LoE s s')) X0 := by
  refine Con.ofJ (by decide +kernel) (by simp [Value.category]) (Nat.le_of_ble_eq_true rfl) ?_ hl
  refine J.aload_n 0 dX9_init_0 rfl rfl ?_
  refine J.objInit dX9_init_1 lX9_1 oi_1 oi_2 (Nat.le_of_ble_eq_true rfl) ?_
  refine J.aload_n 0 dX9_init_4 rfl rfl ?_
  refine I.sipush dX9_init_5 (by decide) ?_
  refine K.newI h0 (N' := 139) rfl 2784 dX9_init_8 rfl rfl (by decide) (by decide) (show 1 ≤ 4 ∧ 2784 ≤ 527772 from by decide) fun h1 => ?_
  refine K.putR h1 dX9_init_10 fX9_7 rfl (by decide) (by decide) rfl rfl rfl (fun _ => ⟨rfl, rfl⟩) (by decide) fun h2 => ?_
  refine J.aload_n 0 dX9_init_13 rfl rfl ?_
  refine I.sipush dX9_init_14 (by decide) ?_
  refine K.newB h2 (N' := 140) rfl 500 dX9_init_17 rfl rfl (by decide) (by decide) (show 1 ≤ 4 - 1 ∧ 500 ≤ 527772 - 2784 from by decide) fun h3 => ?_
  refine K.putR h3 dX9_init_19 fX9_13 rfl (by decide) (by decide) rfl rfl rfl (fun _ => ⟨rfl, rfl⟩) (by decide) fun h4 => ?_
  refine J.aload_n 0 dX9_init_22 rfl rfl ?_
  refine I.sipush dX9_init_23 (by decide) ?_
  refine K.newC h4 (N' := 141) rfl 200 dX9_init_26 rfl rfl (by decide) (by decide) (show 1 ≤ 4 - 1 - 1 ∧ 200 ≤ 527772 - 2784 - 500 from by decide) fun h5 => ?_
  refine K.putR h5 dX9_init_28 fX9_17 rfl (by decide) (by decide) rfl rfl rfl (fun _ => ⟨rfl, rfl⟩) (by decide) fun h6 => ?_
  refine J.aload_n 0 dX9_init_31 rfl rfl ?_
  refine J.ldc (iI (524288)) dX9_init_32 qX9_21 ?_
  refine K.newI h6 (N' := 142) rfl 524288 dX9_init_34 rfl rfl (by decide) (by decide) (show 1 ≤ 4 - 1 - 1 - 1 ∧ 524288 ≤ 527772 - 2784 - 500 - 200 from by decide) fun h7 => ?_
  refine K.putR h7 dX9_init_36 fX9_22 rfl (by decide) (by decide) rfl rfl rfl (fun _ => ⟨rfl, rfl⟩) (by decide) fun h8 => ?_
  refine J.mono (t_X9_initB (s := s) (ε := (fun _ _ => 0, fun _ _ => 0)) hl (by omega) hz) (fun v M' h => ?_) (fun _ _ h => h) ⟨show d ≤ d from Nat.le_refl d, Nat.zero_le _, Nat.zero_le _⟩
  obtain ⟨s', rfl, rfl, m, z, f, f2⟩ := h
  exact ⟨rfl, s', rfl, ⟨h8.1, h8.2.1, fun q i hq => (f2 q i (by omega)).trans (h8.2.2 q i hq)⟩, m, z, f⟩
