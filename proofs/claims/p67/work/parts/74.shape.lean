def lA : List (Nat × Nat × Nat) := [(0, 11, 135), (135, 0, 136), (0, 9, 127), (127, 12, 134), (127, 11, 133), (127, 10, 132), (127, 9, 131), (127, 8, 130), (127, 7, 129), (127, 6, 128), (0, 8, 61), (62, 7, 119), (119, 12, 126), (119, 11, 125), (119, 10, 124), (119, 9, 123), (119, 8, 122), (119, 7, 121), (119, 6, 120), (62, 6, 111), (111, 12, 118), (111, 11, 117), (111, 10, 116), (111, 9, 115), (111, 8, 114), (111, 7, 113), (111, 6, 112), (62, 5, 103), (103, 12, 110), (103, 11, 109), (103, 10, 108), (103, 9, 107), (103, 8, 106), (103, 7, 105), (103, 6, 104), (62, 4, 95), (95, 12, 102), (95, 11, 101), (95, 10, 100), (95, 9, 99), (95, 8, 98), (95, 7, 97), (95, 6, 96), (62, 3, 87), (87, 12, 94), (87, 11, 93), (87, 10, 92), (87, 9, 91), (87, 8, 90), (87, 7, 89), (87, 6, 88), (62, 2, 79), (79, 12, 86), (79, 11, 85), (79, 10, 84), (79, 9, 83), (79, 8, 82), (79, 7, 81), (79, 6, 80), (62, 1, 71), (71, 12, 78), (71, 11, 77), (71, 10, 76), (71, 9, 75), (71, 8, 74), (71, 7, 73), (71, 6, 72), (62, 0, 63), (63, 12, 70), (63, 11, 69), (63, 10, 68), (63, 9, 67), (63, 8, 66), (63, 7, 65), (63, 6, 64), (61, 0, 62), (0, 7, 51), (51, 8, 60), (51, 7, 59), (51, 6, 58), (51, 5, 57), (51, 4, 56), (51, 3, 55), (51, 2, 54), (51, 1, 53), (51, 0, 52), (0, 6, 36), (36, 1, 43), (43, 12, 50), (43, 11, 49), (43, 10, 48), (43, 9, 47), (43, 8, 46), (43, 7, 45), (43, 6, 44), (36, 0, 37), (37, 5, 42), (37, 4, 41), (37, 3, 40), (37, 2, 39), (37, 1, 38), (0, 5, 21), (21, 1, 28), (28, 12, 35), (28, 11, 34), (28, 10, 33), (28, 9, 32), (28, 8, 31), (28, 7, 30), (28, 6, 29), (21, 0, 22), (22, 5, 27), (22, 4, 26), (22, 3, 25), (22, 2, 24), (22, 1, 23), (0, 4, 2), (2, 2, 20), (2, 1, 18), (18, 0, 19), (2, 0, 3), (3, 1, 10), (10, 12, 17), (10, 11, 16), (10, 10, 15), (10, 9, 14), (10, 8, 13), (10, 7, 12), (10, 6, 11), (3, 0, 4), (4, 5, 9), (4, 4, 8), (4, 3, 7), (4, 2, 6), (4, 1, 5), (0, 0, 1)]
def jshA : List (Nat × Nat) := jsh.take 137
def jtauA : Nat → Nat → Option Nat := tL [(0, 11, 135), (135, 0, 136), (0, 9, 127), (127, 12, 134), (127, 11, 133), (127, 10, 132), (127, 9, 131), (127, 8, 130), (127, 7, 129), (127, 6, 128), (0, 8, 61), (62, 7, 119), (119, 12, 126), (119, 11, 125), (119, 10, 124), (119, 9, 123), (119, 8, 122), (119, 7, 121), (119, 6, 120), (62, 6, 111), (111, 12, 118), (111, 11, 117), (111, 10, 116), (111, 9, 115), (111, 8, 114), (111, 7, 113), (111, 6, 112), (62, 5, 103), (103, 12, 110), (103, 11, 109), (103, 10, 108), (103, 9, 107), (103, 8, 106), (103, 7, 105), (103, 6, 104), (62, 4, 95), (95, 12, 102), (95, 11, 101), (95, 10, 100), (95, 9, 99), (95, 8, 98), (95, 7, 97), (95, 6, 96), (62, 3, 87), (87, 12, 94), (87, 11, 93), (87, 10, 92), (87, 9, 91), (87, 8, 90), (87, 7, 89), (87, 6, 88), (62, 2, 79), (79, 12, 86), (79, 11, 85), (79, 10, 84), (79, 9, 83), (79, 8, 82), (79, 7, 81), (79, 6, 80), (62, 1, 71), (71, 12, 78), (71, 11, 77), (71, 10, 76), (71, 9, 75), (71, 8, 74), (71, 7, 73), (71, 6, 72), (62, 0, 63), (63, 12, 70), (63, 11, 69), (63, 10, 68), (63, 9, 67), (63, 8, 66), (63, 7, 65), (63, 6, 64), (61, 0, 62), (0, 7, 51), (51, 8, 60), (51, 7, 59), (51, 6, 58), (51, 5, 57), (51, 4, 56), (51, 3, 55), (51, 2, 54), (51, 1, 53), (51, 0, 52), (0, 6, 36), (36, 1, 43), (43, 12, 50), (43, 11, 49), (43, 10, 48), (43, 9, 47), (43, 8, 46), (43, 7, 45), (43, 6, 44), (36, 0, 37), (37, 5, 42), (37, 4, 41), (37, 3, 40), (37, 2, 39), (37, 1, 38), (0, 5, 21), (21, 1, 28), (28, 12, 35), (28, 11, 34), (28, 10, 33), (28, 9, 32), (28, 8, 31), (28, 7, 30), (28, 6, 29), (21, 0, 22), (22, 5, 27), (22, 4, 26), (22, 3, 25), (22, 2, 24), (22, 1, 23), (0, 4, 2), (2, 2, 20), (2, 1, 18), (18, 0, 19), (2, 0, 3), (3, 1, 10), (10, 12, 17), (10, 11, 16), (10, 10, 15), (10, 9, 14), (10, 8, 13), (10, 7, 12), (10, 6, 11), (3, 0, 4), (4, 5, 9), (4, 4, 8), (4, 3, 7), (4, 2, 6), (4, 1, 5), (0, 0, 1)]
section ZA1
variable {Γ : jE} {b : Nat × Nat × Nat} {mi : jMI} {pc : Nat} {L : List (Option Value)} {S : List Value} {M : jM} {P : Option Value → jM → Prop} {X : String → jM → Prop}
def jmemA (s : Nat → Int → Int) (ε : jEps) : jM := (jshA, jtauA, fun q k => iI (s q k), ε)
theorem jmem_putA {s : Nat → Int → Int} {ε : jEps} {q k : Nat} {z : Int} : ((jmemA s ε).1, (jmemA s ε).2.1, jup2 (jmemA s ε).2.2.1 q k (iI z), (jmemA s ε).2.2.2) = jmemA (up s q k z) ε := by
  unfold jmemA
  congr 3
  funext a i
  unfold jup2 up
  by_cases h : a = q ∧ i = k
  · rw [if_pos h, if_pos (by omega)]
  · rw [if_neg h, if_neg (by omega)]
end ZA1
section ZA2
variable {Γ : jE} {b : Nat × Nat × Nat} {mi : jMI} {pc : Nat} {L : List (Option Value)} {S : List Value} {M : jM} {P : Option Value → jM → Prop} {X : String → jM → Prop}
variable {s : Nat → Int → Int} {ε : jEps}
theorem I.getIA {q idx ci k n : Nat} {ty : FieldType} {fin : Bool} (d : decode mi.2.1 pc = .ok (.getfield idx, 3)) (hcl : jCls) (f : jFld mi.1.cls idx ci k ty fin) (hs : jshA[q]? = some (ci, n)) (hn : k < n) (hr : jrf ci k = false) (kk : J Γ b mi (pc + 3) L (.int (iI (s q k)) :: S) (jmemA s ε) P X) : J Γ b mi pc L (.ref q :: S) (jmemA s ε) P X := J.getI hcl d f hs hn hr kk
theorem I.getRA {q idx ci k n r : Nat} {ty : FieldType} {fin : Bool} (d : decode mi.2.1 pc = .ok (.getfield idx, 3)) (hcl : jCls) (f : jFld mi.1.cls idx ci k ty fin) (hs : jshA[q]? = some (ci, n)) (hn : k < n) (hr : jrf ci k = true) (hv : jtauA q k = some r) (kk : J Γ b mi (pc + 3) L (.ref r :: S) (jmemA s ε) P X) : J Γ b mi pc L (.ref q :: S) (jmemA s ε) P X := J.getR hcl d f hs hn hr hv kk
theorem I.putIA {q idx ci k n : Nat} {x : Int} (d : decode mi.2.1 pc = .ok (.putfield idx, 3)) (hcl : jCls) (f : jFld mi.1.cls idx ci k .int false) (hs : jshA[q]? = some (ci, n)) (hn : k < n) (hr : jrf ci k = false) (kk : J Γ b mi (pc + 3) L S (jmemA (up s q k x) ε) P X) : J Γ b mi pc L (.int (iI x) :: .ref q :: S) (jmemA s ε) P X := J.putI hcl d f hs hn hr rfl rfl (by rw [jmem_putA]; exact kk)
theorem I.putZA {q idx ci k n : Nat} {x : Int} (d : decode mi.2.1 pc = .ok (.putfield idx, 3)) (hcl : jCls) (f : jFld mi.1.cls idx ci k .boolean false) (hs : jshA[q]? = some (ci, n)) (hn : k < n) (hr : jrf ci k = false) (hx : x = 0 ∨ x = 1) (kk : J Γ b mi (pc + 3) L S (jmemA (up s q k x) ε) P X) : J Γ b mi pc L (.int (iI x) :: .ref q :: S) (jmemA s ε) P X := J.putI hcl d f hs hn hr (iI_bool hx).1 (iI_bool hx).2 (by rw [jmem_putA]; exact kk)
theorem I.ialdA {q n : Nat} {i : Int} (d : decode mi.2.1 pc = .ok (.iaload, 1)) (hs : jshA[q]? = some (100, n)) (hn : n < 2147483648) (hi : 0 ≤ i ∧ i < n) (kk : J Γ b mi (pc + 1) L (.int (iI (s q i)) :: S) (jmemA s ε) P X) : J Γ b mi pc L (.int (iI i) :: .ref q :: S) (jmemA s ε) P X :=
  J.iald d hs (iI_in hi hn) (by rw [iI_clamp (by omega)]; show J Γ b mi (pc + 1) L (.int (iI (s q (i.toNat : Int))) :: S) (jmemA s ε) P X; rw [Int.toNat_of_nonneg hi.1]; exact kk)
theorem I.iastA {q n : Nat} {i x : Int} (d : decode mi.2.1 pc = .ok (.iastore, 1)) (hs : jshA[q]? = some (100, n)) (hn : n < 2147483648) (hi : 0 ≤ i ∧ i < n) (kk : J Γ b mi (pc + 1) L S (jmemA (up s q i x) ε) P X) : J Γ b mi pc L (.int (iI x) :: .int (iI i) :: .ref q :: S) (jmemA s ε) P X :=
  J.iast d hs (iI_in hi hn) (by rw [iI_clamp (by omega), jmem_putA, Int.toNat_of_nonneg hi.1]; exact kk)
theorem I.alenA {q t n : Nat} (d : decode mi.2.1 pc = .ok (.arraylength, 1)) (hs : jshA[q]? = some (t, n)) (ht : 100 ≤ t) (kk : J Γ b mi (pc + 1) L (.int (iI (n : Int)) :: S) (jmemA s ε) P X) : J Γ b mi pc L (.ref q :: S) (jmemA s ε) P X := J.alen d hs ht kk
/-- what a method answers: an int, nothing -/
def RIA (r : Int) (s : Nat → Int → Int) (ε : jEps) : Option Value → jM → Prop := fun v M => v = some (.int (iI r)) ∧ M = jmemA s ε
def RVA (s : Nat → Int → Int) (ε : jEps) : Option Value → jM → Prop := fun v M => v = none ∧ M = jmemA s ε
theorem I.iretIA {x r : Int} {s' : Nat → Int → Int} (d : decode mi.2.1 pc = .ok (.ireturn, 1)) (hr : mi.2.2.2 = some .int) (hx : x = r) (hs : s = s') : J Γ b mi pc L [.int (iI x)] (jmemA s ε) (RIA r s' ε) X := by subst hx; subst hs; exact I.iret d hr ⟨rfl, rfl⟩
theorem I.vretA {s' : Nat → Int → Int} (d : decode mi.2.1 pc = .ok (.return_, 1)) (hr : mi.2.2.2 = none) (hs : s = s') : J Γ b mi pc L [] (jmemA s ε) (RVA s' ε) X := by subst hs; exact J.vret hr d ⟨rfl, rfl⟩
theorem I.callV0iA {q : Nat} {idx d' : Nat}{mi' : jMI} {r : Int} {s' : Nat → Int → Int} (d : decode mi.2.1 pc = .ok (.invokevirtual idx, 3)) (hl : Cond.methodLink mi.1.cls idx mi'.1 ∈ jG) (hs : jVE mi' 0) {ci n : Nat} (hq : jshA[q]? = some (ci, n)) (hqc : (vwCl[ci]?).map (fun z => z.1) = some mi'.1.cls) (hc : Con Γ (d', 0, 0) mi' [.ref q] (jmemA s ε) (RIA r s' ε) X0) (hb : d' + 1 ≤ b.1) (hcat : (S.map fun v => v.category).sum ≤ 8) (k : J Γ b mi (pc + 3) L (.int (iI r) :: S) (jmemA s' ε) P X) : J Γ b mi pc L (.ref q :: S) (jmemA s ε) P X :=
  J.callV [] d hl hs hq hqc ⟨hb, Nat.zero_le _, Nat.zero_le _⟩ hc hXX hcat (by rintro v M' ⟨rfl, rfl⟩; exact k)
theorem I.callV0vA {q : Nat} {idx d' : Nat}{mi' : jMI} {s' : Nat → Int → Int} (d : decode mi.2.1 pc = .ok (.invokevirtual idx, 3)) (hl : Cond.methodLink mi.1.cls idx mi'.1 ∈ jG) (hs : jVE mi' 0) {ci n : Nat} (hq : jshA[q]? = some (ci, n)) (hqc : (vwCl[ci]?).map (fun z => z.1) = some mi'.1.cls) (hc : Con Γ (d', 0, 0) mi' [.ref q] (jmemA s ε) (RVA s' ε) X0) (hb : d' + 1 ≤ b.1) (hcat : (S.map fun v => v.category).sum ≤ 8) (k : J Γ b mi (pc + 3) L (S) (jmemA s' ε) P X) : J Γ b mi pc L (.ref q :: S) (jmemA s ε) P X :=
  J.callV [] d hl hs hq hqc ⟨hb, Nat.zero_le _, Nat.zero_le _⟩ hc hXX hcat (by rintro v M' ⟨rfl, rfl⟩; exact k)
theorem I.callV2iA {q : Nat} {idx d' : Nat}{mi' : jMI} {a0 : Value} {a1 : Value} {r : Int} {s' : Nat → Int → Int} (d : decode mi.2.1 pc = .ok (.invokevirtual idx, 3)) (hl : Cond.methodLink mi.1.cls idx mi'.1 ∈ jG) (hs : jVE mi' 2) {ci n : Nat} (hq : jshA[q]? = some (ci, n)) (hqc : (vwCl[ci]?).map (fun z => z.1) = some mi'.1.cls) (hc : Con Γ (d', 0, 0) mi' [.ref q, a0, a1] (jmemA s ε) (RIA r s' ε) X0) (hb : d' + 1 ≤ b.1) (hcat : (S.map fun v => v.category).sum ≤ 8) (k : J Γ b mi (pc + 3) L (.int (iI r) :: S) (jmemA s' ε) P X) : J Γ b mi pc L (a1 :: a0 :: .ref q :: S) (jmemA s ε) P X :=
  J.callV [a0, a1] d hl hs hq hqc ⟨hb, Nat.zero_le _, Nat.zero_le _⟩ hc hXX hcat (by rintro v M' ⟨rfl, rfl⟩; exact k)
theorem I.callV3iA {q : Nat} {idx d' : Nat}{mi' : jMI} {a0 : Value} {a1 : Value} {a2 : Value} {r : Int} {s' : Nat → Int → Int} (d : decode mi.2.1 pc = .ok (.invokevirtual idx, 3)) (hl : Cond.methodLink mi.1.cls idx mi'.1 ∈ jG) (hs : jVE mi' 3) {ci n : Nat} (hq : jshA[q]? = some (ci, n)) (hqc : (vwCl[ci]?).map (fun z => z.1) = some mi'.1.cls) (hc : Con Γ (d', 0, 0) mi' [.ref q, a0, a1, a2] (jmemA s ε) (RIA r s' ε) X0) (hb : d' + 1 ≤ b.1) (hcat : (S.map fun v => v.category).sum ≤ 8) (k : J Γ b mi (pc + 3) L (.int (iI r) :: S) (jmemA s' ε) P X) : J Γ b mi pc L (a2 :: a1 :: a0 :: .ref q :: S) (jmemA s ε) P X :=
  J.callV [a0, a1, a2] d hl hs hq hqc ⟨hb, Nat.zero_le _, Nat.zero_le _⟩ hc hXX hcat (by rintro v M' ⟨rfl, rfl⟩; exact k)
theorem I.callSN2iA {idx d' : Nat} {host : String}{mi' : jMI} {a0 : Value} {a1 : Value} {r : Int} {s' : Nat → Int → Int} (d : decode mi.2.1 pc = .ok (.invokestatic idx, 3)) (hl : Cond.methodLinkNest mi.1.cls idx mi'.1 host ∈ lw_tbl) (hs : jSE mi' 2) (hc : Con Γ (d', 0, 0) mi' [a0, a1] (jmemA s ε) (RIA r s' ε) X0) (hb : d' + 1 ≤ b.1) (hcat : (S.map fun v => v.category).sum ≤ 8) (k : J Γ b mi (pc + 3) L (.int (iI r) :: S) (jmemA s' ε) P X) : J Γ b mi pc L (a1 :: a0 :: S) (jmemA s ε) P X :=
  J.callSN [a0, a1] d hl hs ⟨hb, Nat.zero_le _, Nat.zero_le _⟩ hc hX0 hXX hcat (by rintro v M' ⟨rfl, rfl⟩; exact k)
theorem I.callSN3vA {idx d' : Nat} {host : String}{mi' : jMI} {a0 : Value} {a1 : Value} {a2 : Value} {s' : Nat → Int → Int} (d : decode mi.2.1 pc = .ok (.invokestatic idx, 3)) (hl : Cond.methodLinkNest mi.1.cls idx mi'.1 host ∈ lw_tbl) (hs : jSE mi' 3) (hc : Con Γ (d', 0, 0) mi' [a0, a1, a2] (jmemA s ε) (RVA s' ε) X0) (hb : d' + 1 ≤ b.1) (hcat : (S.map fun v => v.category).sum ≤ 8) (k : J Γ b mi (pc + 3) L (S) (jmemA s' ε) P X) : J Γ b mi pc L (a2 :: a1 :: a0 :: S) (jmemA s ε) P X :=
  J.callSN [a0, a1, a2] d hl hs ⟨hb, Nat.zero_le _, Nat.zero_le _⟩ hc hX0 hXX hcat (by rintro v M' ⟨rfl, rfl⟩; exact k)
end ZA2
section ZA3
variable {Γ : jE} {b : Nat × Nat × Nat} {mi : jMI} {pc : Nat} {L : List (Option Value)} {S : List Value} {M : jM} {P : Option Value → jM → Prop} {X : String → jM → Prop} {s : Nat → Int → Int} {ε : jEps}
def RWA (Q : (Nat → Int → Int) → Prop) (ε : jEps) : Option Value → jM → Prop := fun v M => ∃ s', v = none ∧ M = jmemA s' ε ∧ Q s'
theorem I.gIA {q idx ci k n : Nat} {ty : FieldType} {fin : Bool} (i : Int) (hi : ((k : Nat) : Int) = i) (d : decode mi.2.1 pc = .ok (.getfield idx, 3)) (hcl : jCls) (f : jFld mi.1.cls idx ci k ty fin) (hs : jshA[q]? = some (ci, n)) (hn : k < n) (hr : jrf ci k = false) (kk : J Γ b mi (pc + 3) L (.int (iI (s q i)) :: S) (jmemA s ε) P X) : J Γ b mi pc L (.ref q :: S) (jmemA s ε) P X := by
  subst hi; exact I.getIA d hcl f hs hn hr kk
theorem I.pIA {q idx ci k n : Nat} {x : Int} (i : Int) (hi : ((k : Nat) : Int) = i) (d : decode mi.2.1 pc = .ok (.putfield idx, 3)) (hcl : jCls) (f : jFld mi.1.cls idx ci k .int false) (hs : jshA[q]? = some (ci, n)) (hn : k < n) (hr : jrf ci k = false) (kk : J Γ b mi (pc + 3) L S (jmemA (up s q i x) ε) P X) : J Γ b mi pc L (.int (iI x) :: .ref q :: S) (jmemA s ε) P X := by
  subst hi; exact I.putIA d hcl f hs hn hr kk
theorem I.pZA {q idx ci k n : Nat} {x : Int} (i : Int) (hi : ((k : Nat) : Int) = i) (d : decode mi.2.1 pc = .ok (.putfield idx, 3)) (hcl : jCls) (f : jFld mi.1.cls idx ci k .boolean false) (hs : jshA[q]? = some (ci, n)) (hn : k < n) (hr : jrf ci k = false) (hx : x = 0 ∨ x = 1) (kk : J Γ b mi (pc + 3) L S (jmemA (up s q i x) ε) P X) : J Γ b mi pc L (.int (iI x) :: .ref q :: S) (jmemA s ε) P X := by
  subst hi; exact I.putZA d hcl f hs hn hr hx kk
theorem I.vretQA {Q : (Nat → Int → Int) → Prop} (d : decode mi.2.1 pc = .ok (.return_, 1)) (hr : mi.2.2.2 = none) (hq : Q s) : J Γ b mi pc L [] (jmemA s ε) (RWA Q ε) X := J.vret hr d ⟨s, rfl, rfl, hq⟩
theorem I.callV0wA {q : Nat} {idx d' : Nat}{mi' : jMI} {Q : (Nat → Int → Int) → Prop} (d : decode mi.2.1 pc = .ok (.invokevirtual idx, 3)) (hl : Cond.methodLink mi.1.cls idx mi'.1 ∈ jG) (hs : jVE mi' 0) {ci n : Nat} (hq : jshA[q]? = some (ci, n)) (hqc : (vwCl[ci]?).map (fun z => z.1) = some mi'.1.cls) (hc : Con Γ (d', 0, 0) mi' [.ref q] (jmemA s ε) (RWA Q ε) X0) (hb : d' + 1 ≤ b.1) (hcat : (S.map fun v => v.category).sum ≤ 8) (k : ∀ s', Q s' → J Γ b mi (pc + 3) L (S) (jmemA s' ε) P X) : J Γ b mi pc L (.ref q :: S) (jmemA s ε) P X :=
  J.callV [] d hl hs hq hqc ⟨hb, Nat.zero_le _, Nat.zero_le _⟩ hc hXX hcat (by rintro v M' ⟨s', rfl, rfl, hq⟩; exact k s' hq)
theorem I.callV2wA {q : Nat} {idx d' : Nat}{mi' : jMI} {a0 : Value} {a1 : Value} {Q : (Nat → Int → Int) → Prop} (d : decode mi.2.1 pc = .ok (.invokevirtual idx, 3)) (hl : Cond.methodLink mi.1.cls idx mi'.1 ∈ jG) (hs : jVE mi' 2) {ci n : Nat} (hq : jshA[q]? = some (ci, n)) (hqc : (vwCl[ci]?).map (fun z => z.1) = some mi'.1.cls) (hc : Con Γ (d', 0, 0) mi' [.ref q, a0, a1] (jmemA s ε) (RWA Q ε) X0) (hb : d' + 1 ≤ b.1) (hcat : (S.map fun v => v.category).sum ≤ 8) (k : ∀ s', Q s' → J Γ b mi (pc + 3) L (S) (jmemA s' ε) P X) : J Γ b mi pc L (a1 :: a0 :: .ref q :: S) (jmemA s ε) P X :=
  J.callV [a0, a1] d hl hs hq hqc ⟨hb, Nat.zero_le _, Nat.zero_le _⟩ hc hXX hcat (by rintro v M' ⟨s', rfl, rfl, hq⟩; exact k s' hq)
end ZA3
theorem shMA {m : Nat} (h : jIsM m) : jshA[m]? = some (2, 2) := by rcases h with rfl | rfl | rfl <;> rfl
theorem taM0A {m : Nat} (h : jIsM m) : jtauA m 0 = some (m+1) := by rcases h with rfl | rfl | rfl <;> rfl
theorem taM1A {m : Nat} (h : jIsM m) : jtauA m 1 = some (m+7) := by rcases h with rfl | rfl | rfl <;> rfl
theorem shLA {m : Nat} (h : jIsM m) : jshA[m+1]? = some (1, 6) := by rcases h with rfl | rfl | rfl <;> rfl
theorem shSA {m : Nat} (h : jIsM m) : jshA[m+7]? = some (6, 13) := by rcases h with rfl | rfl | rfl <;> rfl
theorem shS6A {m : Nat} (h : jIsM m) : jshA[m+8]? = some (100, 3) := by rcases h with rfl | rfl | rfl <;> rfl
theorem taS6A {m : Nat} (h : jIsM m) : jtauA (m+7) 6 = some (m+8) := by rcases h with rfl | rfl | rfl <;> rfl
theorem shS7A {m : Nat} (h : jIsM m) : jshA[m+9]? = some (100, 3) := by rcases h with rfl | rfl | rfl <;> rfl
theorem taS7A {m : Nat} (h : jIsM m) : jtauA (m+7) 7 = some (m+9) := by rcases h with rfl | rfl | rfl <;> rfl
theorem shYA {y : Nat} (h : jIsY y) : jshA[y]? = some (1, 6) := by rcases h with rfl | rfl | rfl <;> rfl
theorem shY1A {y : Nat} (h : jIsY y) : jshA[y+1]? = some (100, 4) := by rcases h with rfl | rfl | rfl <;> rfl
theorem taY1A {y : Nat} (h : jIsY y) : jtauA y 1 = some (y+1) := by rcases h with rfl | rfl | rfl <;> rfl
theorem shY2A {y : Nat} (h : jIsY y) : jshA[y+2]? = some (100, 12) := by rcases h with rfl | rfl | rfl <;> rfl
theorem taY2A {y : Nat} (h : jIsY y) : jtauA y 2 = some (y+2) := by rcases h with rfl | rfl | rfl <;> rfl
theorem shY3A {y : Nat} (h : jIsY y) : jshA[y+3]? = some (100, 96) := by rcases h with rfl | rfl | rfl <;> rfl
theorem taY3A {y : Nat} (h : jIsY y) : jtauA y 3 = some (y+3) := by rcases h with rfl | rfl | rfl <;> rfl
theorem shY4A {y : Nat} (h : jIsY y) : jshA[y+4]? = some (100, 96) := by rcases h with rfl | rfl | rfl <;> rfl
theorem taY4A {y : Nat} (h : jIsY y) : jtauA y 4 = some (y+4) := by rcases h with rfl | rfl | rfl <;> rfl
theorem shY5A {y : Nat} (h : jIsY y) : jshA[y+5]? = some (100, 96) := by rcases h with rfl | rfl | rfl <;> rfl
theorem taY5A {y : Nat} (h : jIsY y) : jtauA y 5 = some (y+5) := by rcases h with rfl | rfl | rfl <;> rfl
theorem shTA {t : Nat} (h : jIsT t) : jshA[t]? = some (6, 13) := jIsT_all (p := fun t => jshA[t]? = some (6, 13)) rfl rfl rfl rfl (by decide) h
theorem shT8A {t : Nat} (h : jIsT t) : jshA[t+3]? = some (100, 8) := jIsT_all (p := fun t => jshA[t+3]? = some (100, 8)) rfl rfl rfl rfl (by decide) h
theorem taT8A {t : Nat} (h : jIsT t) : jtauA t 8 = some (t+3) := jIsT_all (p := fun t => jtauA t 8 = some (t+3)) rfl rfl rfl rfl (by decide) h
theorem shT9A {t : Nat} (h : jIsT t) : jshA[t+4]? = some (100, 2) := jIsT_all (p := fun t => jshA[t+4]? = some (100, 2)) rfl rfl rfl rfl (by decide) h
theorem taT9A {t : Nat} (h : jIsT t) : jtauA t 9 = some (t+4) := jIsT_all (p := fun t => jtauA t 9 = some (t+4)) rfl rfl rfl rfl (by decide) h
theorem shT10A {t : Nat} (h : jIsT t) : jshA[t+5]? = some (100, 2) := jIsT_all (p := fun t => jshA[t+5]? = some (100, 2)) rfl rfl rfl rfl (by decide) h
theorem taT10A {t : Nat} (h : jIsT t) : jtauA t 10 = some (t+5) := jIsT_all (p := fun t => jtauA t 10 = some (t+5)) rfl rfl rfl rfl (by decide) h
set_option maxHeartbeats 1000000 in
theorem c_X8_atA {Γ : jE} (hl : Γ.1.stackTraces = false) {s : Nat → Int → Int} {ε : jEps} {d : Nat} {q : Nat} {n : Nat} {i : Int} (hd : 0 ≤ d) (hq : jshA[q]? = some (100, n)) (p0 : n < 2147483648) (p1 : 0 ≤ i ∧ i < n) : Con Γ (d, 0, 0) mX8_at [.ref q, .int (iI i)] (jmemA s ε) (RIA (s q i) (s) ε) X0 := by
  refine Con.ofJ (by decide +kernel) (by simp [Value.category]) (Nat.le_of_ble_eq_true rfl) ?_ hl
  refine J.iload_n 1 dX8_at_0 rfl rfl ?_
  refine I.if_lt 16 dX8_at_1 (by decide) (by omega) (fun h1 => ?_) (fun h1 => ?_)
  · exact absurd h1 (by omega)
  · skip
    refine J.iload_n 1 dX8_at_4 rfl rfl ?_
    refine J.aload_n 0 dX8_at_5 rfl rfl ?_
    refine I.alenA dX8_at_6 hq (by decide) ?_
    refine I.icmp_ge 16 dX8_at_7 (by decide) (by omega) (by omega) (fun h7 => ?_) (fun h7 => ?_)
    · exact absurd h7 (by omega)
    · skip
      refine J.aload_n 0 dX8_at_10 rfl rfl ?_
      refine J.iload_n 1 dX8_at_11 rfl rfl ?_
      refine I.ialdA dX8_at_12 hq (by omega) (by omega) ?_
      refine J.goto 17 dX8_at_13 (by decide) ?_
      exact I.iretIA dX8_at_17 rfl (by first | rfl | omega) rfl
set_option maxHeartbeats 1000000 in
theorem c_X8_putA {Γ : jE} (hl : Γ.1.stackTraces = false) {s : Nat → Int → Int} {ε : jEps} {d : Nat} {q : Nat} {n : Nat} {i : Int} {v : Int} (hd : 0 ≤ d) (hq : jshA[q]? = some (100, n)) (p0 : n < 2147483648) (p1 : 0 ≤ i ∧ i < n) : Con Γ (d, 0, 0) mX8_put [.ref q, .int (iI i), .int (iI v)] (jmemA s ε) (RVA (up s q i v) ε) X0 := by
  refine Con.ofJ (by decide +kernel) (by simp [Value.category]) (Nat.le_of_ble_eq_true rfl) ?_ hl
  refine J.iload_n 1 dX8_put_0 rfl rfl ?_
  refine I.if_lt 14 dX8_put_1 (by decide) (by omega) (fun h1 => ?_) (fun h1 => ?_)
  · exact absurd h1 (by omega)
  · skip
    refine J.iload_n 1 dX8_put_4 rfl rfl ?_
    refine J.aload_n 0 dX8_put_5 rfl rfl ?_
    refine I.alenA dX8_put_6 hq (by decide) ?_
    refine I.icmp_ge 14 dX8_put_7 (by decide) (by omega) (by omega) (fun h7 => ?_) (fun h7 => ?_)
    · exact absurd h7 (by omega)
    · skip
      refine J.aload_n 0 dX8_put_10 rfl rfl ?_
      refine J.iload_n 1 dX8_put_11 rfl rfl ?_
      refine J.iload_n 2 dX8_put_12 rfl rfl ?_
      refine I.iastA dX8_put_13 hq (by omega) (by omega) ?_
      exact I.vretA dX8_put_14 rfl rfl
set_option maxHeartbeats 1000000 in
theorem c_X1_slotOfA {Γ : jE} (hl : Γ.1.stackTraces = false) {s : Nat → Int → Int} {ε : jEps} {d : Nat} {y : Nat} {r : Int} {c : Int} {t : Int} (hd : 0 ≤ d) (hy : jIsY y) : Con Γ (d, 0, 0) mX1_slotOf [.ref y, .int (iI r), .int (iI c), .int (iI t)] (jmemA s ε) (RIA ((r * 3 + c) * 8 + t) (s) ε) X0 := by
  refine Con.ofJ (by decide +kernel) (by simp [Value.category]) (Nat.le_of_ble_eq_true rfl) ?_ hl
  refine J.iload_n 1 dX1_slotOf_0 rfl rfl ?_
  refine I.iconst dX1_slotOf_1 ?_
  refine I.mul dX1_slotOf_2 ?_
  refine J.iload_n 2 dX1_slotOf_3 rfl rfl ?_
  refine I.add dX1_slotOf_4 ?_
  refine I.bipush dX1_slotOf_5 (by decide) ?_
  refine I.mul dX1_slotOf_7 ?_
  refine J.iload_n 3 dX1_slotOf_8 rfl rfl ?_
  refine I.add dX1_slotOf_9 ?_
  exact I.iretIA dX1_slotOf_10 rfl (by first | rfl | omega) rfl
set_option maxHeartbeats 1000000 in
theorem c_X1_lengthOfA {Γ : jE} (hl : Γ.1.stackTraces = false) {s : Nat → Int → Int} {ε : jEps} {d : Nat} {y : Nat} {r : Int} {c : Int} {f : Int → Int} (hd : 1 ≤ d) (hy : jIsY y) (p0 : RY s y f) (p1 : FL f) (p2 : 0 ≤ r ∧ r < f 0) (p3 : 0 ≤ c ∧ c < 3) : Con Γ (d, 0, 0) mX1_lengthOf [.ref y, .int (iI r), .int (iI c)] (jmemA s ε) (RIA (if c < f (18 + r) then f (22 + 3 * r + c) else 0) (s) ε) X0 := by
  refine Con.ofJ (by decide +kernel) (by simp [Value.category]) (Nat.le_of_ble_eq_true rfl) ?_ hl
  have e1 := RY.ch p0 r p2.1 p2.2
  have e2 := FL.ch p1 r p2.1 p2.2
  have e0 := FL.rn p1
  refine J.iload_n 2 dX1_lengthOf_0 rfl rfl ?_
  refine J.aload_n 0 dX1_lengthOf_1 rfl rfl ?_
  refine I.getRA dX1_lengthOf_2 jcls fX1_9 (shYA hy) (by decide) rfl (taY1A hy) ?_
  refine J.iload_n 1 dX1_lengthOf_5 rfl rfl ?_
  refine I.callSN2iA (d' := d - 1) (mi' := mX8_at) dX1_lengthOf_6 nX1_39 eX8_at (c_X8_atA (d := d - 1) hl (by omega) (shY1A hy) (by first | omega | assumption) (by first | omega | assumption)) (show d - 1 + 1 ≤ d from by omega) (Nat.le_of_ble_eq_true rfl) ?_
  refine I.icmp_ge 27 dX1_lengthOf_9 (by decide) (by omega) (by omega) (fun h9 => ?_) (fun h9 => ?_)
  · skip
    refine I.iconst dX1_lengthOf_27 ?_
    exact I.iretIA dX1_lengthOf_28 rfl (by split <;> omega) rfl
  · skip
    have e3 := RY.len p0 r c p2.1 p2.2 p3.1 (by omega)
    refine J.aload_n 0 dX1_lengthOf_12 rfl rfl ?_
    refine I.getRA dX1_lengthOf_13 jcls fX1_15 (shYA hy) (by decide) rfl (taY2A hy) ?_
    refine J.iload_n 1 dX1_lengthOf_16 rfl rfl ?_
    refine I.iconst dX1_lengthOf_17 ?_
    refine I.mul dX1_lengthOf_18 ?_
    refine J.iload_n 2 dX1_lengthOf_19 rfl rfl ?_
    refine I.add dX1_lengthOf_20 ?_
    refine I.callSN2iA (d' := d - 1) (mi' := mX8_at) dX1_lengthOf_21 nX1_39 eX8_at (c_X8_atA (d := d - 1) hl (by omega) (shY2A hy) (by first | omega | assumption) (by first | omega | assumption)) (show d - 1 + 1 ≤ d from by omega) (Nat.le_of_ble_eq_true rfl) ?_
    refine J.goto 28 dX1_lengthOf_24 (by decide) ?_
    exact I.iretIA dX1_lengthOf_28 rfl (by split <;> omega) rfl
set_option maxHeartbeats 1000000 in
theorem c_X2_burnsNowA {Γ : jE} (hl : Γ.1.stackTraces = false) {s : Nat → Int → Int} {ε : jEps} {d : Nat} {m : Nat} (hd : 1 ≤ d) (hm : jIsM m) : Con Γ (d, 0, 0) mX2_burnsNow [.ref m] (jmemA s ε) (RIA (s (m + 9) 0 - s (m + 8) 0 + (s (m + 9) 1 - s (m + 8) 1) + (s (m + 9) 2 - s (m + 8) 2)) (s) ε) X0 := by
  refine Con.ofJ (by decide +kernel) (by simp [Value.category]) (Nat.le_of_ble_eq_true rfl) ?_ hl
  refine I.iconst dX2_burnsNow_0 ?_
  refine J.istore_n 1 dX2_burnsNow_1 rfl (by decide) rfl ?_
  refine I.iconst dX2_burnsNow_2 ?_
  refine J.istore_n 2 dX2_burnsNow_3 rfl (by decide) rfl ?_
  refine J.iload_n 2 dX2_burnsNow_4 rfl rfl ?_
  refine I.iconst dX2_burnsNow_5 ?_
  refine I.icmp_ge 41 dX2_burnsNow_6 (by decide) (by omega) (by omega) (fun h6 => ?_) (fun h6 => ?_)
  · exact absurd h6 (by omega)
  · skip
    refine J.iload_n 1 dX2_burnsNow_9 rfl rfl ?_
    refine J.aload_n 0 dX2_burnsNow_10 rfl rfl ?_
    refine I.getRA dX2_burnsNow_11 jcls fX2_21 (shMA hm) (by decide) rfl (taM1A hm) ?_
    refine I.getRA dX2_burnsNow_14 jcls fX2_78 (shSA hm) (by decide) rfl (taS7A hm) ?_
    refine J.iload_n 2 dX2_burnsNow_17 rfl rfl ?_
    refine I.callSN2iA (d' := d - 1) (mi' := mX8_at) dX2_burnsNow_18 nX2_111 eX8_at (c_X8_atA (d := d - 1) hl (by omega) (shS7A hm) (by first | omega | assumption) (by first | omega | assumption)) (show d - 1 + 1 ≤ d from by omega) (Nat.le_of_ble_eq_true rfl) ?_
    refine J.aload_n 0 dX2_burnsNow_21 rfl rfl ?_
    refine I.getRA dX2_burnsNow_22 jcls fX2_21 (shMA hm) (by decide) rfl (taM1A hm) ?_
    refine I.getRA dX2_burnsNow_25 jcls fX2_70 (shSA hm) (by decide) rfl (taS6A hm) ?_
    refine J.iload_n 2 dX2_burnsNow_28 rfl rfl ?_
    refine I.callSN2iA (d' := d - 1) (mi' := mX8_at) dX2_burnsNow_29 nX2_111 eX8_at (c_X8_atA (d := d - 1) hl (by omega) (shS6A hm) (by first | omega | assumption) (by first | omega | assumption)) (show d - 1 + 1 ≤ d from by omega) (Nat.le_of_ble_eq_true rfl) ?_
    refine I.sub dX2_burnsNow_32 ?_
    refine I.add dX2_burnsNow_33 ?_
    refine J.istore_n 1 dX2_burnsNow_34 rfl (by decide) rfl ?_
    refine I.iinc dX2_burnsNow_35 rfl rfl ?_
    refine J.goto 4 dX2_burnsNow_38 (by decide) ?_
    refine J.iload_n 2 dX2_burnsNow_4 rfl rfl ?_
    refine I.iconst dX2_burnsNow_5 ?_
    refine I.icmp_ge 41 dX2_burnsNow_6 (by decide) (by omega) (by omega) (fun h6 => ?_) (fun h6 => ?_)
    · exact absurd h6 (by omega)
    · skip
      refine J.iload_n 1 dX2_burnsNow_9 rfl rfl ?_
      refine J.aload_n 0 dX2_burnsNow_10 rfl rfl ?_
      refine I.getRA dX2_burnsNow_11 jcls fX2_21 (shMA hm) (by decide) rfl (taM1A hm) ?_
      refine I.getRA dX2_burnsNow_14 jcls fX2_78 (shSA hm) (by decide) rfl (taS7A hm) ?_
      refine J.iload_n 2 dX2_burnsNow_17 rfl rfl ?_
      refine I.callSN2iA (d' := d - 1) (mi' := mX8_at) dX2_burnsNow_18 nX2_111 eX8_at (c_X8_atA (d := d - 1) hl (by omega) (shS7A hm) (by first | omega | assumption) (by first | omega | assumption)) (show d - 1 + 1 ≤ d from by omega) (Nat.le_of_ble_eq_true rfl) ?_
      refine J.aload_n 0 dX2_burnsNow_21 rfl rfl ?_
      refine I.getRA dX2_burnsNow_22 jcls fX2_21 (shMA hm) (by decide) rfl (taM1A hm) ?_
      refine I.getRA dX2_burnsNow_25 jcls fX2_70 (shSA hm) (by decide) rfl (taS6A hm) ?_
      refine J.iload_n 2 dX2_burnsNow_28 rfl rfl ?_
      refine I.callSN2iA (d' := d - 1) (mi' := mX8_at) dX2_burnsNow_29 nX2_111 eX8_at (c_X8_atA (d := d - 1) hl (by omega) (shS6A hm) (by first | omega | assumption) (by first | omega | assumption)) (show d - 1 + 1 ≤ d from by omega) (Nat.le_of_ble_eq_true rfl) ?_
      refine I.sub dX2_burnsNow_32 ?_
      refine I.add dX2_burnsNow_33 ?_
      refine J.istore_n 1 dX2_burnsNow_34 rfl (by decide) rfl ?_
      refine I.iinc dX2_burnsNow_35 rfl rfl ?_
      refine J.goto 4 dX2_burnsNow_38 (by decide) ?_
      refine J.iload_n 2 dX2_burnsNow_4 rfl rfl ?_
      refine I.iconst dX2_burnsNow_5 ?_
      refine I.icmp_ge 41 dX2_burnsNow_6 (by decide) (by omega) (by omega) (fun h6 => ?_) (fun h6 => ?_)
      · exact absurd h6 (by omega)
      · skip
        refine J.iload_n 1 dX2_burnsNow_9 rfl rfl ?_
        refine J.aload_n 0 dX2_burnsNow_10 rfl rfl ?_
        refine I.getRA dX2_burnsNow_11 jcls fX2_21 (shMA hm) (by decide) rfl (taM1A hm) ?_
        refine I.getRA dX2_burnsNow_14 jcls fX2_78 (shSA hm) (by decide) rfl (taS7A hm) ?_
        refine J.iload_n 2 dX2_burnsNow_17 rfl rfl ?_
        refine I.callSN2iA (d' := d - 1) (mi' := mX8_at) dX2_burnsNow_18 nX2_111 eX8_at (c_X8_atA (d := d - 1) hl (by omega) (shS7A hm) (by first | omega | assumption) (by first | omega | assumption)) (show d - 1 + 1 ≤ d from by omega) (Nat.le_of_ble_eq_true rfl) ?_
        refine J.aload_n 0 dX2_burnsNow_21 rfl rfl ?_
        refine I.getRA dX2_burnsNow_22 jcls fX2_21 (shMA hm) (by decide) rfl (taM1A hm) ?_
        refine I.getRA dX2_burnsNow_25 jcls fX2_70 (shSA hm) (by decide) rfl (taS6A hm) ?_
        refine J.iload_n 2 dX2_burnsNow_28 rfl rfl ?_
        refine I.callSN2iA (d' := d - 1) (mi' := mX8_at) dX2_burnsNow_29 nX2_111 eX8_at (c_X8_atA (d := d - 1) hl (by omega) (shS6A hm) (by first | omega | assumption) (by first | omega | assumption)) (show d - 1 + 1 ≤ d from by omega) (Nat.le_of_ble_eq_true rfl) ?_
        refine I.sub dX2_burnsNow_32 ?_
        refine I.add dX2_burnsNow_33 ?_
        refine J.istore_n 1 dX2_burnsNow_34 rfl (by decide) rfl ?_
        refine I.iinc dX2_burnsNow_35 rfl rfl ?_
        refine J.goto 4 dX2_burnsNow_38 (by decide) ?_
        refine J.iload_n 2 dX2_burnsNow_4 rfl rfl ?_
        refine I.iconst dX2_burnsNow_5 ?_
        refine I.icmp_ge 41 dX2_burnsNow_6 (by decide) (by omega) (by omega) (fun h6 => ?_) (fun h6 => ?_)
        · skip
          refine J.iload_n 1 dX2_burnsNow_41 rfl rfl ?_
          exact I.iretIA dX2_burnsNow_42 rfl (by simp only [Int.zero_add, Int.reduceAdd]) rfl
        · exact absurd h6 (by omega)
set_option maxHeartbeats 1000000 in
theorem c_X6_clearCountsA {Γ : jE} (hl : Γ.1.stackTraces = false) {s : Nat → Int → Int} {ε : jEps} {d : Nat} {t : Nat} (hd : 1 ≤ d) (ht : jIsT t) : Con Γ (d, 0, 0) mX6_clearCounts [.ref t] (jmemA s ε) (RWA (fun s' => (∀ q i, (q < t + 3 ∨ t + 6 ≤ q) → s' q i = s q i) ∧ (∀ i, 0 ≤ i → i < 8 → s' (t + 3) i = 0) ∧ (∀ i, 0 ≤ i → i < 2 → s' (t + 4) i = 0) ∧ ∀ i, 0 ≤ i → i < 2 → s' (t + 5) i = 0) ε) X0 := by
  refine Con.ofJ (by decide +kernel) (by simp [Value.category]) (Nat.le_of_ble_eq_true rfl) ?_ hl
  refine I.iconst dX6_clearCounts_0 ?_
  refine J.istore_n 1 dX6_clearCounts_1 rfl (by decide) rfl ?_
  refine J.iload_n 1 dX6_clearCounts_2 rfl rfl ?_
  refine J.aload_n 0 dX6_clearCounts_3 rfl rfl ?_
  refine I.getRA dX6_clearCounts_4 jcls fX6_18 (shTA ht) (by decide) rfl (taT8A ht) ?_
  refine I.alenA dX6_clearCounts_7 (shT8A ht) (by decide) ?_
  refine I.icmp_ge 24 dX6_clearCounts_8 (by decide) (by omega) (by omega) (fun h8 => ?_) (fun h8 => ?_)
  · exact absurd h8 (by omega)
  · skip
    refine J.aload_n 0 dX6_clearCounts_11 rfl rfl ?_
    refine I.getRA dX6_clearCounts_12 jcls fX6_18 (shTA ht) (by decide) rfl (taT8A ht) ?_
    refine J.iload_n 1 dX6_clearCounts_15 rfl rfl ?_
    refine I.iconst dX6_clearCounts_16 ?_
    refine I.iastA dX6_clearCounts_17 (shT8A ht) (by omega) (by omega) ?_
    refine I.iinc dX6_clearCounts_18 rfl rfl ?_
    refine J.goto 2 dX6_clearCounts_21 (by decide) ?_
    refine J.iload_n 1 dX6_clearCounts_2 rfl rfl ?_
    refine J.aload_n 0 dX6_clearCounts_3 rfl rfl ?_
    refine I.getRA dX6_clearCounts_4 jcls fX6_18 (shTA ht) (by decide) rfl (taT8A ht) ?_
    refine I.alenA dX6_clearCounts_7 (shT8A ht) (by decide) ?_
    refine I.icmp_ge 24 dX6_clearCounts_8 (by decide) (by omega) (by omega) (fun h8 => ?_) (fun h8 => ?_)
    · exact absurd h8 (by omega)
    · skip
      refine J.aload_n 0 dX6_clearCounts_11 rfl rfl ?_
      refine I.getRA dX6_clearCounts_12 jcls fX6_18 (shTA ht) (by decide) rfl (taT8A ht) ?_
      refine J.iload_n 1 dX6_clearCounts_15 rfl rfl ?_
      refine I.iconst dX6_clearCounts_16 ?_
      refine I.iastA dX6_clearCounts_17 (shT8A ht) (by omega) (by omega) ?_
      refine I.iinc dX6_clearCounts_18 rfl rfl ?_
      refine J.goto 2 dX6_clearCounts_21 (by decide) ?_
      refine J.iload_n 1 dX6_clearCounts_2 rfl rfl ?_
      refine J.aload_n 0 dX6_clearCounts_3 rfl rfl ?_
      refine I.getRA dX6_clearCounts_4 jcls fX6_18 (shTA ht) (by decide) rfl (taT8A ht) ?_
      refine I.alenA dX6_clearCounts_7 (shT8A ht) (by decide) ?_
      refine I.icmp_ge 24 dX6_clearCounts_8 (by decide) (by omega) (by omega) (fun h8 => ?_) (fun h8 => ?_)
      · exact absurd h8 (by omega)
      · skip
        refine J.aload_n 0 dX6_clearCounts_11 rfl rfl ?_
        refine I.getRA dX6_clearCounts_12 jcls fX6_18 (shTA ht) (by decide) rfl (taT8A ht) ?_
        refine J.iload_n 1 dX6_clearCounts_15 rfl rfl ?_
        refine I.iconst dX6_clearCounts_16 ?_
        refine I.iastA dX6_clearCounts_17 (shT8A ht) (by omega) (by omega) ?_
        refine I.iinc dX6_clearCounts_18 rfl rfl ?_
        refine J.goto 2 dX6_clearCounts_21 (by decide) ?_
        refine J.iload_n 1 dX6_clearCounts_2 rfl rfl ?_
        refine J.aload_n 0 dX6_clearCounts_3 rfl rfl ?_
        refine I.getRA dX6_clearCounts_4 jcls fX6_18 (shTA ht) (by decide) rfl (taT8A ht) ?_
        refine I.alenA dX6_clearCounts_7 (shT8A ht) (by decide) ?_
        refine I.icmp_ge 24 dX6_clearCounts_8 (by decide) (by omega) (by omega) (fun h8 => ?_) (fun h8 => ?_)
        · exact absurd h8 (by omega)
        · skip
          refine J.aload_n 0 dX6_clearCounts_11 rfl rfl ?_
          refine I.getRA dX6_clearCounts_12 jcls fX6_18 (shTA ht) (by decide) rfl (taT8A ht) ?_
          refine J.iload_n 1 dX6_clearCounts_15 rfl rfl ?_
          refine I.iconst dX6_clearCounts_16 ?_
          refine I.iastA dX6_clearCounts_17 (shT8A ht) (by omega) (by omega) ?_
          refine I.iinc dX6_clearCounts_18 rfl rfl ?_
          refine J.goto 2 dX6_clearCounts_21 (by decide) ?_
          refine J.iload_n 1 dX6_clearCounts_2 rfl rfl ?_
          refine J.aload_n 0 dX6_clearCounts_3 rfl rfl ?_
          refine I.getRA dX6_clearCounts_4 jcls fX6_18 (shTA ht) (by decide) rfl (taT8A ht) ?_
          refine I.alenA dX6_clearCounts_7 (shT8A ht) (by decide) ?_
          refine I.icmp_ge 24 dX6_clearCounts_8 (by decide) (by omega) (by omega) (fun h8 => ?_) (fun h8 => ?_)
          · exact absurd h8 (by omega)
          · skip
            refine J.aload_n 0 dX6_clearCounts_11 rfl rfl ?_
            refine I.getRA dX6_clearCounts_12 jcls fX6_18 (shTA ht) (by decide) rfl (taT8A ht) ?_
            refine J.iload_n 1 dX6_clearCounts_15 rfl rfl ?_
            refine I.iconst dX6_clearCounts_16 ?_
            refine I.iastA dX6_clearCounts_17 (shT8A ht) (by omega) (by omega) ?_
            refine I.iinc dX6_clearCounts_18 rfl rfl ?_
            refine J.goto 2 dX6_clearCounts_21 (by decide) ?_
            refine J.iload_n 1 dX6_clearCounts_2 rfl rfl ?_
            refine J.aload_n 0 dX6_clearCounts_3 rfl rfl ?_
            refine I.getRA dX6_clearCounts_4 jcls fX6_18 (shTA ht) (by decide) rfl (taT8A ht) ?_
            refine I.alenA dX6_clearCounts_7 (shT8A ht) (by decide) ?_
            refine I.icmp_ge 24 dX6_clearCounts_8 (by decide) (by omega) (by omega) (fun h8 => ?_) (fun h8 => ?_)
            · exact absurd h8 (by omega)
            · skip
              refine J.aload_n 0 dX6_clearCounts_11 rfl rfl ?_
              refine I.getRA dX6_clearCounts_12 jcls fX6_18 (shTA ht) (by decide) rfl (taT8A ht) ?_
              refine J.iload_n 1 dX6_clearCounts_15 rfl rfl ?_
              refine I.iconst dX6_clearCounts_16 ?_
              refine I.iastA dX6_clearCounts_17 (shT8A ht) (by omega) (by omega) ?_
              refine I.iinc dX6_clearCounts_18 rfl rfl ?_
              refine J.goto 2 dX6_clearCounts_21 (by decide) ?_
              refine J.iload_n 1 dX6_clearCounts_2 rfl rfl ?_
              refine J.aload_n 0 dX6_clearCounts_3 rfl rfl ?_
              refine I.getRA dX6_clearCounts_4 jcls fX6_18 (shTA ht) (by decide) rfl (taT8A ht) ?_
              refine I.alenA dX6_clearCounts_7 (shT8A ht) (by decide) ?_
              refine I.icmp_ge 24 dX6_clearCounts_8 (by decide) (by omega) (by omega) (fun h8 => ?_) (fun h8 => ?_)
              · exact absurd h8 (by omega)
              · skip
                refine J.aload_n 0 dX6_clearCounts_11 rfl rfl ?_
                refine I.getRA dX6_clearCounts_12 jcls fX6_18 (shTA ht) (by decide) rfl (taT8A ht) ?_
                refine J.iload_n 1 dX6_clearCounts_15 rfl rfl ?_
                refine I.iconst dX6_clearCounts_16 ?_
                refine I.iastA dX6_clearCounts_17 (shT8A ht) (by omega) (by omega) ?_
                refine I.iinc dX6_clearCounts_18 rfl rfl ?_
                refine J.goto 2 dX6_clearCounts_21 (by decide) ?_
                refine J.iload_n 1 dX6_clearCounts_2 rfl rfl ?_
                refine J.aload_n 0 dX6_clearCounts_3 rfl rfl ?_
                refine I.getRA dX6_clearCounts_4 jcls fX6_18 (shTA ht) (by decide) rfl (taT8A ht) ?_
                refine I.alenA dX6_clearCounts_7 (shT8A ht) (by decide) ?_
                refine I.icmp_ge 24 dX6_clearCounts_8 (by decide) (by omega) (by omega) (fun h8 => ?_) (fun h8 => ?_)
                · exact absurd h8 (by omega)
                · skip
                  refine J.aload_n 0 dX6_clearCounts_11 rfl rfl ?_
                  refine I.getRA dX6_clearCounts_12 jcls fX6_18 (shTA ht) (by decide) rfl (taT8A ht) ?_
                  refine J.iload_n 1 dX6_clearCounts_15 rfl rfl ?_
                  refine I.iconst dX6_clearCounts_16 ?_
                  refine I.iastA dX6_clearCounts_17 (shT8A ht) (by omega) (by omega) ?_
                  refine I.iinc dX6_clearCounts_18 rfl rfl ?_
                  refine J.goto 2 dX6_clearCounts_21 (by decide) ?_
                  refine J.iload_n 1 dX6_clearCounts_2 rfl rfl ?_
                  refine J.aload_n 0 dX6_clearCounts_3 rfl rfl ?_
                  refine I.getRA dX6_clearCounts_4 jcls fX6_18 (shTA ht) (by decide) rfl (taT8A ht) ?_
                  refine I.alenA dX6_clearCounts_7 (shT8A ht) (by decide) ?_
                  refine I.icmp_ge 24 dX6_clearCounts_8 (by decide) (by omega) (by omega) (fun h8 => ?_) (fun h8 => ?_)
                  · skip
                    refine I.iconst dX6_clearCounts_24 ?_
                    refine J.istore_n 1 dX6_clearCounts_25 rfl (by decide) rfl ?_
                    refine J.iload_n 1 dX6_clearCounts_26 rfl rfl ?_
                    refine I.iconst dX6_clearCounts_27 ?_
                    refine I.icmp_ge 55 dX6_clearCounts_28 (by decide) (by omega) (by omega) (fun h28 => ?_) (fun h28 => ?_)
                    · exact absurd h28 (by omega)
                    · skip
                      refine J.aload_n 0 dX6_clearCounts_31 rfl rfl ?_
                      refine I.getRA dX6_clearCounts_32 jcls fX6_21 (shTA ht) (by decide) rfl (taT9A ht) ?_
                      refine J.iload_n 1 dX6_clearCounts_35 rfl rfl ?_
                      refine I.iconst dX6_clearCounts_36 ?_
                      refine I.callSN3vA (d' := d - 1) (mi' := mX8_put) dX6_clearCounts_37 nX6_57 eX8_put (c_X8_putA (d := d - 1) hl (by omega) (shT9A ht) (by first | omega | assumption) (by first | omega | assumption)) (show d - 1 + 1 ≤ d from by omega) (Nat.le_of_ble_eq_true rfl) ?_
                      refine J.aload_n 0 dX6_clearCounts_40 rfl rfl ?_
                      refine I.getRA dX6_clearCounts_41 jcls fX6_24 (shTA ht) (by decide) rfl (taT10A ht) ?_
                      refine J.iload_n 1 dX6_clearCounts_44 rfl rfl ?_
                      refine I.iconst dX6_clearCounts_45 ?_
                      refine I.callSN3vA (d' := d - 1) (mi' := mX8_put) dX6_clearCounts_46 nX6_57 eX8_put (c_X8_putA (d := d - 1) hl (by omega) (shT10A ht) (by first | omega | assumption) (by first | omega | assumption)) (show d - 1 + 1 ≤ d from by omega) (Nat.le_of_ble_eq_true rfl) ?_
                      refine I.iinc dX6_clearCounts_49 rfl rfl ?_
                      refine J.goto 26 dX6_clearCounts_52 (by decide) ?_
                      refine J.iload_n 1 dX6_clearCounts_26 rfl rfl ?_
                      refine I.iconst dX6_clearCounts_27 ?_
                      refine I.icmp_ge 55 dX6_clearCounts_28 (by decide) (by omega) (by omega) (fun h28 => ?_) (fun h28 => ?_)
                      · exact absurd h28 (by omega)
                      · skip
                        refine J.aload_n 0 dX6_clearCounts_31 rfl rfl ?_
                        refine I.getRA dX6_clearCounts_32 jcls fX6_21 (shTA ht) (by decide) rfl (taT9A ht) ?_
                        refine J.iload_n 1 dX6_clearCounts_35 rfl rfl ?_
                        refine I.iconst dX6_clearCounts_36 ?_
                        refine I.callSN3vA (d' := d - 1) (mi' := mX8_put) dX6_clearCounts_37 nX6_57 eX8_put (c_X8_putA (d := d - 1) hl (by omega) (shT9A ht) (by first | omega | assumption) (by first | omega | assumption)) (show d - 1 + 1 ≤ d from by omega) (Nat.le_of_ble_eq_true rfl) ?_
                        refine J.aload_n 0 dX6_clearCounts_40 rfl rfl ?_
                        refine I.getRA dX6_clearCounts_41 jcls fX6_24 (shTA ht) (by decide) rfl (taT10A ht) ?_
                        refine J.iload_n 1 dX6_clearCounts_44 rfl rfl ?_
                        refine I.iconst dX6_clearCounts_45 ?_
                        refine I.callSN3vA (d' := d - 1) (mi' := mX8_put) dX6_clearCounts_46 nX6_57 eX8_put (c_X8_putA (d := d - 1) hl (by omega) (shT10A ht) (by first | omega | assumption) (by first | omega | assumption)) (show d - 1 + 1 ≤ d from by omega) (Nat.le_of_ble_eq_true rfl) ?_
                        refine I.iinc dX6_clearCounts_49 rfl rfl ?_
                        refine J.goto 26 dX6_clearCounts_52 (by decide) ?_
                        refine J.iload_n 1 dX6_clearCounts_26 rfl rfl ?_
                        refine I.iconst dX6_clearCounts_27 ?_
                        refine I.icmp_ge 55 dX6_clearCounts_28 (by decide) (by omega) (by omega) (fun h28 => ?_) (fun h28 => ?_)
                        · skip
                          exact I.vretQA dX6_clearCounts_55 rfl (by
                            refine ⟨?_, ?_, ?_, ?_⟩
                            · intro q i g; (repeat (first | rw [up_ne (Or.inl (by omega))] | rw [up_eqq ⟨by omega, by omega⟩] | rw [up_ne (Or.inr (by omega))] | rw [cpA_ne (by omega)] | rw [cpA_in ⟨by omega, by omega, by omega⟩])); first | done | rfl
                            · intro i a b; have : i = 0 ∨ i = 1 ∨ i = 2 ∨ i = 3 ∨ i = 4 ∨ i = 5 ∨ i = 6 ∨ i = 7 := by omega
                              rcases this with rfl | rfl | rfl | rfl | rfl | rfl | rfl | rfl <;> ((repeat (first | rw [up_ne (Or.inl (by omega))] | rw [up_eqq ⟨by omega, by omega⟩] | rw [up_ne (Or.inr (by omega))] | rw [cpA_ne (by omega)] | rw [cpA_in ⟨by omega, by omega, by omega⟩])); first | done | rfl)
                            · intro i a b; have : i = 0 ∨ i = 1 := by omega
                              rcases this with rfl | rfl <;> ((repeat (first | rw [up_ne (Or.inl (by omega))] | rw [up_eqq ⟨by omega, by omega⟩] | rw [up_ne (Or.inr (by omega))] | rw [cpA_ne (by omega)] | rw [cpA_in ⟨by omega, by omega, by omega⟩])); first | done | rfl)
                            · intro i a b; have : i = 0 ∨ i = 1 := by omega
                              rcases this with rfl | rfl <;> ((repeat (first | rw [up_ne (Or.inl (by omega))] | rw [up_eqq ⟨by omega, by omega⟩] | rw [up_ne (Or.inr (by omega))] | rw [cpA_ne (by omega)] | rw [cpA_in ⟨by omega, by omega, by omega⟩])); first | done | rfl))
                        · exact absurd h28 (by omega)
                  · exact absurd h8 (by omega)
set_option maxHeartbeats 1000000 in
theorem c_X2_beginRoundA {Γ : jE} (hl : Γ.1.stackTraces = false) {s : Nat → Int → Int} {ε : jEps} {d : Nat} {m : Nat} {r : Int} {st : Int} {f : Int → Int} (hd : 2 ≤ d) (hm : jIsM m) (p0 : RY s (m + 1) f) (p1 : FL f) (p2 : RC s (m + 7) f) (p3 : FD f r) (p4 : 0 ≤ st ∧ st ≤ 1) : Con Γ (d, 0, 0) mX2_beginRound [.ref m, .int (iI r), .int (iI st)] (jmemA s ε) (RWA (fun s' => RM s' m (gDeal f r st) ∧ ∀ q i, (q < m + 7 ∨ m + 15 ≤ q) → s' q i = s q i) ε) X0 := by
  refine Con.ofJ (by decide +kernel) (by simp [Value.category]) (Nat.le_of_ble_eq_true rfl) ?_ hl
  have hd1 := p3.1
  have hl0 := FL.rn p1
  have hlc := FL.ch p1 r hd1.1 hd1.2
  have hln := fun c a b => FL.len p1 r c hd1.1 hd1.2 a b
  refine J.aload_n 0 dX2_beginRound_0 rfl rfl ?_
  refine I.getRA dX2_beginRound_1 jcls fX2_21 (shMA hm) (by decide) rfl (taM1A hm) ?_
  refine J.iload_n 1 dX2_beginRound_4 rfl rfl ?_
  refine I.pIA 0 rfl dX2_beginRound_5 jcls fX2_54 (shSA hm) (by decide) rfl ?_
  refine J.aload_n 0 dX2_beginRound_8 rfl rfl ?_
  refine I.getRA dX2_beginRound_9 jcls fX2_21 (shMA hm) (by decide) rfl (taM1A hm) ?_
  refine J.iload_n 2 dX2_beginRound_12 rfl rfl ?_
  refine I.pIA 1 rfl dX2_beginRound_13 jcls fX2_58 (shSA hm) (by decide) rfl ?_
  refine J.aload_n 0 dX2_beginRound_16 rfl rfl ?_
  refine I.getRA dX2_beginRound_17 jcls fX2_21 (shMA hm) (by decide) rfl (taM1A hm) ?_
  refine J.iload_n 2 dX2_beginRound_20 rfl rfl ?_
  refine I.pIA 2 rfl dX2_beginRound_21 jcls fX2_61 (shSA hm) (by decide) rfl ?_
  refine J.aload_n 0 dX2_beginRound_24 rfl rfl ?_
  refine I.getRA dX2_beginRound_25 jcls fX2_21 (shMA hm) (by decide) rfl (taM1A hm) ?_
  refine I.iconst dX2_beginRound_28 ?_
  refine I.pIA 3 rfl dX2_beginRound_29 jcls fX2_64 (shSA hm) (by decide) rfl ?_
  refine J.aload_n 0 dX2_beginRound_32 rfl rfl ?_
  refine I.getRA dX2_beginRound_33 jcls fX2_21 (shMA hm) (by decide) rfl (taM1A hm) ?_
  refine I.iconst dX2_beginRound_36 ?_
  refine I.pIA 5 rfl dX2_beginRound_37 jcls fX2_67 (shSA hm) (by decide) rfl ?_
  refine I.iconst dX2_beginRound_40 ?_
  refine J.istore_n 3 dX2_beginRound_41 rfl (by decide) rfl ?_
  refine J.iload_n 3 dX2_beginRound_42 rfl rfl ?_
  refine I.iconst dX2_beginRound_43 ?_
  refine I.icmp_ge 91 dX2_beginRound_44 (by decide) (by omega) (by omega) (fun h44 => ?_) (fun h44 => ?_)
  · exact absurd h44 (by omega)
  · skip
    refine J.aload_n 0 dX2_beginRound_47 rfl rfl ?_
    refine I.getRA dX2_beginRound_48 jcls fX2_21 (shMA hm) (by decide) rfl (taM1A hm) ?_
    refine I.getRA dX2_beginRound_51 jcls fX2_70 (shSA hm) (by decide) rfl (taS6A hm) ?_
    refine J.iload_n 3 dX2_beginRound_54 rfl rfl ?_
    refine I.iconst dX2_beginRound_55 ?_
    refine I.callSN3vA (d' := d - 1) (mi' := mX8_put) dX2_beginRound_56 nX2_74 eX8_put (c_X8_putA (d := d - 1) hl (by omega) (shS6A hm) (by first | omega | assumption) (by first | omega | assumption)) (show d - 1 + 1 ≤ d from by omega) (Nat.le_of_ble_eq_true rfl) ?_
    refine J.aload_n 0 dX2_beginRound_59 rfl rfl ?_
    refine I.getRA dX2_beginRound_60 jcls fX2_21 (shMA hm) (by decide) rfl (taM1A hm) ?_
    refine I.getRA dX2_beginRound_63 jcls fX2_78 (shSA hm) (by decide) rfl (taS7A hm) ?_
    refine J.iload_n 3 dX2_beginRound_66 rfl rfl ?_
    refine I.iconst dX2_beginRound_67 ?_
    refine J.aload_n 0 dX2_beginRound_68 rfl rfl ?_
    refine I.getRA dX2_beginRound_69 jcls fX2_12 (shMA hm) (by decide) rfl (taM0A hm) ?_
    refine J.iload_n 1 dX2_beginRound_72 rfl rfl ?_
    refine J.iload_n 3 dX2_beginRound_73 rfl rfl ?_
    refine I.callV2iA (d' := d - 1) (mi' := mX1_lengthOf) dX2_beginRound_74 lX2_81 eX1_lengthOf (shLA hm) rfl (c_X1_lengthOfA (d := d - 1) hl (by omega) (yM hm) (RY.congr p0 fun q i q1 q2 => by (repeat (first | rw [up_ne (Or.inl (by omega))] | rw [up_ne (Or.inr (by omega))] | rw [cpA_ne (by omega)])); first | done | rfl) (by assumption) (by first | omega | assumption) (by first | omega | assumption)) (show d - 1 + 1 ≤ d from by omega) (Nat.le_of_ble_eq_true rfl) ?_
    refine I.iconst dX2_beginRound_77 ?_
    refine I.sub dX2_beginRound_78 ?_
    refine I.mmax dX2_beginRound_79 lX2_85 (by omega) (by have := hln 0 (by omega); have := hln (0 + 1) (by omega); have := hln (0 + 1 + 1) (by omega); split <;> omega) (Nat.le_of_ble_eq_true rfl) ?_
    refine I.callSN3vA (d' := d - 1) (mi' := mX8_put) dX2_beginRound_82 nX2_74 eX8_put (c_X8_putA (d := d - 1) hl (by omega) (shS7A hm) (by first | omega | assumption) (by first | omega | assumption)) (show d - 1 + 1 ≤ d from by omega) (Nat.le_of_ble_eq_true rfl) ?_
    refine I.iinc dX2_beginRound_85 rfl rfl ?_
    refine J.goto 42 dX2_beginRound_88 (by decide) ?_
    refine J.iload_n 3 dX2_beginRound_42 rfl rfl ?_
    refine I.iconst dX2_beginRound_43 ?_
    refine I.icmp_ge 91 dX2_beginRound_44 (by decide) (by omega) (by omega) (fun h44 => ?_) (fun h44 => ?_)
    · exact absurd h44 (by omega)
    · skip
      refine J.aload_n 0 dX2_beginRound_47 rfl rfl ?_
      refine I.getRA dX2_beginRound_48 jcls fX2_21 (shMA hm) (by decide) rfl (taM1A hm) ?_
      refine I.getRA dX2_beginRound_51 jcls fX2_70 (shSA hm) (by decide) rfl (taS6A hm) ?_
      refine J.iload_n 3 dX2_beginRound_54 rfl rfl ?_
      refine I.iconst dX2_beginRound_55 ?_
      refine I.callSN3vA (d' := d - 1) (mi' := mX8_put) dX2_beginRound_56 nX2_74 eX8_put (c_X8_putA (d := d - 1) hl (by omega) (shS6A hm) (by first | omega | assumption) (by first | omega | assumption)) (show d - 1 + 1 ≤ d from by omega) (Nat.le_of_ble_eq_true rfl) ?_
      refine J.aload_n 0 dX2_beginRound_59 rfl rfl ?_
      refine I.getRA dX2_beginRound_60 jcls fX2_21 (shMA hm) (by decide) rfl (taM1A hm) ?_
      refine I.getRA dX2_beginRound_63 jcls fX2_78 (shSA hm) (by decide) rfl (taS7A hm) ?_
      refine J.iload_n 3 dX2_beginRound_66 rfl rfl ?_
      refine I.iconst dX2_beginRound_67 ?_
      refine J.aload_n 0 dX2_beginRound_68 rfl rfl ?_
      refine I.getRA dX2_beginRound_69 jcls fX2_12 (shMA hm) (by decide) rfl (taM0A hm) ?_
      refine J.iload_n 1 dX2_beginRound_72 rfl rfl ?_
      refine J.iload_n 3 dX2_beginRound_73 rfl rfl ?_
      refine I.callV2iA (d' := d - 1) (mi' := mX1_lengthOf) dX2_beginRound_74 lX2_81 eX1_lengthOf (shLA hm) rfl (c_X1_lengthOfA (d := d - 1) hl (by omega) (yM hm) (RY.congr p0 fun q i q1 q2 => by (repeat (first | rw [up_ne (Or.inl (by omega))] | rw [up_ne (Or.inr (by omega))] | rw [cpA_ne (by omega)])); first | done | rfl) (by assumption) (by first | omega | assumption) (by first | omega | assumption)) (show d - 1 + 1 ≤ d from by omega) (Nat.le_of_ble_eq_true rfl) ?_
      refine I.iconst dX2_beginRound_77 ?_
      refine I.sub dX2_beginRound_78 ?_
      refine I.mmax dX2_beginRound_79 lX2_85 (by omega) (by have := hln 0 (by omega); have := hln (0 + 1) (by omega); have := hln (0 + 1 + 1) (by omega); split <;> omega) (Nat.le_of_ble_eq_true rfl) ?_
      refine I.callSN3vA (d' := d - 1) (mi' := mX8_put) dX2_beginRound_82 nX2_74 eX8_put (c_X8_putA (d := d - 1) hl (by omega) (shS7A hm) (by first | omega | assumption) (by first | omega | assumption)) (show d - 1 + 1 ≤ d from by omega) (Nat.le_of_ble_eq_true rfl) ?_
      refine I.iinc dX2_beginRound_85 rfl rfl ?_
      refine J.goto 42 dX2_beginRound_88 (by decide) ?_
      refine J.iload_n 3 dX2_beginRound_42 rfl rfl ?_
      refine I.iconst dX2_beginRound_43 ?_
      refine I.icmp_ge 91 dX2_beginRound_44 (by decide) (by omega) (by omega) (fun h44 => ?_) (fun h44 => ?_)
      · exact absurd h44 (by omega)
      · skip
        refine J.aload_n 0 dX2_beginRound_47 rfl rfl ?_
        refine I.getRA dX2_beginRound_48 jcls fX2_21 (shMA hm) (by decide) rfl (taM1A hm) ?_
        refine I.getRA dX2_beginRound_51 jcls fX2_70 (shSA hm) (by decide) rfl (taS6A hm) ?_
        refine J.iload_n 3 dX2_beginRound_54 rfl rfl ?_
        refine I.iconst dX2_beginRound_55 ?_
        refine I.callSN3vA (d' := d - 1) (mi' := mX8_put) dX2_beginRound_56 nX2_74 eX8_put (c_X8_putA (d := d - 1) hl (by omega) (shS6A hm) (by first | omega | assumption) (by first | omega | assumption)) (show d - 1 + 1 ≤ d from by omega) (Nat.le_of_ble_eq_true rfl) ?_
        refine J.aload_n 0 dX2_beginRound_59 rfl rfl ?_
        refine I.getRA dX2_beginRound_60 jcls fX2_21 (shMA hm) (by decide) rfl (taM1A hm) ?_
        refine I.getRA dX2_beginRound_63 jcls fX2_78 (shSA hm) (by decide) rfl (taS7A hm) ?_
        refine J.iload_n 3 dX2_beginRound_66 rfl rfl ?_
        refine I.iconst dX2_beginRound_67 ?_
        refine J.aload_n 0 dX2_beginRound_68 rfl rfl ?_
        refine I.getRA dX2_beginRound_69 jcls fX2_12 (shMA hm) (by decide) rfl (taM0A hm) ?_
        refine J.iload_n 1 dX2_beginRound_72 rfl rfl ?_
        refine J.iload_n 3 dX2_beginRound_73 rfl rfl ?_
        refine I.callV2iA (d' := d - 1) (mi' := mX1_lengthOf) dX2_beginRound_74 lX2_81 eX1_lengthOf (shLA hm) rfl (c_X1_lengthOfA (d := d - 1) hl (by omega) (yM hm) (RY.congr p0 fun q i q1 q2 => by (repeat (first | rw [up_ne (Or.inl (by omega))] | rw [up_ne (Or.inr (by omega))] | rw [cpA_ne (by omega)])); first | done | rfl) (by assumption) (by first | omega | assumption) (by first | omega | assumption)) (show d - 1 + 1 ≤ d from by omega) (Nat.le_of_ble_eq_true rfl) ?_
        refine I.iconst dX2_beginRound_77 ?_
        refine I.sub dX2_beginRound_78 ?_
        refine I.mmax dX2_beginRound_79 lX2_85 (by omega) (by have := hln 0 (by omega); have := hln (0 + 1) (by omega); have := hln (0 + 1 + 1) (by omega); split <;> omega) (Nat.le_of_ble_eq_true rfl) ?_
        refine I.callSN3vA (d' := d - 1) (mi' := mX8_put) dX2_beginRound_82 nX2_74 eX8_put (c_X8_putA (d := d - 1) hl (by omega) (shS7A hm) (by first | omega | assumption) (by first | omega | assumption)) (show d - 1 + 1 ≤ d from by omega) (Nat.le_of_ble_eq_true rfl) ?_
        refine I.iinc dX2_beginRound_85 rfl rfl ?_
        refine J.goto 42 dX2_beginRound_88 (by decide) ?_
        refine J.iload_n 3 dX2_beginRound_42 rfl rfl ?_
        refine I.iconst dX2_beginRound_43 ?_
        refine I.icmp_ge 91 dX2_beginRound_44 (by decide) (by omega) (by omega) (fun h44 => ?_) (fun h44 => ?_)
        · skip
          refine J.aload_n 0 dX2_beginRound_91 rfl rfl ?_
          refine I.getRA dX2_beginRound_92 jcls fX2_21 (shMA hm) (by decide) rfl (taM1A hm) ?_
          refine J.aload_n 0 dX2_beginRound_95 rfl rfl ?_
          refine I.callV0iA (d' := d - 1) (mi' := mX2_burnsNow) dX2_beginRound_96 lX2_90 eX2_burnsNow (shMA hm) rfl (c_X2_burnsNowA (d := d - 1) hl (by omega) hm) (show d - 1 + 1 ≤ d from by omega) (Nat.le_of_ble_eq_true rfl) ?_
          refine I.if_ne 106 dX2_beginRound_99 (by decide) (by have a0 := hln 0 (by omega); have a1 := hln 1 (by omega); have a2 := hln 2 (by omega); simp only [Int.add_zero] at a0; simp [up]; (repeat' split) <;> omega) (fun h99 => ?_) (fun h99 => ?_)
          · skip
            refine I.iconst dX2_beginRound_106 ?_
            refine I.pZA 4 rfl dX2_beginRound_107 jcls fX2_94 (shSA hm) (by decide) rfl (by first | exact Or.inl rfl | exact Or.inr rfl | exact bI_01 _ | omega) ?_
            exact I.vretQA dX2_beginRound_110 rfl (by
              have a0 := hln 0 (by omega); have a1 := hln 1 (by omega); have a2 := hln 2 (by omega)
              refine RM_deal p0 p1 p2 p3 p4 ?_ ?_ ?_ ?_ ?_ ?_ ?_ ?_ ?_
              · intro q i g; (repeat (first | rw [up_ne (Or.inl (by omega))] | rw [up_eqq ⟨by omega, by omega⟩] | rw [up_ne (Or.inr (by omega))] | rw [cpA_ne (by omega)] | rw [cpA_in ⟨by omega, by omega, by omega⟩])); first | done | rfl
              · (repeat (first | rw [up_ne (Or.inl (by omega))] | rw [up_eqq ⟨by omega, by omega⟩] | rw [up_ne (Or.inr (by omega))] | rw [cpA_ne (by omega)] | rw [cpA_in ⟨by omega, by omega, by omega⟩])); first | done | rfl
              · (repeat (first | rw [up_ne (Or.inl (by omega))] | rw [up_eqq ⟨by omega, by omega⟩] | rw [up_ne (Or.inr (by omega))] | rw [cpA_ne (by omega)] | rw [cpA_in ⟨by omega, by omega, by omega⟩])); first | done | rfl
              · (repeat (first | rw [up_ne (Or.inl (by omega))] | rw [up_eqq ⟨by omega, by omega⟩] | rw [up_ne (Or.inr (by omega))] | rw [cpA_ne (by omega)] | rw [cpA_in ⟨by omega, by omega, by omega⟩])); first | done | rfl
              · (repeat (first | rw [up_ne (Or.inl (by omega))] | rw [up_eqq ⟨by omega, by omega⟩] | rw [up_ne (Or.inr (by omega))] | rw [cpA_ne (by omega)] | rw [cpA_in ⟨by omega, by omega, by omega⟩])); first | done | rfl
              · (repeat (first | rw [up_ne (Or.inl (by omega))] | rw [up_eqq ⟨by omega, by omega⟩] | rw [up_ne (Or.inr (by omega))] | rw [cpA_ne (by omega)] | rw [cpA_in ⟨by omega, by omega, by omega⟩])); first | done | rfl
              · intro i g0 g1; have : i = 0 ∨ i = 1 ∨ i = 2 := by omega
                rcases this with rfl | rfl | rfl <;> ((repeat (first | rw [up_ne (Or.inl (by omega))] | rw [up_eqq ⟨by omega, by omega⟩] | rw [up_ne (Or.inr (by omega))] | rw [cpA_ne (by omega)] | rw [cpA_in ⟨by omega, by omega, by omega⟩])); first | done | rfl)
              · intro i g0 g1; have : i = 0 ∨ i = 1 ∨ i = 2 := by omega
                rcases this with rfl | rfl | rfl <;> ((repeat (first | rw [up_ne (Or.inl (by omega))] | rw [up_eqq ⟨by omega, by omega⟩] | rw [up_ne (Or.inr (by omega))])); (try simp only [Int.zero_add, Int.reduceAdd]); split <;> omega)
              · first | exact (bI_t (by assumption)).symm | exact (bI_f (by assumption)).symm)
          · skip
            refine I.iconst dX2_beginRound_102 ?_
            refine J.goto 107 dX2_beginRound_103 (by decide) ?_
            refine I.pZA 4 rfl dX2_beginRound_107 jcls fX2_94 (shSA hm) (by decide) rfl (by first | exact Or.inl rfl | exact Or.inr rfl | exact bI_01 _ | omega) ?_
            exact I.vretQA dX2_beginRound_110 rfl (by
              have a0 := hln 0 (by omega); have a1 := hln 1 (by omega); have a2 := hln 2 (by omega)
              refine RM_deal p0 p1 p2 p3 p4 ?_ ?_ ?_ ?_ ?_ ?_ ?_ ?_ ?_
              · intro q i g; (repeat (first | rw [up_ne (Or.inl (by omega))] | rw [up_eqq ⟨by omega, by omega⟩] | rw [up_ne (Or.inr (by omega))] | rw [cpA_ne (by omega)] | rw [cpA_in ⟨by omega, by omega, by omega⟩])); first | done | rfl
              · (repeat (first | rw [up_ne (Or.inl (by omega))] | rw [up_eqq ⟨by omega, by omega⟩] | rw [up_ne (Or.inr (by omega))] | rw [cpA_ne (by omega)] | rw [cpA_in ⟨by omega, by omega, by omega⟩])); first | done | rfl
              · (repeat (first | rw [up_ne (Or.inl (by omega))] | rw [up_eqq ⟨by omega, by omega⟩] | rw [up_ne (Or.inr (by omega))] | rw [cpA_ne (by omega)] | rw [cpA_in ⟨by omega, by omega, by omega⟩])); first | done | rfl
              · (repeat (first | rw [up_ne (Or.inl (by omega))] | rw [up_eqq ⟨by omega, by omega⟩] | rw [up_ne (Or.inr (by omega))] | rw [cpA_ne (by omega)] | rw [cpA_in ⟨by omega, by omega, by omega⟩])); first | done | rfl
              · (repeat (first | rw [up_ne (Or.inl (by omega))] | rw [up_eqq ⟨by omega, by omega⟩] | rw [up_ne (Or.inr (by omega))] | rw [cpA_ne (by omega)] | rw [cpA_in ⟨by omega, by omega, by omega⟩])); first | done | rfl
              · (repeat (first | rw [up_ne (Or.inl (by omega))] | rw [up_eqq ⟨by omega, by omega⟩] | rw [up_ne (Or.inr (by omega))] | rw [cpA_ne (by omega)] | rw [cpA_in ⟨by omega, by omega, by omega⟩])); first | done | rfl
              · intro i g0 g1; have : i = 0 ∨ i = 1 ∨ i = 2 := by omega
                rcases this with rfl | rfl | rfl <;> ((repeat (first | rw [up_ne (Or.inl (by omega))] | rw [up_eqq ⟨by omega, by omega⟩] | rw [up_ne (Or.inr (by omega))] | rw [cpA_ne (by omega)] | rw [cpA_in ⟨by omega, by omega, by omega⟩])); first | done | rfl)
              · intro i g0 g1; have : i = 0 ∨ i = 1 ∨ i = 2 := by omega
                rcases this with rfl | rfl | rfl <;> ((repeat (first | rw [up_ne (Or.inl (by omega))] | rw [up_eqq ⟨by omega, by omega⟩] | rw [up_ne (Or.inr (by omega))])); (try simp only [Int.zero_add, Int.reduceAdd]); split <;> omega)
              · first | exact (bI_t (by assumption)).symm | exact (bI_f (by assumption)).symm)
        · exact absurd h44 (by omega)
set_option maxHeartbeats 1000000 in
theorem c_X2_beginMatchA {Γ : jE} (hl : Γ.1.stackTraces = false) {s : Nat → Int → Int} {ε : jEps} {d : Nat} {m : Nat} {f : Int → Int} (hd : 3 ≤ d) (hm : jIsM m) (p0 : RY s (m + 1) f) (p1 : FL f) (p2 : ∀ j, 6 ≤ j → j < 18 → f j = 0) : Con Γ (d, 0, 0) mX2_beginMatch [.ref m] (jmemA s ε) (RWA (fun s' => RM s' m (gDeal f 0 0) ∧ ∀ q i, (q < m + 7 ∨ m + 15 ≤ q) → s' q i = s q i) ε) X0 := by
  refine Con.ofJ (by decide +kernel) (by simp [Value.category]) (Nat.le_of_ble_eq_true rfl) ?_ hl
  have hr := FL.rn p1
  refine J.aload_n 0 dX2_beginMatch_0 rfl rfl ?_
  refine I.getRA dX2_beginMatch_1 jcls fX2_21 (shMA hm) (by decide) rfl (taM1A hm) ?_
  refine I.callV0wA (d' := d - 1) (mi' := mX6_clearCounts) dX2_beginMatch_4 lX2_48 eX6_clearCounts (shSA hm) rfl (c_X6_clearCountsA (d := d - 1) hl (by omega) (tM hm)) (show d - 1 + 1 ≤ d from by omega) (Nat.le_of_ble_eq_true rfl) ?_
  rintro s1 ⟨a, a3, a4, a5⟩
  refine J.aload_n 0 dX2_beginMatch_7 rfl rfl ?_
  refine I.iconst dX2_beginMatch_8 ?_
  refine I.iconst dX2_beginMatch_9 ?_
  refine I.callV2wA (d' := d - 1) (mi' := mX2_beginRound) dX2_beginMatch_10 lX2_51 eX2_beginRound (shMA hm) rfl (c_X2_beginRoundA (d := d - 1) hl (f := f) (by omega) hm (p0.congr fun q i q1 q2 => a q i (by omega)) p1 ⟨fun r p r0 r1 p0' p1' => by rw [p2 _ (by omega) (by omega)]; exact a3 _ (by omega) (by omega), fun p p0' p1' => by rw [p2 _ (by omega) (by omega)]; exact a4 _ (by omega) (by omega), fun p p0' p1' => by rw [p2 _ (by omega) (by omega)]; exact a5 _ (by omega) (by omega)⟩ ⟨by omega, fun x p x0 x1 p0' p1' => by rw [p2 _ (by omega) (by omega), if_neg (by omega)]; omega, fun p p0' p1' => by rw [p2 _ (by omega) (by omega)]; omega⟩ (by first | omega | assumption)) (show d - 1 + 1 ≤ d from by omega) (Nat.le_of_ble_eq_true rfl) ?_
  rintro s10 h10
  exact I.vretQA dX2_beginMatch_13 rfl ⟨h10.1, fun q i g => by rw [h10.2 q i g, a q i (by omega)]⟩
set_option maxHeartbeats 1000000 in
theorem c_X1_clearA {Γ : jE} (hl : Γ.1.stackTraces = false) {s : Nat → Int → Int} {ε : jEps} {d : Nat} {y : Nat} (hd : 0 ≤ d) (hy : jIsY y) : Con Γ (d, 0, 0) mX1_clear [.ref y] (jmemA s ε) (RVA (up s y 0 0) ε) X0 := by
  refine Con.ofJ (by decide +kernel) (by simp [Value.category]) (Nat.le_of_ble_eq_true rfl) ?_ hl
  refine J.aload_n 0 dX1_clear_0 rfl rfl ?_
  refine I.iconst dX1_clear_1 ?_
  refine I.pIA 0 rfl dX1_clear_2 jcls fX1_27 (shYA hy) (by decide) rfl ?_
  exact I.vretA dX1_clear_5 rfl rfl
set_option maxHeartbeats 1000000 in
theorem c_X1_lengthOfPA {Γ : jE} (hl : Γ.1.stackTraces = false) {s : Nat → Int → Int} {ε : jEps} {d : Nat} {y : Nat} {r : Int} {c : Int} {g : Int → Int} (hd : 1 ≤ d) (hy : jIsY y) (p0 : RY s y g) (p1 : FP g) (p2 : 0 ≤ r ∧ r < g 0) (p3 : 0 ≤ c ∧ c < g (18 + r)) : Con Γ (d, 0, 0) mX1_lengthOf [.ref y, .int (iI r), .int (iI c)] (jmemA s ε) (RIA (g (22 + 3 * r + c)) (s) ε) X0 := by
  refine Con.ofJ (by decide +kernel) (by simp [Value.category]) (Nat.le_of_ble_eq_true rfl) ?_ hl
  have f1 := p1.1
  have f2 := p1.2.1
  have f3 := p1.2.2.1
  have x2 := f2 r (by omega) (by omega)
  refine J.iload_n 2 dX1_lengthOf_0 rfl rfl ?_
  refine J.aload_n 0 dX1_lengthOf_1 rfl rfl ?_
  refine I.getRA dX1_lengthOf_2 jcls fX1_9 (shYA hy) (by decide) rfl (taY1A hy) ?_
  refine J.iload_n 1 dX1_lengthOf_5 rfl rfl ?_
  refine I.callSN2iA (d' := d - 1) (mi' := mX8_at) dX1_lengthOf_6 nX1_39 eX8_at (c_X8_atA (d := d - 1) hl (by omega) (shY1A hy) (by first | omega | assumption) (by first | omega | assumption)) (show d - 1 + 1 ≤ d from by omega) (Nat.le_of_ble_eq_true rfl) ?_
  refine I.sx (p0.ch r p2.1 p2.2) ?_
  refine I.icmp_ge 27 dX1_lengthOf_9 (by decide) (by omega) (by omega) (fun h9 => ?_) (fun h9 => ?_)
  · exact absurd h9 (by omega)
  · skip
    refine J.aload_n 0 dX1_lengthOf_12 rfl rfl ?_
    refine I.getRA dX1_lengthOf_13 jcls fX1_15 (shYA hy) (by decide) rfl (taY2A hy) ?_
    refine J.iload_n 1 dX1_lengthOf_16 rfl rfl ?_
    refine I.iconst dX1_lengthOf_17 ?_
    refine I.mul dX1_lengthOf_18 ?_
    refine J.iload_n 2 dX1_lengthOf_19 rfl rfl ?_
    refine I.add dX1_lengthOf_20 ?_
    refine I.callSN2iA (d' := d - 1) (mi' := mX8_at) dX1_lengthOf_21 nX1_39 eX8_at (c_X8_atA (d := d - 1) hl (by omega) (shY2A hy) (by first | omega | assumption) (by first | omega | assumption)) (show d - 1 + 1 ≤ d from by omega) (Nat.le_of_ble_eq_true rfl) ?_
    refine I.sx (p0.len r c p2.1 p2.2 p3.1 p3.2) ?_
    refine J.goto 28 dX1_lengthOf_24 (by decide) ?_
    exact I.iretIA dX1_lengthOf_28 rfl (by first | rfl | omega) rfl
set_option maxHeartbeats 1000000 in
theorem c_X1_openRoundA {Γ : jE} (hl : Γ.1.stackTraces = false) {s : Nat → Int → Int} {ε : jEps} {d : Nat} {y : Nat} {g : Int → Int} (hd : 1 ≤ d) (hy : jIsY y) (p0 : RY s y g) (p1 : FP g) (p2 : g 0 < 4) : Con Γ (d, 0, 0) mX1_openRound [.ref y] (jmemA s ε) (RWA (fun s' => RY s' y (gORd g) ∧ ∀ q i, (q < y ∨ y + 6 ≤ q) → s' q i = s q i) ε) X0 := by
  refine Con.ofJ (by decide +kernel) (by simp [Value.category]) (Nat.le_of_ble_eq_true rfl) ?_ hl
  have f1 := p1.1
  have f2 := p1.2.1
  have f3 := p1.2.2.1
  refine J.aload_n 0 dX1_openRound_0 rfl rfl ?_
  refine I.getRA dX1_openRound_1 jcls fX1_9 (shYA hy) (by decide) rfl (taY1A hy) ?_
  refine J.aload_n 0 dX1_openRound_4 rfl rfl ?_
  refine I.gIA 0 rfl dX1_openRound_5 jcls fX1_27 (shYA hy) (by decide) rfl ?_
  refine I.sx p0.rn ?_
  refine I.iconst dX1_openRound_8 ?_
  refine I.callSN3vA (d' := d - 1) (mi' := mX8_put) dX1_openRound_9 nX1_35 eX8_put (c_X8_putA (d := d - 1) hl (by omega) (shY1A hy) (by first | omega | assumption) (by first | omega | assumption)) (show d - 1 + 1 ≤ d from by omega) (Nat.le_of_ble_eq_true rfl) ?_
  refine J.aload_n 0 dX1_openRound_12 rfl rfl ?_
  refine J.dupR dX1_openRound_13 ?_
  refine I.gIA 0 rfl dX1_openRound_14 jcls fX1_27 (shYA hy) (by decide) rfl ?_
  refine I.sx ((up_ne (by omega)).trans p0.rn) ?_
  refine I.iconst dX1_openRound_17 ?_
  refine I.add dX1_openRound_18 ?_
  refine I.pIA 0 rfl dX1_openRound_19 jcls fX1_27 (shYA hy) (by decide) rfl ?_
  exact I.vretQA dX1_openRound_22 rfl ⟨p0.ord p1 p2, fun q i h => (up_ne (by omega)).trans (up_ne (by omega))⟩
set_option maxHeartbeats 1000000 in
theorem c_X1_openChainA {Γ : jE} (hl : Γ.1.stackTraces = false) {s : Nat → Int → Int} {ε : jEps} {d : Nat} {y : Nat} {g : Int → Int} (hd : 1 ≤ d) (hy : jIsY y) (p0 : RY s y g) (p1 : FP g) (p2 : 1 ≤ g 0) (p3 : g (18 + (g 0 - 1)) < 3) : Con Γ (d, 0, 0) mX1_openChain [.ref y] (jmemA s ε) (RWA (fun s' => RY s' y (gOCh g (g 0 - 1)) ∧ ∀ q i, (q < y ∨ y + 6 ≤ q) → s' q i = s q i) ε) X0 := by
  refine Con.ofJ (by decide +kernel) (by simp [Value.category]) (Nat.le_of_ble_eq_true rfl) ?_ hl
  have f1 := p1.1
  have f2 := p1.2.1
  have f3 := p1.2.2.1
  have x2 := f2 (g 0 - 1) (by omega) (by omega)
  refine J.aload_n 0 dX1_openChain_0 rfl rfl ?_
  refine I.gIA 0 rfl dX1_openChain_1 jcls fX1_27 (shYA hy) (by decide) rfl ?_
  refine I.sx p0.rn ?_
  refine I.iconst dX1_openChain_4 ?_
  refine I.sub dX1_openChain_5 ?_
  refine J.istore_n 1 dX1_openChain_6 rfl (by decide) rfl ?_
  refine J.aload_n 0 dX1_openChain_7 rfl rfl ?_
  refine I.getRA dX1_openChain_8 jcls fX1_9 (shYA hy) (by decide) rfl (taY1A hy) ?_
  refine J.iload_n 1 dX1_openChain_11 rfl rfl ?_
  refine I.callSN2iA (d' := d - 1) (mi' := mX8_at) dX1_openChain_12 nX1_39 eX8_at (c_X8_atA (d := d - 1) hl (by omega) (shY1A hy) (by first | omega | assumption) (by first | omega | assumption)) (show d - 1 + 1 ≤ d from by omega) (Nat.le_of_ble_eq_true rfl) ?_
  refine I.sx (p0.ch (g 0 - 1) (by omega) (by omega)) ?_
  refine J.istore_n 2 dX1_openChain_15 rfl (by decide) rfl ?_
  refine J.aload_n 0 dX1_openChain_16 rfl rfl ?_
  refine I.getRA dX1_openChain_17 jcls fX1_15 (shYA hy) (by decide) rfl (taY2A hy) ?_
  refine J.iload_n 1 dX1_openChain_20 rfl rfl ?_
  refine I.iconst dX1_openChain_21 ?_
  refine I.mul dX1_openChain_22 ?_
  refine J.iload_n 2 dX1_openChain_23 rfl rfl ?_
  refine I.add dX1_openChain_24 ?_
  refine I.iconst dX1_openChain_25 ?_
  refine I.callSN3vA (d' := d - 1) (mi' := mX8_put) dX1_openChain_26 nX1_35 eX8_put (c_X8_putA (d := d - 1) hl (by omega) (shY2A hy) (by first | omega | assumption) (by first | omega | assumption)) (show d - 1 + 1 ≤ d from by omega) (Nat.le_of_ble_eq_true rfl) ?_
  refine J.aload_n 0 dX1_openChain_29 rfl rfl ?_
  refine I.getRA dX1_openChain_30 jcls fX1_9 (shYA hy) (by decide) rfl (taY1A hy) ?_
  refine J.iload_n 1 dX1_openChain_33 rfl rfl ?_
  refine J.iload_n 2 dX1_openChain_34 rfl rfl ?_
  refine I.iconst dX1_openChain_35 ?_
  refine I.add dX1_openChain_36 ?_
  refine I.callSN3vA (d' := d - 1) (mi' := mX8_put) dX1_openChain_37 nX1_35 eX8_put (c_X8_putA (d := d - 1) hl (by omega) (shY1A hy) (by first | omega | assumption) (by first | omega | assumption)) (show d - 1 + 1 ≤ d from by omega) (Nat.le_of_ble_eq_true rfl) ?_
  exact I.vretQA dX1_openChain_40 rfl ⟨p0.och p1 (by omega) (by omega) p3, fun q i h => (up_ne (by omega)).trans (up_ne (by omega))⟩
set_option maxHeartbeats 1000000 in
theorem c_X1_addTileA {Γ : jE} (hl : Γ.1.stackTraces = false) {s : Nat → Int → Int} {ε : jEps} {d : Nat} {y : Nat} {a : Int} {b : Int} {g : Int → Int} {c t : Int} (hd : 2 ≤ d) (hy : jIsY y) (p0 : RY s y g) (p1 : FP g) (p2 : 1 ≤ g 0) (p3 : c = g (18 + (g 0 - 1)) - 1 ∧ 0 ≤ c) (p4 : t = g (22 + 3 * (g 0 - 1) + c) ∧ t < 8) (p5 : 0 ≤ a ∧ a ≤ 6) (p6 : 0 ≤ b ∧ b ≤ 6) : Con Γ (d, 0, 0) mX1_addTile [.ref y, .int (iI a), .int (iI b)] (jmemA s ε) (RWA (fun s' => RY s' y (gAdd g (g 0 - 1) c t (10 * a + b)) ∧ ∀ q i, (q < y ∨ y + 6 ≤ q) → s' q i = s q i) ε) X0 := by
  refine Con.ofJ (by decide +kernel) (by simp [Value.category]) (Nat.le_of_ble_eq_true rfl) ?_ hl
  have f1 := p1.1
  have f2 := p1.2.1
  have f3 := p1.2.2.1
  have x2 := f2 (g 0 - 1) (by omega) (by omega)
  have x3 := f3 (g 0 - 1) c (by omega) (by omega) (by omega) (by omega)
  refine J.aload_n 0 dX1_addTile_0 rfl rfl ?_
  refine I.gIA 0 rfl dX1_addTile_1 jcls fX1_27 (shYA hy) (by decide) rfl ?_
  refine I.sx p0.rn ?_
  refine I.iconst dX1_addTile_4 ?_
  refine I.sub dX1_addTile_5 ?_
  refine J.istore_n 3 dX1_addTile_6 rfl (by decide) rfl ?_
  refine J.aload_n 0 dX1_addTile_7 rfl rfl ?_
  refine I.getRA dX1_addTile_8 jcls fX1_9 (shYA hy) (by decide) rfl (taY1A hy) ?_
  refine J.iload_n 3 dX1_addTile_11 rfl rfl ?_
  refine I.callSN2iA (d' := d - 1) (mi' := mX8_at) dX1_addTile_12 nX1_39 eX8_at (c_X8_atA (d := d - 1) hl (by omega) (shY1A hy) (by first | omega | assumption) (by first | omega | assumption)) (show d - 1 + 1 ≤ d from by omega) (Nat.le_of_ble_eq_true rfl) ?_
  refine I.sx (p0.ch (g 0 - 1) (by omega) (by omega)) ?_
  refine I.iconst dX1_addTile_15 ?_
  refine I.sub dX1_addTile_16 ?_
  refine I.sx (show g (18 + (g 0 - 1)) - 1 = c from by omega) ?_
  refine J.istore dX1_addTile_17 (by decide) rfl ?_
  refine J.aload_n 0 dX1_addTile_19 rfl rfl ?_
  refine J.iload_n 3 dX1_addTile_20 rfl rfl ?_
  refine J.iload dX1_addTile_21 rfl ?_
  refine I.callV2iA (d' := d - 1) (mi' := mX1_lengthOf) dX1_addTile_23 lX1_43 eX1_lengthOf (shYA hy) rfl (c_X1_lengthOfPA (d := d - 1) hl (by omega) hy (by assumption) (by assumption) (by first | omega | assumption) (by first | omega | assumption)) (show d - 1 + 1 ≤ d from by omega) (Nat.le_of_ble_eq_true rfl) ?_
  refine I.sx p4.1.symm ?_
  refine J.istore dX1_addTile_26 (by decide) rfl ?_
  refine J.aload_n 0 dX1_addTile_28 rfl rfl ?_
  refine J.iload_n 3 dX1_addTile_29 rfl rfl ?_
  refine J.iload dX1_addTile_30 rfl ?_
  refine J.iload dX1_addTile_32 rfl ?_
  refine I.callV3iA (d' := d - 1) (mi' := mX1_slotOf) dX1_addTile_34 lX1_47 eX1_slotOf (shYA hy) rfl (c_X1_slotOfA (d := d - 1) hl (by omega) hy) (show d - 1 + 1 ≤ d from by omega) (Nat.le_of_ble_eq_true rfl) ?_
  refine J.istore dX1_addTile_37 (by decide) rfl ?_
  refine J.aload_n 0 dX1_addTile_39 rfl rfl ?_
  refine I.getRA dX1_addTile_40 jcls fX1_18 (shYA hy) (by decide) rfl (taY3A hy) ?_
  refine J.iload dX1_addTile_43 rfl ?_
  refine J.iload_n 1 dX1_addTile_45 rfl rfl ?_
  refine I.callSN3vA (d' := d - 1) (mi' := mX8_put) dX1_addTile_46 nX1_35 eX8_put (c_X8_putA (d := d - 1) hl (by omega) (shY3A hy) (by first | omega | assumption) (by first | omega | assumption)) (show d - 1 + 1 ≤ d from by omega) (Nat.le_of_ble_eq_true rfl) ?_
  refine J.aload_n 0 dX1_addTile_49 rfl rfl ?_
  refine I.getRA dX1_addTile_50 jcls fX1_21 (shYA hy) (by decide) rfl (taY4A hy) ?_
  refine J.iload dX1_addTile_53 rfl ?_
  refine J.iload_n 2 dX1_addTile_55 rfl rfl ?_
  refine I.callSN3vA (d' := d - 1) (mi' := mX8_put) dX1_addTile_56 nX1_35 eX8_put (c_X8_putA (d := d - 1) hl (by omega) (shY4A hy) (by first | omega | assumption) (by first | omega | assumption)) (show d - 1 + 1 ≤ d from by omega) (Nat.le_of_ble_eq_true rfl) ?_
  refine J.aload_n 0 dX1_addTile_59 rfl rfl ?_
  refine I.getRA dX1_addTile_60 jcls fX1_24 (shYA hy) (by decide) rfl (taY5A hy) ?_
  refine J.iload dX1_addTile_63 rfl ?_
  refine J.iload_n 1 dX1_addTile_65 rfl rfl ?_
  refine J.iload_n 2 dX1_addTile_66 rfl rfl ?_
  refine I.icmp_ne 78 dX1_addTile_67 (by decide) (by omega) (by omega) (fun h67 => ?_) (fun h67 => ?_)
  · skip
    refine J.iload_n 1 dX1_addTile_78 rfl rfl ?_
    refine J.iload_n 2 dX1_addTile_79 rfl rfl ?_
    refine I.add dX1_addTile_80 ?_
    refine I.sx (show _ = (if a = b then 2 * (a + b) else a + b) from (if_neg h67).symm) ?_
    refine I.callSN3vA (d' := d - 1) (mi' := mX8_put) dX1_addTile_81 nX1_35 eX8_put (c_X8_putA (d := d - 1) hl (by omega) (shY5A hy) (by first | omega | assumption) (by first | omega | assumption)) (show d - 1 + 1 ≤ d from by omega) (Nat.le_of_ble_eq_true rfl) ?_
    refine J.aload_n 0 dX1_addTile_84 rfl rfl ?_
    refine I.getRA dX1_addTile_85 jcls fX1_15 (shYA hy) (by decide) rfl (taY2A hy) ?_
    refine J.iload_n 3 dX1_addTile_88 rfl rfl ?_
    refine I.iconst dX1_addTile_89 ?_
    refine I.mul dX1_addTile_90 ?_
    refine J.iload dX1_addTile_91 rfl ?_
    refine I.add dX1_addTile_93 ?_
    refine J.iload dX1_addTile_94 rfl ?_
    refine I.iconst dX1_addTile_96 ?_
    refine I.add dX1_addTile_97 ?_
    refine I.callSN3vA (d' := d - 1) (mi' := mX8_put) dX1_addTile_98 nX1_35 eX8_put (c_X8_putA (d := d - 1) hl (by omega) (shY2A hy) (by first | omega | assumption) (by first | omega | assumption)) (show d - 1 + 1 ≤ d from by omega) (Nat.le_of_ble_eq_true rfl) ?_
    exact I.vretQA dX1_addTile_101 rfl ⟨p0.add p1 (by omega) (by omega) (by omega) (by omega) p4.1 p4.2 p5 p6, fun q i h => (up_ne (by omega)).trans ((up_ne (by omega)).trans ((up_ne (by omega)).trans (up_ne (by omega))))⟩
  · skip
    refine I.iconst dX1_addTile_70 ?_
    refine J.iload_n 1 dX1_addTile_71 rfl rfl ?_
    refine J.iload_n 2 dX1_addTile_72 rfl rfl ?_
    refine I.add dX1_addTile_73 ?_
    refine I.mul dX1_addTile_74 ?_
    refine J.goto 81 dX1_addTile_75 (by decide) ?_
    refine I.sx (show _ = (if a = b then 2 * (a + b) else a + b) from (if_pos h67).symm) ?_
    refine I.callSN3vA (d' := d - 1) (mi' := mX8_put) dX1_addTile_81 nX1_35 eX8_put (c_X8_putA (d := d - 1) hl (by omega) (shY5A hy) (by first | omega | assumption) (by first | omega | assumption)) (show d - 1 + 1 ≤ d from by omega) (Nat.le_of_ble_eq_true rfl) ?_
    refine J.aload_n 0 dX1_addTile_84 rfl rfl ?_
    refine I.getRA dX1_addTile_85 jcls fX1_15 (shYA hy) (by decide) rfl (taY2A hy) ?_
    refine J.iload_n 3 dX1_addTile_88 rfl rfl ?_
    refine I.iconst dX1_addTile_89 ?_
    refine I.mul dX1_addTile_90 ?_
    refine J.iload dX1_addTile_91 rfl ?_
    refine I.add dX1_addTile_93 ?_
    refine J.iload dX1_addTile_94 rfl ?_
    refine I.iconst dX1_addTile_96 ?_
    refine I.add dX1_addTile_97 ?_
    refine I.callSN3vA (d' := d - 1) (mi' := mX8_put) dX1_addTile_98 nX1_35 eX8_put (c_X8_putA (d := d - 1) hl (by omega) (shY2A hy) (by first | omega | assumption) (by first | omega | assumption)) (show d - 1 + 1 ≤ d from by omega) (Nat.le_of_ble_eq_true rfl) ?_
    exact I.vretQA dX1_addTile_101 rfl ⟨p0.add p1 (by omega) (by omega) (by omega) (by omega) p4.1 p4.2 p5 p6, fun q i h => (up_ne (by omega)).trans ((up_ne (by omega)).trans ((up_ne (by omega)).trans (up_ne (by omega))))⟩
set_option maxHeartbeats 1000000 in
theorem c_X2_setUpFirstA {Γ : jE} (hl : Γ.1.stackTraces = false) {s : Nat → Int → Int} {ε : jEps} {d : Nat} {m : Nat} (hd : 4 ≤ d) (hm : jIsM m) : Con Γ (d, 0, 0) mX2_setUpFirst [.ref m] (jmemA s ε) (RWA (fun s' => RM s' m (gDeal iG9 0 0) ∧ ∀ q i, (q < m + 1 ∨ m + 15 ≤ q) → s' q i = s q i) ε) X0 := by
  refine Con.ofJ (by decide +kernel) (by simp [Value.category]) (Nat.le_of_ble_eq_true rfl) ?_ hl
  refine J.aload_n 0 dX2_setUpFirst_0 rfl rfl ?_
  refine I.getRA dX2_setUpFirst_1 jcls fX2_12 (shMA hm) (by decide) rfl (taM0A hm) ?_
  refine I.callV0vA (d' := d - 1) (mi' := mX1_clear) dX2_setUpFirst_4 lX2_32 eX1_clear (shLA hm) rfl (c_X1_clearA (d := d - 1) hl (by omega) (yM hm)) (show d - 1 + 1 ≤ d from by omega) (Nat.le_of_ble_eq_true rfl) ?_
  have y4 : RY (up s (m + 1) 0 0) (m + 1) iG0 := ⟨up_eq _ _ _ _, fun r a (b : r < 0) => by omega, fun r c a (b : r < 0) => by omega, fun r c t a (b : r < 0) => by omega, fun r c t a (b : r < 0) => by omega, fun r c t a (b : r < 0) => by omega⟩
  refine J.aload_n 0 dX2_setUpFirst_7 rfl rfl ?_
  refine I.getRA dX2_setUpFirst_8 jcls fX2_12 (shMA hm) (by decide) rfl (taM0A hm) ?_
  refine I.callV0wA (d' := d - 1) (mi' := mX1_openRound) dX2_setUpFirst_11 lX2_35 eX1_openRound (shLA hm) rfl (c_X1_openRoundA (d := d - 1) hl (g := iG0) (by omega) (yM hm) y4 pG0 (by decide +kernel)) (show d - 1 + 1 ≤ d from by omega) (Nat.le_of_ble_eq_true rfl) ?_
  rintro s11 ⟨r11, f11⟩
  refine J.aload_n 0 dX2_setUpFirst_14 rfl rfl ?_
  refine I.getRA dX2_setUpFirst_15 jcls fX2_12 (shMA hm) (by decide) rfl (taM0A hm) ?_
  refine I.callV0wA (d' := d - 1) (mi' := mX1_openChain) dX2_setUpFirst_18 lX2_38 eX1_openChain (shLA hm) rfl (c_X1_openChainA (d := d - 1) hl (by omega) (yM hm) r11 pG1 (by decide +kernel) (by decide +kernel)) (show d - 1 + 1 ≤ d from by omega) (Nat.le_of_ble_eq_true rfl) ?_
  rintro s18 ⟨r18, f18⟩
  refine J.aload_n 0 dX2_setUpFirst_21 rfl rfl ?_
  refine I.getRA dX2_setUpFirst_22 jcls fX2_12 (shMA hm) (by decide) rfl (taM0A hm) ?_
  refine I.iconst dX2_setUpFirst_25 ?_
  refine I.iconst dX2_setUpFirst_26 ?_
  refine I.callV2wA (d' := d - 1) (mi' := mX1_addTile) dX2_setUpFirst_27 lX2_41 eX1_addTile (shLA hm) rfl (c_X1_addTileA (d := d - 1) hl (c := 0) (t := 0) (by omega) (yM hm) r18 pG2 (by decide +kernel) (by decide +kernel) (by decide +kernel) (by decide) (by decide)) (show d - 1 + 1 ≤ d from by omega) (Nat.le_of_ble_eq_true rfl) ?_
  rintro s27 ⟨r27, f27⟩
  refine J.aload_n 0 dX2_setUpFirst_30 rfl rfl ?_
  refine I.getRA dX2_setUpFirst_31 jcls fX2_12 (shMA hm) (by decide) rfl (taM0A hm) ?_
  refine I.iconst dX2_setUpFirst_34 ?_
  refine I.bipush dX2_setUpFirst_35 (by decide) ?_
  refine I.callV2wA (d' := d - 1) (mi' := mX1_addTile) dX2_setUpFirst_37 lX2_41 eX1_addTile (shLA hm) rfl (c_X1_addTileA (d := d - 1) hl (c := 0) (t := 1) (by omega) (yM hm) r27 pG3 (by decide +kernel) (by decide +kernel) (by decide +kernel) (by decide) (by decide)) (show d - 1 + 1 ≤ d from by omega) (Nat.le_of_ble_eq_true rfl) ?_
  rintro s37 ⟨r37, f37⟩
  refine J.aload_n 0 dX2_setUpFirst_40 rfl rfl ?_
  refine I.getRA dX2_setUpFirst_41 jcls fX2_12 (shMA hm) (by decide) rfl (taM0A hm) ?_
  refine I.bipush dX2_setUpFirst_44 (by decide) ?_
  refine I.iconst dX2_setUpFirst_46 ?_
  refine I.callV2wA (d' := d - 1) (mi' := mX1_addTile) dX2_setUpFirst_47 lX2_41 eX1_addTile (shLA hm) rfl (c_X1_addTileA (d := d - 1) hl (c := 0) (t := 2) (by omega) (yM hm) r37 pG4 (by decide +kernel) (by decide +kernel) (by decide +kernel) (by decide) (by decide)) (show d - 1 + 1 ≤ d from by omega) (Nat.le_of_ble_eq_true rfl) ?_
  rintro s47 ⟨r47, f47⟩
  refine J.aload_n 0 dX2_setUpFirst_50 rfl rfl ?_
  refine I.getRA dX2_setUpFirst_51 jcls fX2_12 (shMA hm) (by decide) rfl (taM0A hm) ?_
  refine I.callV0wA (d' := d - 1) (mi' := mX1_openChain) dX2_setUpFirst_54 lX2_38 eX1_openChain (shLA hm) rfl (c_X1_openChainA (d := d - 1) hl (by omega) (yM hm) r47 pG5 (by decide +kernel) (by decide +kernel)) (show d - 1 + 1 ≤ d from by omega) (Nat.le_of_ble_eq_true rfl) ?_
  rintro s54 ⟨r54, f54⟩
  refine J.aload_n 0 dX2_setUpFirst_57 rfl rfl ?_
  refine I.getRA dX2_setUpFirst_58 jcls fX2_12 (shMA hm) (by decide) rfl (taM0A hm) ?_
  refine I.iconst dX2_setUpFirst_61 ?_
  refine I.iconst dX2_setUpFirst_62 ?_
  refine I.callV2wA (d' := d - 1) (mi' := mX1_addTile) dX2_setUpFirst_63 lX2_41 eX1_addTile (shLA hm) rfl (c_X1_addTileA (d := d - 1) hl (c := 1) (t := 0) (by omega) (yM hm) r54 pG6 (by decide +kernel) (by decide +kernel) (by decide +kernel) (by decide) (by decide)) (show d - 1 + 1 ≤ d from by omega) (Nat.le_of_ble_eq_true rfl) ?_
  rintro s63 ⟨r63, f63⟩
  refine J.aload_n 0 dX2_setUpFirst_66 rfl rfl ?_
  refine I.getRA dX2_setUpFirst_67 jcls fX2_12 (shMA hm) (by decide) rfl (taM0A hm) ?_
  refine I.iconst dX2_setUpFirst_70 ?_
  refine I.iconst dX2_setUpFirst_71 ?_
  refine I.callV2wA (d' := d - 1) (mi' := mX1_addTile) dX2_setUpFirst_72 lX2_41 eX1_addTile (shLA hm) rfl (c_X1_addTileA (d := d - 1) hl (c := 1) (t := 1) (by omega) (yM hm) r63 pG7 (by decide +kernel) (by decide +kernel) (by decide +kernel) (by decide) (by decide)) (show d - 1 + 1 ≤ d from by omega) (Nat.le_of_ble_eq_true rfl) ?_
  rintro s72 ⟨r72, f72⟩
  refine J.aload_n 0 dX2_setUpFirst_75 rfl rfl ?_
  refine I.getRA dX2_setUpFirst_76 jcls fX2_12 (shMA hm) (by decide) rfl (taM0A hm) ?_
  refine I.iconst dX2_setUpFirst_79 ?_
  refine I.iconst dX2_setUpFirst_80 ?_
  refine I.callV2wA (d' := d - 1) (mi' := mX1_addTile) dX2_setUpFirst_81 lX2_41 eX1_addTile (shLA hm) rfl (c_X1_addTileA (d := d - 1) hl (c := 1) (t := 2) (by omega) (yM hm) r72 pG8 (by decide +kernel) (by decide +kernel) (by decide +kernel) (by decide) (by decide)) (show d - 1 + 1 ≤ d from by omega) (Nat.le_of_ble_eq_true rfl) ?_
  rintro s81 ⟨r81, f81⟩
  refine J.aload_n 0 dX2_setUpFirst_84 rfl rfl ?_
  refine I.callV0wA (d' := d - 1) (mi' := mX2_beginMatch) dX2_setUpFirst_85 lX2_45 eX2_beginMatch (shMA hm) rfl (c_X2_beginMatchA (d := d - 1) hl (by omega) hm r81 iG_l (fun j a b => pG9.2.2.2.2 j (by omega) b)) (show d - 1 + 1 ≤ d from by omega) (Nat.le_of_ble_eq_true rfl) ?_
  rintro s85 ⟨r85, f85⟩
  exact I.vretQA dX2_setUpFirst_88 rfl ⟨r85, fun q i x => (f85 q i (by omega)).trans ((f81 q i (by omega)).trans ((f72 q i (by omega)).trans ((f63 q i (by omega)).trans ((f54 q i (by omega)).trans ((f47 q i (by omega)).trans ((f37 q i (by omega)).trans ((f27 q i (by omega)).trans ((f18 q i (by omega)).trans ((f11 q i (by omega)).trans (up_ne (by omega)))))))))))⟩
set_option maxHeartbeats 1000000 in
theorem t_X8_initA {Γ : jE} (hl : Γ.1.stackTraces = false) {s : Nat → Int → Int} {ε : jEps} {d : Nat} (hd : 5 ≤ d) (p0 : ST s ∧ s 51 10 = -1) (p1 : (s 51 11 = 0 ∧ s 51 12 = 0) ∧ (s 61 1 = 0 ∧ s 61 2 = 0) ∧ s 0 10 = 0 ∧ s 135 1 = 0 ∧ s 0 1 = 0 ∧ s 0 2 = 0 ∧ s 0 3 = -1) : J Γ (d, 0, 0) mX8_init 100 [some (.ref 0)] [] (jmemA s ε) (RWA (fun s' => CI s' iA0 ∧ ∀ q j, (q < 22 ∨ 36 ≤ q) → s' q j = s q j) ε) X0 := by
  refine J.aload_n 0 dX8_init_100 rfl rfl ?_
  refine I.getRA dX8_init_101 jcls fX8_30 rfl (by decide) rfl rfl ?_
  refine I.callV0wA (d' := d - 1) (mi' := mX2_setUpFirst) dX8_init_104 lX8_65 eX2_setUpFirst rfl rfl (c_X2_setUpFirstA (d := d - 1) hl (by omega) jm21) (show d - 1 + 1 ≤ d from by omega) (Nat.le_of_ble_eq_true rfl) ?_
  rintro s104 ⟨r104, f104⟩
  rw [iG_e] at r104
  exact I.vretQA dX8_init_107 rfl ⟨⟨r104, ⟨fun l h a b c => by rw [f104 _ _ (by omega), f104 _ _ (by omega)]; exact p0.1 l h a b c, Or.inl ((f104 _ _ (by omega)).trans p1.1.1), Or.inl ((f104 _ _ (by omega)).trans p1.1.2), Or.inl ((f104 _ _ (by omega)).trans p0.2)⟩, ⟨(f104 _ _ (by omega)).trans p1.2.1.1, by rw [f104 _ _ (by omega)]; omega, by rw [f104 _ _ (by omega)]; omega, fun k k0 (k1 : k < 0) => by omega⟩, ⟨(f104 _ _ (by omega)).trans p1.2.2.1, fun (b : (0 : Int) = 1) => absurd b (by decide)⟩, TX.nil ((f104 _ _ (by omega)).trans p1.2.2.2.1), ⟨(f104 _ _ (by omega)).trans p1.2.2.2.2.1, fun i i0 (i1 : i < 0) => by omega⟩, (f104 _ _ (by omega)).trans p1.2.2.2.2.2.1, (f104 _ _ (by omega)).trans p1.2.2.2.2.2.2⟩, f104⟩

