theorem kL_13 : Cond.classLink RL 13 "java/lang/IllegalStateException" ∈ jG := jG_mem 845 (by decide +kernel) rfl
theorem zL_13 : Cond.castable "java/lang/IllegalStateException" "java/lang/IllegalStateException" ∈ lw_tbl := List.mem_of_getElem? (i := 852) (by decide +kernel)
theorem kL_19 : Cond.classLink RL 19 "java/lang/IllegalArgumentException" ∈ jG := jG_mem 927 (by decide +kernel) rfl
theorem zL_19 : Cond.castable "java/lang/IllegalArgumentException" "java/lang/IllegalArgumentException" ∈ lw_tbl := List.mem_of_getElem? (i := 934) (by decide +kernel)
theorem kL_29 : Cond.classLink RL 29 "java/lang/IndexOutOfBoundsException" ∈ jG := jG_mem 1117 (by decide +kernel) rfl
theorem zL_29 : Cond.castable "java/lang/IndexOutOfBoundsException" "java/lang/IndexOutOfBoundsException" ∈ lw_tbl := List.mem_of_getElem? (i := 1128) (by decide +kernel)
theorem kL_100 : Cond.classLink RL 100 "java/util/NoSuchElementException" ∈ jG := jG_mem 1334 (by decide +kernel) rfl
theorem zL_100 : Cond.castable "java/util/NoSuchElementException" "java/util/NoSuchElementException" ∈ lw_tbl := List.mem_of_getElem? (i := 1341) (by decide +kernel)
theorem jup2_at {α : Type} (f : Nat → Nat → α) (q i : Nat) (v : α) : jup2 f q i v q i = v := if_pos ⟨rfl, rfl⟩
section JWA
variable {Γ : jE} {b : Nat × Nat × Nat} {mi : jMI} {hh : List (Nat × Nat × Nat × Nat)} {pc : Nat} {L : List (Option Value)} {S : List Value} {M : jM} {P : Option Value → jM → Prop} {X : String → jM → Prop}
theorem JH.call0 {q idx : Nat} {b' : Nat × Nat × Nat} {mi' : jMI}  {P' : Option Value → jM → Prop} {X' : String → jM → Prop} (d : decode mi.2.1 pc = .ok (.invokevirtual idx, 3)) (hl : Cond.methodLink mi.1.cls idx mi'.1 ∈ jG) (hs : jVE mi' 0) {ci n : Nat} (hq : M.1[q]? = some (ci, n)) (hqc : (vwCl[ci]?).map (fun z => z.1) = some mi'.1.cls) (hc : Con Γ b' mi' (.ref q :: []) M P' X') (hb : b'.1 + 1 ≤ b.1 ∧ b'.2.1 ≤ b.2.1 ∧ b'.2.2 ≤ b.2.2) (hr : mi.2.2.2 = some .int)
    (hX : ∀ E M', X' E M' → ∃ k, jCatch mi hh pc E k ∧ P (some (.int k)) M') (hcat : (S.map fun v => v.category).sum ≤ 8)
    (k : ∀ v M', P' v M' → J Γ (b.1, b.2.1 - b'.2.1, b.2.2 - b'.2.2) mi (pc + 3) L (v.toList ++ S) M' P X0) : JH Γ b mi hh pc L (.ref q :: S) M P := JH.callVC [] d hl hs hq hqc hb hc hr hX hcat k
theorem JH.call1 {q idx : Nat} {b' : Nat × Nat × Nat} {mi' : jMI} {a0 : Value} {P' : Option Value → jM → Prop} {X' : String → jM → Prop} (d : decode mi.2.1 pc = .ok (.invokevirtual idx, 3)) (hl : Cond.methodLink mi.1.cls idx mi'.1 ∈ jG) (hs : jVE mi' 1) {ci n : Nat} (hq : M.1[q]? = some (ci, n)) (hqc : (vwCl[ci]?).map (fun z => z.1) = some mi'.1.cls) (hc : Con Γ b' mi' (.ref q :: [a0]) M P' X') (hb : b'.1 + 1 ≤ b.1 ∧ b'.2.1 ≤ b.2.1 ∧ b'.2.2 ≤ b.2.2) (hr : mi.2.2.2 = some .int)
    (hX : ∀ E M', X' E M' → ∃ k, jCatch mi hh pc E k ∧ P (some (.int k)) M') (hcat : (S.map fun v => v.category).sum ≤ 8)
    (k : ∀ v M', P' v M' → J Γ (b.1, b.2.1 - b'.2.1, b.2.2 - b'.2.2) mi (pc + 3) L (v.toList ++ S) M' P X0) : JH Γ b mi hh pc L (a0 :: .ref q :: S) M P := JH.callVC [a0] d hl hs hq hqc hb hc hr hX hcat k
theorem JH.call2 {q idx : Nat} {b' : Nat × Nat × Nat} {mi' : jMI} {a0 : Value} {a1 : Value} {P' : Option Value → jM → Prop} {X' : String → jM → Prop} (d : decode mi.2.1 pc = .ok (.invokevirtual idx, 3)) (hl : Cond.methodLink mi.1.cls idx mi'.1 ∈ jG) (hs : jVE mi' 2) {ci n : Nat} (hq : M.1[q]? = some (ci, n)) (hqc : (vwCl[ci]?).map (fun z => z.1) = some mi'.1.cls) (hc : Con Γ b' mi' (.ref q :: [a0, a1]) M P' X') (hb : b'.1 + 1 ≤ b.1 ∧ b'.2.1 ≤ b.2.1 ∧ b'.2.2 ≤ b.2.2) (hr : mi.2.2.2 = some .int)
    (hX : ∀ E M', X' E M' → ∃ k, jCatch mi hh pc E k ∧ P (some (.int k)) M') (hcat : (S.map fun v => v.category).sum ≤ 8)
    (k : ∀ v M', P' v M' → J Γ (b.1, b.2.1 - b'.2.1, b.2.2 - b'.2.2) mi (pc + 3) L (v.toList ++ S) M' P X0) : JH Γ b mi hh pc L (a1 :: a0 :: .ref q :: S) M P := JH.callVC [a0, a1] d hl hs hq hqc hb hc hr hX hcat k
theorem JH.call5 {q idx : Nat} {b' : Nat × Nat × Nat} {mi' : jMI} {a0 : Value} {a1 : Value} {a2 : Value} {a3 : Value} {a4 : Value} {P' : Option Value → jM → Prop} {X' : String → jM → Prop} (d : decode mi.2.1 pc = .ok (.invokevirtual idx, 3)) (hl : Cond.methodLink mi.1.cls idx mi'.1 ∈ jG) (hs : jVE mi' 5) {ci n : Nat} (hq : M.1[q]? = some (ci, n)) (hqc : (vwCl[ci]?).map (fun z => z.1) = some mi'.1.cls) (hc : Con Γ b' mi' (.ref q :: [a0, a1, a2, a3, a4]) M P' X') (hb : b'.1 + 1 ≤ b.1 ∧ b'.2.1 ≤ b.2.1 ∧ b'.2.2 ≤ b.2.2) (hr : mi.2.2.2 = some .int)
    (hX : ∀ E M', X' E M' → ∃ k, jCatch mi hh pc E k ∧ P (some (.int k)) M') (hcat : (S.map fun v => v.category).sum ≤ 8)
    (k : ∀ v M', P' v M' → J Γ (b.1, b.2.1 - b'.2.1, b.2.2 - b'.2.2) mi (pc + 3) L (v.toList ++ S) M' P X0) : JH Γ b mi hh pc L (a4 :: a3 :: a2 :: a1 :: a0 :: .ref q :: S) M P := JH.callVC [a0, a1, a2, a3, a4] d hl hs hq hqc hb hc hr hX hcat k
theorem J.callW1 {idx : Nat} {b' : Nat × Nat × Nat} {mi' : jMI} {a0 : Value} {P' : Option Value → jM → Prop} (d : decode mi.2.1 pc = .ok (.invokestatic idx, 3)) (hl : Cond.methodLink mi.1.cls idx mi'.1 ∈ jG) (hs : jSW mi' hh 1) (hc : ConW Γ b' mi' hh [a0] M P') (hb : b'.1 + 1 ≤ b.1 ∧ b'.2.1 ≤ b.2.1 ∧ b'.2.2 ≤ b.2.2) (hcat : (S.map fun v => v.category).sum ≤ 8)
    (k : ∀ v M', P' v M' → J Γ (b.1, b.2.1 - b'.2.1, b.2.2 - b'.2.2) mi (pc + 3) L (v.toList ++ S) M' P X) : J Γ b mi pc L (a0 :: S) M P X := J.callSW [a0] d hl hs hb hc hcat k
theorem J.callW2 {idx : Nat} {b' : Nat × Nat × Nat} {mi' : jMI} {a0 : Value} {a1 : Value} {P' : Option Value → jM → Prop} (d : decode mi.2.1 pc = .ok (.invokestatic idx, 3)) (hl : Cond.methodLink mi.1.cls idx mi'.1 ∈ jG) (hs : jSW mi' hh 2) (hc : ConW Γ b' mi' hh [a0, a1] M P') (hb : b'.1 + 1 ≤ b.1 ∧ b'.2.1 ≤ b.2.1 ∧ b'.2.2 ≤ b.2.2) (hcat : (S.map fun v => v.category).sum ≤ 8)
    (k : ∀ v M', P' v M' → J Γ (b.1, b.2.1 - b'.2.1, b.2.2 - b'.2.2) mi (pc + 3) L (v.toList ++ S) M' P X) : J Γ b mi pc L (a1 :: a0 :: S) M P X := J.callSW [a0, a1] d hl hs hb hc hcat k
theorem J.callW3 {idx : Nat} {b' : Nat × Nat × Nat} {mi' : jMI} {a0 : Value} {a1 : Value} {a2 : Value} {P' : Option Value → jM → Prop} (d : decode mi.2.1 pc = .ok (.invokestatic idx, 3)) (hl : Cond.methodLink mi.1.cls idx mi'.1 ∈ jG) (hs : jSW mi' hh 3) (hc : ConW Γ b' mi' hh [a0, a1, a2] M P') (hb : b'.1 + 1 ≤ b.1 ∧ b'.2.1 ≤ b.2.1 ∧ b'.2.2 ≤ b.2.2) (hcat : (S.map fun v => v.category).sum ≤ 8)
    (k : ∀ v M', P' v M' → J Γ (b.1, b.2.1 - b'.2.1, b.2.2 - b'.2.2) mi (pc + 3) L (v.toList ++ S) M' P X) : J Γ b mi pc L (a2 :: a1 :: a0 :: S) M P X := J.callSW [a0, a1, a2] d hl hs hb hc hcat k
theorem J.callW4 {idx : Nat} {b' : Nat × Nat × Nat} {mi' : jMI} {a0 : Value} {a1 : Value} {a2 : Value} {a3 : Value} {P' : Option Value → jM → Prop} (d : decode mi.2.1 pc = .ok (.invokestatic idx, 3)) (hl : Cond.methodLink mi.1.cls idx mi'.1 ∈ jG) (hs : jSW mi' hh 4) (hc : ConW Γ b' mi' hh [a0, a1, a2, a3] M P') (hb : b'.1 + 1 ≤ b.1 ∧ b'.2.1 ≤ b.2.1 ∧ b'.2.2 ≤ b.2.2) (hcat : (S.map fun v => v.category).sum ≤ 8)
    (k : ∀ v M', P' v M' → J Γ (b.1, b.2.1 - b'.2.1, b.2.2 - b'.2.2) mi (pc + 3) L (v.toList ++ S) M' P X) : J Γ b mi pc L (a3 :: a2 :: a1 :: a0 :: S) M P X := J.callSW [a0, a1, a2, a3] d hl hs hb hc hcat k
theorem J.callW7 {idx : Nat} {b' : Nat × Nat × Nat} {mi' : jMI} {a0 : Value} {a1 : Value} {a2 : Value} {a3 : Value} {a4 : Value} {a5 : Value} {a6 : Value} {P' : Option Value → jM → Prop} (d : decode mi.2.1 pc = .ok (.invokestatic idx, 3)) (hl : Cond.methodLink mi.1.cls idx mi'.1 ∈ jG) (hs : jSW mi' hh 7) (hc : ConW Γ b' mi' hh [a0, a1, a2, a3, a4, a5, a6] M P') (hb : b'.1 + 1 ≤ b.1 ∧ b'.2.1 ≤ b.2.1 ∧ b'.2.2 ≤ b.2.2) (hcat : (S.map fun v => v.category).sum ≤ 8)
    (k : ∀ v M', P' v M' → J Γ (b.1, b.2.1 - b'.2.1, b.2.2 - b'.2.2) mi (pc + 3) L (v.toList ++ S) M' P X) : J Γ b mi pc L (a6 :: a5 :: a4 :: a3 :: a2 :: a1 :: a0 :: S) M P X := J.callSW [a0, a1, a2, a3, a4, a5, a6] d hl hs hb hc hcat k
end JWA
abbrev hL_append : List (Nat × Nat × Nat × Nat) := [(0, 16, 19, 13)]
theorem eL_append : jSW mL_append hL_append 7 := ⟨jG_mem 844 (by decide +kernel) rfl, jG_mem 107 (by decide +kernel) rfl, ⟨by decide +kernel, by decide +kernel, by decide +kernel⟩, by decide, jG_mem 843 (by decide +kernel) rfl⟩
theorem jL_append_0 : jCatch mL_append hL_append 11 "java/lang/IllegalStateException" (iI 1) := ⟨[], ⟨0, 16, 19, 13⟩, [], rfl, (fun z hz => nomatch hz), by decide, by decide, kL_13, zL_13, Or.inr ⟨7, 1, by decide, rfl, dL_append_19, dL_append_21, dL_append_22⟩⟩
set_option maxHeartbeats 1000000 in
theorem c_L_append {Γ : jE} (hl : Γ.1.stackTraces = false) {s : Nat → Int → Int} {ε : jEps} {d : Nat} {w0 : Int} {w1 : Int} {w2 : Int} {w3 : Int} {w4 : Int} {a : AS} (hd : 3 ≤ d) (p0 : CI s a) (p1 : AI a) (p2 : -2147483648 ≤ w0 ∧ w0 < 2147483648) (p3 : -2147483648 ≤ w1 ∧ w1 < 2147483648) (p4 : -2147483648 ≤ w2 ∧ w2 < 2147483648) (p5 : -2147483648 ≤ w3 ∧ w3 < 2147483648) (p6 : -2147483648 ≤ w4 ∧ w4 < 2147483648) : ConW Γ (d, 1, 6) mL_append hL_append [.ref 0, .int (iI w0), .int (iI w1), .int (iI w2), .int (iI w3), .int (iI w4), .ref 142] (jmem s ε) (LwQ (fun w s' => aL a + 20 ≤ 500 ∧ aL a + 20 = w ∧ CI s' (aApp a w0 w1 w2 w3 w4) ∧ HiE s s') (fun s' => (¬ aL a + 20 ≤ 500) ∧ s' = s) (fun _ => False)) := by
  refine ConW.ofJ (by decide +kernel) (by simp [Value.category]) (Nat.le_of_ble_eq_true rfl) rfl (by decide) ?_ hl
  refine JH.aload dL_append_0 rfl ?_
  refine JH.iconst (iI 0) dL_append_2 rfl ?_
  refine JH.aload_n 0 dL_append_3 rfl rfl ?_
  refine JH.iload_n 1 dL_append_4 rfl rfl ?_
  refine JH.iload_n 2 dL_append_5 rfl rfl ?_
  refine JH.iload_n 3 dL_append_6 rfl rfl ?_
  refine JH.iload dL_append_7 rfl ?_
  refine JH.iload dL_append_9 rfl ?_
  refine JH.call5 (b' := (d - 1, 1, 6)) (mi' := mX8_append) dL_append_11 lL_7 eX8_append (show jsh[0]? = some (8, 12) from rfl) rfl (c_X8_append (d := d - 1) hl (by omega) p0 p1 p2 p3 p4 p5 p6) (show d - 1 + 1 ≤ d ∧ 1 ≤ 1 ∧ 6 ≤ 6 from ⟨by omega, by decide, by decide⟩) rfl (fun E M' hX => by obtain ⟨rfl, hc, rfl⟩ := hX; exact ⟨iI 1, jL_append_0, s, ε, 1, rfl, rfl, Or.inr (Or.inl ⟨rfl, hc, rfl⟩)⟩) (Nat.le_of_ble_eq_true rfl) ?_
  rintro v M' ⟨r9, s1, rfl, rfl, hq⟩
  refine J.i2l dL_append_14 ?_
  refine I.last0 dL_append_15 ?_
  refine J.goto 23 dL_append_16 (by decide) ?_
  refine I.iconst dL_append_23 ?_
  exact I.iret dL_append_24 rfl ⟨s1, _, 0, rfl, rfl, Or.inl ⟨rfl, r9, hq, jup2_at ε.1 142 0 _⟩⟩
abbrev hL_burn : List (Nat × Nat × Nat × Nat) := [(0, 10, 13, 29), (0, 10, 17, 13)]
theorem eL_burn : jSW mL_burn hL_burn 4 := ⟨jG_mem 1390 (by decide +kernel) rfl, jG_mem 107 (by decide +kernel) rfl, ⟨by decide +kernel, by decide +kernel, by decide +kernel⟩, by decide, jG_mem 1389 (by decide +kernel) rfl⟩
theorem jL_burn_0 : jCatch mL_burn hL_burn 5 "java/lang/IndexOutOfBoundsException" (iI 1) := ⟨[], ⟨0, 10, 13, 29⟩, [⟨0, 10, 17, 13⟩], rfl, (fun z hz => nomatch hz), by decide, by decide, kL_29, zL_29, Or.inr ⟨4, 1, by decide, rfl, dL_burn_13, dL_burn_15, dL_burn_16⟩⟩
theorem jL_burn_1 : jCatch mL_burn hL_burn 5 "java/lang/IllegalStateException" (iI 2) := ⟨[⟨0, 10, 13, 29⟩], ⟨0, 10, 17, 13⟩, [], rfl, (fun z hz => by rcases List.mem_singleton.mp hz with rfl; exact ⟨by decide, kL_29, rfl⟩), by decide, by decide, kL_13, zL_13, Or.inr ⟨4, 2, by decide, rfl, dL_burn_17, dL_burn_19, dL_burn_20⟩⟩
set_option maxHeartbeats 1000000 in
theorem c_L_burn {Γ : jE} (hl : Γ.1.stackTraces = false) {s : Nat → Int → Int} {ε : jEps} {d : Nat} {c : Int} {b : Int} {a : AS} (hd : 4 ≤ d) (p0 : CI s a) (p1 : AI a) (p2 : -2147483648 ≤ c ∧ c < 2147483648) (p3 : 0 ≤ b ∧ b ≤ 1) : ConW Γ (d, 2, 12) mL_burn hL_burn [.ref 0, .int (iI c), .int (iI b), .ref 142] (jmem s ε) (LwQ (fun w s' => ((0 ≤ c ∧ c < (aF a) (18 + (aF a) 1)) ∧ ¬ gOver (aF a) ∧ 1 < (aF a) (37 + c) - (aF a) (34 + c) + 1) ∧ gPt (aF a) (2 * c + (1 - b)) = w ∧ CI s' (aSet (aRec a) (gPlay (aF a) (2 * c + (1 - b)))) ∧ HiE s s') (fun s' => ¬ (0 ≤ c ∧ c < (aF a) (18 + (aF a) 1)) ∧ s' = s) (fun s' => ((0 ≤ c ∧ c < (aF a) (18 + (aF a) 1)) ∧ ¬ (¬ gOver (aF a) ∧ 1 < (aF a) (37 + c) - (aF a) (34 + c) + 1)) ∧ s' = s)) := by
  refine ConW.ofJ (by decide +kernel) (by simp [Value.category]) (Nat.le_of_ble_eq_true rfl) rfl (by decide) ?_ hl
  refine JH.aload_n 3 dL_burn_0 rfl rfl ?_
  refine JH.iconst (iI 0) dL_burn_1 rfl ?_
  refine JH.aload_n 0 dL_burn_2 rfl rfl ?_
  refine JH.iload_n 1 dL_burn_3 rfl rfl ?_
  refine JH.iload_n 2 dL_burn_4 rfl rfl ?_
  refine JH.call2 (b' := (d - 1, 2, 12)) (mi' := mX8_burn) dL_burn_5 lL_114 eX8_burn (show jsh[0]? = some (8, 12) from rfl) rfl (c_X8_burn (d := d - 1) hl (by omega) p0 p1 p2 p3) (show d - 1 + 1 ≤ d ∧ 2 ≤ 2 ∧ 12 ≤ 12 from ⟨by omega, by decide, by decide⟩) rfl (fun E M' hX => by
    obtain ⟨rfl, ⟨rfl, hc⟩ | ⟨rfl, hc⟩⟩ := hX
    · exact ⟨iI 1, jL_burn_0, s, ε, 1, rfl, rfl, Or.inr (Or.inl ⟨rfl, hc, rfl⟩)⟩
    · exact ⟨iI 2, jL_burn_1, s, ε, 2, rfl, rfl, Or.inr (Or.inr ⟨rfl, hc, rfl⟩)⟩) (Nat.le_of_ble_eq_true rfl) ?_
  rintro v M' ⟨r9, s1, rfl, rfl, hq⟩
  refine J.i2l dL_burn_8 ?_
  refine I.last0 dL_burn_9 ?_
  refine J.goto 21 dL_burn_10 (by decide) ?_
  refine I.iconst dL_burn_21 ?_
  exact I.iret dL_burn_22 rfl ⟨s1, _, 0, rfl, rfl, Or.inl ⟨rfl, r9, hq, jup2_at ε.1 142 0 _⟩⟩
abbrev hL_canStillWin : List (Nat × Nat × Nat × Nat) := [(0, 16, 19, 29)]
theorem eL_canStillWin : jSW mL_canStillWin hL_canStillWin 3 := ⟨jG_mem 1319 (by decide +kernel) rfl, jG_mem 107 (by decide +kernel) rfl, ⟨by decide +kernel, by decide +kernel, by decide +kernel⟩, by decide, jG_mem 1318 (by decide +kernel) rfl⟩
theorem jL_canStillWin_0 : jCatch mL_canStillWin hL_canStillWin 4 "java/lang/IndexOutOfBoundsException" (iI 1) := ⟨[], ⟨0, 16, 19, 29⟩, [], rfl, (fun z hz => nomatch hz), by decide, by decide, kL_29, zL_29, Or.inl ⟨3, 1, by decide, rfl, dL_canStillWin_19, dL_canStillWin_20, dL_canStillWin_21⟩⟩
set_option maxHeartbeats 1000000 in
theorem c_L_canStillWin {Γ : jE} (hl : Γ.1.stackTraces = false) {s : Nat → Int → Int} {ε : jEps} {d : Nat} {p : Int} {f : Int → Int} (hd : 6 ≤ d) (p0 : RM s 21 f) (p1 : -2147483648 ≤ p ∧ p < 2147483648) : ConW Γ (d, 1, 6) mL_canStillWin hL_canStillWin [.ref 0, .int (iI p), .ref 142] (jmem s ε) (LwQ (fun w s' => (0 ≤ p ∧ p ≤ 1) ∧ bI (f (6 + 2 * f 1 + (1 - p)) < gGreat f p) = w ∧ s = s') (fun s' => (¬ (0 ≤ p ∧ p ≤ 1)) ∧ s' = s) (fun _ => False)) := by
  refine ConW.ofJ (by decide +kernel) (by simp [Value.category]) (Nat.le_of_ble_eq_true rfl) rfl (by decide) ?_ hl
  refine JH.aload_n 2 dL_canStillWin_0 rfl rfl ?_
  refine JH.iconst (iI 0) dL_canStillWin_1 rfl ?_
  refine JH.aload_n 0 dL_canStillWin_2 rfl rfl ?_
  refine JH.iload_n 1 dL_canStillWin_3 rfl rfl ?_
  refine JH.call1 (b' := (d - 1, 1, 6)) (mi' := mX8_canStillWin) dL_canStillWin_4 lL_91 eX8_canStillWin (show jsh[0]? = some (8, 12) from rfl) rfl (c_X8_canStillWin (d := d - 1) hl (by omega) p0 p1) (show d - 1 + 1 ≤ d ∧ 1 ≤ 1 ∧ 6 ≤ 6 from ⟨by omega, by decide, by decide⟩) rfl (fun E M' hX => by obtain ⟨rfl, hc, rfl⟩ := hX; exact ⟨iI 1, jL_canStillWin_0, s, ε, 1, rfl, rfl, Or.inr (Or.inl ⟨rfl, hc, rfl⟩)⟩) (Nat.le_of_ble_eq_true rfl) ?_
  rintro v M' ⟨r9, s1, rfl, rfl, hq⟩
  have hb9 : r9 = 0 ∨ r9 = 1 := by rw [← hq.2.1]; exact bI_01 _
  rcases hb9 with rfl | rfl
  · refine I.if_eq0 14 dL_canStillWin_7 (by decide) ?_
    refine J.lconst (iI 0).toInt64 dL_canStillWin_14 (by decide) ?_
    refine I.last0 dL_canStillWin_15 ?_
    refine J.goto 22 dL_canStillWin_16 (by decide) ?_
    refine I.iconst dL_canStillWin_22 ?_
    exact I.iret dL_canStillWin_23 rfl ⟨s1, _, 0, rfl, rfl, Or.inl ⟨rfl, 0, hq, jup2_at ε.1 142 0 _⟩⟩
  · refine J.if_eq 14 dL_canStillWin_7 (by decide) (fun h => absurd h (by decide)) (fun _ => ?_)
    refine J.lconst (iI 1).toInt64 dL_canStillWin_10 (by decide) ?_
    refine J.goto 15 dL_canStillWin_11 (by decide) ?_
    refine I.last0 dL_canStillWin_15 ?_
    refine J.goto 22 dL_canStillWin_16 (by decide) ?_
    refine I.iconst dL_canStillWin_22 ?_
    exact I.iret dL_canStillWin_23 rfl ⟨s1, _, 0, rfl, rfl, Or.inl ⟨rfl, 1, hq, jup2_at ε.1 142 0 _⟩⟩
abbrev hL_chainDifference : List (Nat × Nat × Nat × Nat) := [(0, 9, 12, 29)]
theorem eL_chainDifference : jSW mL_chainDifference hL_chainDifference 3 := ⟨jG_mem 1372 (by decide +kernel) rfl, jG_mem 107 (by decide +kernel) rfl, ⟨by decide +kernel, by decide +kernel, by decide +kernel⟩, by decide, jG_mem 1371 (by decide +kernel) rfl⟩
theorem jL_chainDifference_0 : jCatch mL_chainDifference hL_chainDifference 4 "java/lang/IndexOutOfBoundsException" (iI 1) := ⟨[], ⟨0, 9, 12, 29⟩, [], rfl, (fun z hz => nomatch hz), by decide, by decide, kL_29, zL_29, Or.inl ⟨3, 1, by decide, rfl, dL_chainDifference_12, dL_chainDifference_13, dL_chainDifference_14⟩⟩
set_option maxHeartbeats 1000000 in
theorem c_L_chainDifference {Γ : jE} (hl : Γ.1.stackTraces = false) {s : Nat → Int → Int} {ε : jEps} {d : Nat} {c : Int} {f : Int → Int} (hd : 6 ≤ d) (p0 : RM s 21 f) (p1 : SO s f) (p2 : -2147483648 ≤ c ∧ c < 2147483648) : ConW Γ (d, 1, 6) mL_chainDifference hL_chainDifference [.ref 0, .int (iI c), .ref 142] (jmem s ε) (LwQ (fun w s' => (0 ≤ c ∧ c < f (18 + f 1)) ∧ gWf (gOnly f c (f (18 + f 1))) = w ∧ CFr s s' f) (fun s' => (¬ (0 ≤ c ∧ c < f (18 + f 1))) ∧ s' = s) (fun _ => False)) := by
  refine ConW.ofJ (by decide +kernel) (by simp [Value.category]) (Nat.le_of_ble_eq_true rfl) rfl (by decide) ?_ hl
  refine JH.aload_n 2 dL_chainDifference_0 rfl rfl ?_
  refine JH.iconst (iI 0) dL_chainDifference_1 rfl ?_
  refine JH.aload_n 0 dL_chainDifference_2 rfl rfl ?_
  refine JH.iload_n 1 dL_chainDifference_3 rfl rfl ?_
  refine JH.call1 (b' := (d - 1, 1, 6)) (mi' := mX8_chainDifference) dL_chainDifference_4 lL_108 eX8_chainDifference (show jsh[0]? = some (8, 12) from rfl) rfl (c_X8_chainDifference (d := d - 1) hl (by omega) p0 p1 p2) (show d - 1 + 1 ≤ d ∧ 1 ≤ 1 ∧ 6 ≤ 6 from ⟨by omega, by decide, by decide⟩) rfl (fun E M' hX => by obtain ⟨rfl, hc, rfl⟩ := hX; exact ⟨iI 1, jL_chainDifference_0, s, ε, 1, rfl, rfl, Or.inr (Or.inl ⟨rfl, hc, rfl⟩)⟩) (Nat.le_of_ble_eq_true rfl) ?_
  rintro v M' ⟨r9, s1, rfl, rfl, hq⟩
  refine J.i2l dL_chainDifference_7 ?_
  refine I.last0 dL_chainDifference_8 ?_
  refine J.goto 15 dL_chainDifference_9 (by decide) ?_
  refine I.iconst dL_chainDifference_15 ?_
  exact I.iret dL_chainDifference_16 rfl ⟨s1, _, 0, rfl, rfl, Or.inl ⟨rfl, r9, hq, jup2_at ε.1 142 0 _⟩⟩
abbrev hL_chainLength : List (Nat × Nat × Nat × Nat) := [(0, 9, 12, 29)]
theorem eL_chainLength : jSW mL_chainLength hL_chainLength 3 := ⟨jG_mem 1194 (by decide +kernel) rfl, jG_mem 107 (by decide +kernel) rfl, ⟨by decide +kernel, by decide +kernel, by decide +kernel⟩, by decide, jG_mem 1193 (by decide +kernel) rfl⟩
theorem jL_chainLength_0 : jCatch mL_chainLength hL_chainLength 4 "java/lang/IndexOutOfBoundsException" (iI 1) := ⟨[], ⟨0, 9, 12, 29⟩, [], rfl, (fun z hz => nomatch hz), by decide, by decide, kL_29, zL_29, Or.inl ⟨3, 1, by decide, rfl, dL_chainLength_12, dL_chainLength_13, dL_chainLength_14⟩⟩
set_option maxHeartbeats 1000000 in
theorem c_L_chainLength {Γ : jE} (hl : Γ.1.stackTraces = false) {s : Nat → Int → Int} {ε : jEps} {d : Nat} {c : Int} {f : Int → Int} (hd : 4 ≤ d) (p0 : RM s 21 f) (p1 : -2147483648 ≤ c ∧ c < 2147483648) : ConW Γ (d, 1, 6) mL_chainLength hL_chainLength [.ref 0, .int (iI c), .ref 142] (jmem s ε) (LwQ (fun w s' => (0 ≤ c ∧ c < f (18 + f 1)) ∧ f (37 + c) - f (34 + c) + 1 = w ∧ s = s') (fun s' => (¬ (0 ≤ c ∧ c < f (18 + f 1))) ∧ s' = s) (fun _ => False)) := by
  refine ConW.ofJ (by decide +kernel) (by simp [Value.category]) (Nat.le_of_ble_eq_true rfl) rfl (by decide) ?_ hl
  refine JH.aload_n 2 dL_chainLength_0 rfl rfl ?_
  refine JH.iconst (iI 0) dL_chainLength_1 rfl ?_
  refine JH.aload_n 0 dL_chainLength_2 rfl rfl ?_
  refine JH.iload_n 1 dL_chainLength_3 rfl rfl ?_
  refine JH.call1 (b' := (d - 1, 1, 6)) (mi' := mX8_chainLength) dL_chainLength_4 lL_51 eX8_chainLength (show jsh[0]? = some (8, 12) from rfl) rfl (c_X8_chainLength (d := d - 1) hl (by omega) p0 p1) (show d - 1 + 1 ≤ d ∧ 1 ≤ 1 ∧ 6 ≤ 6 from ⟨by omega, by decide, by decide⟩) rfl (fun E M' hX => by obtain ⟨rfl, hc, rfl⟩ := hX; exact ⟨iI 1, jL_chainLength_0, s, ε, 1, rfl, rfl, Or.inr (Or.inl ⟨rfl, hc, rfl⟩)⟩) (Nat.le_of_ble_eq_true rfl) ?_
  rintro v M' ⟨r9, s1, rfl, rfl, hq⟩
  refine J.i2l dL_chainLength_7 ?_
  refine I.last0 dL_chainLength_8 ?_
  refine J.goto 15 dL_chainLength_9 (by decide) ?_
  refine I.iconst dL_chainLength_15 ?_
  exact I.iret dL_chainLength_16 rfl ⟨s1, _, 0, rfl, rfl, Or.inl ⟨rfl, r9, hq, jup2_at ε.1 142 0 _⟩⟩
abbrev hL_chainScore : List (Nat × Nat × Nat × Nat) := [(0, 9, 12, 29)]
theorem eL_chainScore : jSW mL_chainScore hL_chainScore 3 := ⟨jG_mem 1233 (by decide +kernel) rfl, jG_mem 107 (by decide +kernel) rfl, ⟨by decide +kernel, by decide +kernel, by decide +kernel⟩, by decide, jG_mem 1232 (by decide +kernel) rfl⟩
theorem jL_chainScore_0 : jCatch mL_chainScore hL_chainScore 4 "java/lang/IndexOutOfBoundsException" (iI 1) := ⟨[], ⟨0, 9, 12, 29⟩, [], rfl, (fun z hz => nomatch hz), by decide, by decide, kL_29, zL_29, Or.inl ⟨3, 1, by decide, rfl, dL_chainScore_12, dL_chainScore_13, dL_chainScore_14⟩⟩
set_option maxHeartbeats 1000000 in
theorem c_L_chainScore {Γ : jE} (hl : Γ.1.stackTraces = false) {s : Nat → Int → Int} {ε : jEps} {d : Nat} {c : Int} {f : Int → Int} (hd : 5 ≤ d) (p0 : RM s 21 f) (p1 : -2147483648 ≤ c ∧ c < 2147483648) : ConW Γ (d, 1, 6) mL_chainScore hL_chainScore [.ref 0, .int (iI c), .ref 142] (jmem s ε) (LwQ (fun w s' => (0 ≤ c ∧ c < f (18 + f 1)) ∧ gSum f c = w ∧ s = s') (fun s' => (¬ (0 ≤ c ∧ c < f (18 + f 1))) ∧ s' = s) (fun _ => False)) := by
  refine ConW.ofJ (by decide +kernel) (by simp [Value.category]) (Nat.le_of_ble_eq_true rfl) rfl (by decide) ?_ hl
  refine JH.aload_n 2 dL_chainScore_0 rfl rfl ?_
  refine JH.iconst (iI 0) dL_chainScore_1 rfl ?_
  refine JH.aload_n 0 dL_chainScore_2 rfl rfl ?_
  refine JH.iload_n 1 dL_chainScore_3 rfl rfl ?_
  refine JH.call1 (b' := (d - 1, 1, 6)) (mi' := mX8_chainScore) dL_chainScore_4 lL_63 eX8_chainScore (show jsh[0]? = some (8, 12) from rfl) rfl (c_X8_chainScore (d := d - 1) hl (by omega) p0 p1) (show d - 1 + 1 ≤ d ∧ 1 ≤ 1 ∧ 6 ≤ 6 from ⟨by omega, by decide, by decide⟩) rfl (fun E M' hX => by obtain ⟨rfl, hc, rfl⟩ := hX; exact ⟨iI 1, jL_chainScore_0, s, ε, 1, rfl, rfl, Or.inr (Or.inl ⟨rfl, hc, rfl⟩)⟩) (Nat.le_of_ble_eq_true rfl) ?_
  rintro v M' ⟨r9, s1, rfl, rfl, hq⟩
  refine J.i2l dL_chainScore_7 ?_
  refine I.last0 dL_chainScore_8 ?_
  refine J.goto 15 dL_chainScore_9 (by decide) ?_
  refine I.iconst dL_chainScore_15 ?_
  exact I.iret dL_chainScore_16 rfl ⟨s1, _, 0, rfl, rfl, Or.inl ⟨rfl, r9, hq, jup2_at ε.1 142 0 _⟩⟩
abbrev hL_formatChain : List (Nat × Nat × Nat × Nat) := [(0, 9, 12, 29)]
theorem eL_formatChain : jSW mL_formatChain hL_formatChain 3 := ⟨jG_mem 1453 (by decide +kernel) rfl, jG_mem 107 (by decide +kernel) rfl, ⟨by decide +kernel, by decide +kernel, by decide +kernel⟩, by decide, jG_mem 1452 (by decide +kernel) rfl⟩
theorem jL_formatChain_0 : jCatch mL_formatChain hL_formatChain 4 "java/lang/IndexOutOfBoundsException" (iI 1) := ⟨[], ⟨0, 9, 12, 29⟩, [], rfl, (fun z hz => nomatch hz), by decide, by decide, kL_29, zL_29, Or.inl ⟨3, 1, by decide, rfl, dL_formatChain_12, dL_formatChain_13, dL_formatChain_14⟩⟩
set_option maxHeartbeats 1000000 in
theorem c_L_formatChain {Γ : jE} (hl : Γ.1.stackTraces = false) {s : Nat → Int → Int} {ε : jEps} {d : Nat} {c : Int} {a : AS} (hd : 4 ≤ d) (p0 : CI s a) (p1 : AI a) (p2 : -2147483648 ≤ c ∧ c < 2147483648) : ConW Γ (d, 1, 6) mL_formatChain hL_formatChain [.ref 0, .int (iI c), .ref 142] (jmem s ε) (LwQ (fun w s' => (0 ≤ c ∧ c < (aF a) (18 + (aF a) 1)) ∧ ((gChT (aF a) c).length : Int) = w ∧ CI s' (aTxt a (gChT (aF a) c)) ∧ HiE s s') (fun s' => (¬ (0 ≤ c ∧ c < (aF a) (18 + (aF a) 1))) ∧ s' = s) (fun _ => False)) := by
  refine ConW.ofJ (by decide +kernel) (by simp [Value.category]) (Nat.le_of_ble_eq_true rfl) rfl (by decide) ?_ hl
  refine JH.aload_n 2 dL_formatChain_0 rfl rfl ?_
  refine JH.iconst (iI 0) dL_formatChain_1 rfl ?_
  refine JH.aload_n 0 dL_formatChain_2 rfl rfl ?_
  refine JH.iload_n 1 dL_formatChain_3 rfl rfl ?_
  refine JH.call1 (b' := (d - 1, 1, 6)) (mi' := mX8_formatChain) dL_formatChain_4 lL_134 eX8_formatChain (show jsh[0]? = some (8, 12) from rfl) rfl (c_X8_formatChain (d := d - 1) hl (by omega) p0 p1 p2) (show d - 1 + 1 ≤ d ∧ 1 ≤ 1 ∧ 6 ≤ 6 from ⟨by omega, by decide, by decide⟩) rfl (fun E M' hX => by obtain ⟨rfl, hc, rfl⟩ := hX; exact ⟨iI 1, jL_formatChain_0, s, ε, 1, rfl, rfl, Or.inr (Or.inl ⟨rfl, hc, rfl⟩)⟩) (Nat.le_of_ble_eq_true rfl) ?_
  rintro v M' ⟨r9, s1, rfl, rfl, hq⟩
  refine J.i2l dL_formatChain_7 ?_
  refine I.last0 dL_formatChain_8 ?_
  refine J.goto 15 dL_formatChain_9 (by decide) ?_
  refine I.iconst dL_formatChain_15 ?_
  exact I.iret dL_formatChain_16 rfl ⟨s1, _, 0, rfl, rfl, Or.inl ⟨rfl, r9, hq, jup2_at ε.1 142 0 _⟩⟩
abbrev hL_formattedCharacter : List (Nat × Nat × Nat × Nat) := [(0, 9, 12, 29)]
theorem eL_formattedCharacter : jSW mL_formattedCharacter hL_formattedCharacter 3 := ⟨jG_mem 1461 (by decide +kernel) rfl, jG_mem 107 (by decide +kernel) rfl, ⟨by decide +kernel, by decide +kernel, by decide +kernel⟩, by decide, jG_mem 1460 (by decide +kernel) rfl⟩
theorem jL_formattedCharacter_0 : jCatch mL_formattedCharacter hL_formattedCharacter 4 "java/lang/IndexOutOfBoundsException" (iI 1) := ⟨[], ⟨0, 9, 12, 29⟩, [], rfl, (fun z hz => nomatch hz), by decide, by decide, kL_29, zL_29, Or.inl ⟨3, 1, by decide, rfl, dL_formattedCharacter_12, dL_formattedCharacter_13, dL_formattedCharacter_14⟩⟩
set_option maxHeartbeats 1000000 in
theorem c_L_formattedCharacter {Γ : jE} (hl : Γ.1.stackTraces = false) {s : Nat → Int → Int} {ε : jEps} {d : Nat} {i : Int} {a : AS} (hd : 2 ≤ d) (p0 : CI s a) (p1 : AI a) (p2 : -2147483648 ≤ i ∧ i < 2147483648) : ConW Γ (d, 1, 6) mL_formattedCharacter hL_formattedCharacter [.ref 0, .int (iI i), .ref 142] (jmem s ε) (LwQ (fun w s' => (0 ≤ i ∧ i < ((aX a).length : Int)) ∧ (aX a).getD i.toNat 0 = w ∧ s' = s) (fun s' => (¬ (0 ≤ i ∧ i < ((aX a).length : Int))) ∧ s' = s) (fun _ => False)) := by
  refine ConW.ofJ (by decide +kernel) (by simp [Value.category]) (Nat.le_of_ble_eq_true rfl) rfl (by decide) ?_ hl
  refine JH.aload_n 2 dL_formattedCharacter_0 rfl rfl ?_
  refine JH.iconst (iI 0) dL_formattedCharacter_1 rfl ?_
  refine JH.aload_n 0 dL_formattedCharacter_2 rfl rfl ?_
  refine JH.iload_n 1 dL_formattedCharacter_3 rfl rfl ?_
  refine JH.call1 (b' := (d - 1, 1, 6)) (mi' := mX8_formattedCharacter) dL_formattedCharacter_4 lL_137 eX8_formattedCharacter (show jsh[0]? = some (8, 12) from rfl) rfl (c_X8_formattedCharacter (d := d - 1) hl (by omega) p0 p1 p2) (show d - 1 + 1 ≤ d ∧ 1 ≤ 1 ∧ 6 ≤ 6 from ⟨by omega, by decide, by decide⟩) rfl (fun E M' hX => by obtain ⟨rfl, hc, rfl⟩ := hX; exact ⟨iI 1, jL_formattedCharacter_0, s, ε, 1, rfl, rfl, Or.inr (Or.inl ⟨rfl, hc, rfl⟩)⟩) (Nat.le_of_ble_eq_true rfl) ?_
  rintro v M' ⟨r9, s1, rfl, rfl, hq⟩
  refine J.i2l dL_formattedCharacter_7 ?_
  refine I.last0 dL_formattedCharacter_8 ?_
  refine J.goto 15 dL_formattedCharacter_9 (by decide) ?_
  refine I.iconst dL_formattedCharacter_15 ?_
  exact I.iret dL_formattedCharacter_16 rfl ⟨s1, _, 0, rfl, rfl, Or.inl ⟨rfl, r9, hq, jup2_at ε.1 142 0 _⟩⟩
abbrev hL_greatestPossibleScore : List (Nat × Nat × Nat × Nat) := [(0, 9, 12, 29)]
theorem eL_greatestPossibleScore : jSW mL_greatestPossibleScore hL_greatestPossibleScore 3 := ⟨jG_mem 1302 (by decide +kernel) rfl, jG_mem 107 (by decide +kernel) rfl, ⟨by decide +kernel, by decide +kernel, by decide +kernel⟩, by decide, jG_mem 1301 (by decide +kernel) rfl⟩
theorem jL_greatestPossibleScore_0 : jCatch mL_greatestPossibleScore hL_greatestPossibleScore 4 "java/lang/IndexOutOfBoundsException" (iI 1) := ⟨[], ⟨0, 9, 12, 29⟩, [], rfl, (fun z hz => nomatch hz), by decide, by decide, kL_29, zL_29, Or.inl ⟨3, 1, by decide, rfl, dL_greatestPossibleScore_12, dL_greatestPossibleScore_13, dL_greatestPossibleScore_14⟩⟩
set_option maxHeartbeats 1000000 in
theorem c_L_greatestPossibleScore {Γ : jE} (hl : Γ.1.stackTraces = false) {s : Nat → Int → Int} {ε : jEps} {d : Nat} {p : Int} {f : Int → Int} (hd : 6 ≤ d) (p0 : RM s 21 f) (p1 : -2147483648 ≤ p ∧ p < 2147483648) : ConW Γ (d, 1, 6) mL_greatestPossibleScore hL_greatestPossibleScore [.ref 0, .int (iI p), .ref 142] (jmem s ε) (LwQ (fun w s' => (0 ≤ p ∧ p ≤ 1) ∧ gGreat f p = w ∧ s = s') (fun s' => (¬ (0 ≤ p ∧ p ≤ 1)) ∧ s' = s) (fun _ => False)) := by
  refine ConW.ofJ (by decide +kernel) (by simp [Value.category]) (Nat.le_of_ble_eq_true rfl) rfl (by decide) ?_ hl
  refine JH.aload_n 2 dL_greatestPossibleScore_0 rfl rfl ?_
  refine JH.iconst (iI 0) dL_greatestPossibleScore_1 rfl ?_
  refine JH.aload_n 0 dL_greatestPossibleScore_2 rfl rfl ?_
  refine JH.iload_n 1 dL_greatestPossibleScore_3 rfl rfl ?_
  refine JH.call1 (b' := (d - 1, 1, 6)) (mi' := mX8_greatestPossibleScore) dL_greatestPossibleScore_4 lL_88 eX8_greatestPossibleScore (show jsh[0]? = some (8, 12) from rfl) rfl (c_X8_greatestPossibleScore (d := d - 1) hl (by omega) p0 p1) (show d - 1 + 1 ≤ d ∧ 1 ≤ 1 ∧ 6 ≤ 6 from ⟨by omega, by decide, by decide⟩) rfl (fun E M' hX => by obtain ⟨rfl, hc, rfl⟩ := hX; exact ⟨iI 1, jL_greatestPossibleScore_0, s, ε, 1, rfl, rfl, Or.inr (Or.inl ⟨rfl, hc, rfl⟩)⟩) (Nat.le_of_ble_eq_true rfl) ?_
  rintro v M' ⟨r9, s1, rfl, rfl, hq⟩
  refine J.i2l dL_greatestPossibleScore_7 ?_
  refine I.last0 dL_greatestPossibleScore_8 ?_
  refine J.goto 15 dL_greatestPossibleScore_9 (by decide) ?_
  refine I.iconst dL_greatestPossibleScore_15 ?_
  exact I.iret dL_greatestPossibleScore_16 rfl ⟨s1, _, 0, rfl, rfl, Or.inl ⟨rfl, r9, hq, jup2_at ε.1 142 0 _⟩⟩
abbrev hL_greedyMove : List (Nat × Nat × Nat × Nat) := [(0, 8, 11, 100)]
theorem eL_greedyMove : jSW mL_greedyMove hL_greedyMove 2 := ⟨jG_mem 1383 (by decide +kernel) rfl, jG_mem 107 (by decide +kernel) rfl, ⟨by decide +kernel, by decide +kernel, by decide +kernel⟩, by decide, jG_mem 1382 (by decide +kernel) rfl⟩
theorem jL_greedyMove_0 : jCatch mL_greedyMove hL_greedyMove 3 "java/util/NoSuchElementException" (iI 1) := ⟨[], ⟨0, 8, 11, 100⟩, [], rfl, (fun z hz => nomatch hz), by decide, by decide, kL_100, zL_100, Or.inl ⟨2, 1, by decide, rfl, dL_greedyMove_11, dL_greedyMove_12, dL_greedyMove_13⟩⟩
set_option maxHeartbeats 1000000 in
theorem c_L_greedyMove {Γ : jE} (hl : Γ.1.stackTraces = false) {s : Nat → Int → Int} {ε : jEps} {d : Nat} {f : Int → Int} (hd : 5 ≤ d) (p0 : RM s 21 f) (p1 : SO s f) : ConW Γ (d, 1, 6) mL_greedyMove hL_greedyMove [.ref 0, .ref 142] (jmem s ε) (LwQ (fun w s' => (¬ gOver f) ∧ gGi f = w ∧ CFr s s' f) (fun s' => (¬ (¬ gOver f)) ∧ s' = s) (fun _ => False)) := by
  refine ConW.ofJ (by decide +kernel) (by simp [Value.category]) (Nat.le_of_ble_eq_true rfl) rfl (by decide) ?_ hl
  refine JH.aload_n 1 dL_greedyMove_0 rfl rfl ?_
  refine JH.iconst (iI 0) dL_greedyMove_1 rfl ?_
  refine JH.aload_n 0 dL_greedyMove_2 rfl rfl ?_
  refine JH.call0 (b' := (d - 1, 1, 6)) (mi' := mX8_greedyMove) dL_greedyMove_3 lL_111 eX8_greedyMove (show jsh[0]? = some (8, 12) from rfl) rfl (c_X8_greedyMove (d := d - 1) hl (by omega) p0 p1) (show d - 1 + 1 ≤ d ∧ 1 ≤ 1 ∧ 6 ≤ 6 from ⟨by omega, by decide, by decide⟩) rfl (fun E M' hX => by obtain ⟨rfl, hc, rfl⟩ := hX; exact ⟨iI 1, jL_greedyMove_0, s, ε, 1, rfl, rfl, Or.inr (Or.inl ⟨rfl, hc, rfl⟩)⟩) (Nat.le_of_ble_eq_true rfl) ?_
  rintro v M' ⟨r9, s1, rfl, rfl, hq⟩
  refine J.i2l dL_greedyMove_6 ?_
  refine I.last0 dL_greedyMove_7 ?_
  refine J.goto 14 dL_greedyMove_8 (by decide) ?_
  refine I.iconst dL_greedyMove_14 ?_
  exact I.iret dL_greedyMove_15 rfl ⟨s1, _, 0, rfl, rfl, Or.inl ⟨rfl, r9, hq, jup2_at ε.1 142 0 _⟩⟩
abbrev hL_isLeftBurn : List (Nat × Nat × Nat × Nat) := [(0, 16, 19, 29)]
theorem eL_isLeftBurn : jSW mL_isLeftBurn hL_isLeftBurn 3 := ⟨jG_mem 1268 (by decide +kernel) rfl, jG_mem 107 (by decide +kernel) rfl, ⟨by decide +kernel, by decide +kernel, by decide +kernel⟩, by decide, jG_mem 1267 (by decide +kernel) rfl⟩
theorem jL_isLeftBurn_0 : jCatch mL_isLeftBurn hL_isLeftBurn 4 "java/lang/IndexOutOfBoundsException" (iI 1) := ⟨[], ⟨0, 16, 19, 29⟩, [], rfl, (fun z hz => nomatch hz), by decide, by decide, kL_29, zL_29, Or.inl ⟨3, 1, by decide, rfl, dL_isLeftBurn_19, dL_isLeftBurn_20, dL_isLeftBurn_21⟩⟩
set_option maxHeartbeats 1000000 in
theorem c_L_isLeftBurn {Γ : jE} (hl : Γ.1.stackTraces = false) {s : Nat → Int → Int} {ε : jEps} {d : Nat} {i : Int} {f : Int → Int} (hd : 5 ≤ d) (p0 : RM s 21 f) (p1 : -2147483648 ≤ i ∧ i < 2147483648) : ConW Γ (d, 1, 6) mL_isLeftBurn hL_isLeftBurn [.ref 0, .int (iI i), .ref 142] (jmem s ε) (LwQ (fun w s' => (0 ≤ i ∧ i < gMoves f) ∧ bI (gMvAt f i ≠ 6 ∧ gMvAt f i % 2 = 0) = w ∧ s = s') (fun s' => (¬ (0 ≤ i ∧ i < gMoves f)) ∧ s' = s) (fun _ => False)) := by
  refine ConW.ofJ (by decide +kernel) (by simp [Value.category]) (Nat.le_of_ble_eq_true rfl) rfl (by decide) ?_ hl
  refine JH.aload_n 2 dL_isLeftBurn_0 rfl rfl ?_
  refine JH.iconst (iI 0) dL_isLeftBurn_1 rfl ?_
  refine JH.aload_n 0 dL_isLeftBurn_2 rfl rfl ?_
  refine JH.iload_n 1 dL_isLeftBurn_3 rfl rfl ?_
  refine JH.call1 (b' := (d - 1, 1, 6)) (mi' := mX8_isLeftBurn) dL_isLeftBurn_4 lL_76 eX8_isLeftBurn (show jsh[0]? = some (8, 12) from rfl) rfl (c_X8_isLeftBurn (d := d - 1) hl (by omega) p0 p1) (show d - 1 + 1 ≤ d ∧ 1 ≤ 1 ∧ 6 ≤ 6 from ⟨by omega, by decide, by decide⟩) rfl (fun E M' hX => by obtain ⟨rfl, hc, rfl⟩ := hX; exact ⟨iI 1, jL_isLeftBurn_0, s, ε, 1, rfl, rfl, Or.inr (Or.inl ⟨rfl, hc, rfl⟩)⟩) (Nat.le_of_ble_eq_true rfl) ?_
  rintro v M' ⟨r9, s1, rfl, rfl, hq⟩
  have hb9 : r9 = 0 ∨ r9 = 1 := by rw [← hq.2.1]; exact bI_01 _
  rcases hb9 with rfl | rfl
  · refine I.if_eq0 14 dL_isLeftBurn_7 (by decide) ?_
    refine J.lconst (iI 0).toInt64 dL_isLeftBurn_14 (by decide) ?_
    refine I.last0 dL_isLeftBurn_15 ?_
    refine J.goto 22 dL_isLeftBurn_16 (by decide) ?_
    refine I.iconst dL_isLeftBurn_22 ?_
    exact I.iret dL_isLeftBurn_23 rfl ⟨s1, _, 0, rfl, rfl, Or.inl ⟨rfl, 0, hq, jup2_at ε.1 142 0 _⟩⟩
  · refine J.if_eq 14 dL_isLeftBurn_7 (by decide) (fun h => absurd h (by decide)) (fun _ => ?_)
    refine J.lconst (iI 1).toInt64 dL_isLeftBurn_10 (by decide) ?_
    refine J.goto 15 dL_isLeftBurn_11 (by decide) ?_
    refine I.last0 dL_isLeftBurn_15 ?_
    refine J.goto 22 dL_isLeftBurn_16 (by decide) ?_
    refine I.iconst dL_isLeftBurn_22 ?_
    exact I.iret dL_isLeftBurn_23 rfl ⟨s1, _, 0, rfl, rfl, Or.inl ⟨rfl, 1, hq, jup2_at ε.1 142 0 _⟩⟩
abbrev hL_isPass : List (Nat × Nat × Nat × Nat) := [(0, 16, 19, 29)]
theorem eL_isPass : jSW mL_isPass hL_isPass 3 := ⟨jG_mem 1248 (by decide +kernel) rfl, jG_mem 107 (by decide +kernel) rfl, ⟨by decide +kernel, by decide +kernel, by decide +kernel⟩, by decide, jG_mem 1247 (by decide +kernel) rfl⟩
theorem jL_isPass_0 : jCatch mL_isPass hL_isPass 4 "java/lang/IndexOutOfBoundsException" (iI 1) := ⟨[], ⟨0, 16, 19, 29⟩, [], rfl, (fun z hz => nomatch hz), by decide, by decide, kL_29, zL_29, Or.inl ⟨3, 1, by decide, rfl, dL_isPass_19, dL_isPass_20, dL_isPass_21⟩⟩
set_option maxHeartbeats 1000000 in
theorem c_L_isPass {Γ : jE} (hl : Γ.1.stackTraces = false) {s : Nat → Int → Int} {ε : jEps} {d : Nat} {i : Int} {f : Int → Int} (hd : 5 ≤ d) (p0 : RM s 21 f) (p1 : -2147483648 ≤ i ∧ i < 2147483648) : ConW Γ (d, 1, 6) mL_isPass hL_isPass [.ref 0, .int (iI i), .ref 142] (jmem s ε) (LwQ (fun w s' => (0 ≤ i ∧ i < gMoves f) ∧ bI (gMvAt f i = 6) = w ∧ s = s') (fun s' => (¬ (0 ≤ i ∧ i < gMoves f)) ∧ s' = s) (fun _ => False)) := by
  refine ConW.ofJ (by decide +kernel) (by simp [Value.category]) (Nat.le_of_ble_eq_true rfl) rfl (by decide) ?_ hl
  refine JH.aload_n 2 dL_isPass_0 rfl rfl ?_
  refine JH.iconst (iI 0) dL_isPass_1 rfl ?_
  refine JH.aload_n 0 dL_isPass_2 rfl rfl ?_
  refine JH.iload_n 1 dL_isPass_3 rfl rfl ?_
  refine JH.call1 (b' := (d - 1, 1, 6)) (mi' := mX8_isPass) dL_isPass_4 lL_69 eX8_isPass (show jsh[0]? = some (8, 12) from rfl) rfl (c_X8_isPass (d := d - 1) hl (by omega) p0 p1) (show d - 1 + 1 ≤ d ∧ 1 ≤ 1 ∧ 6 ≤ 6 from ⟨by omega, by decide, by decide⟩) rfl (fun E M' hX => by obtain ⟨rfl, hc, rfl⟩ := hX; exact ⟨iI 1, jL_isPass_0, s, ε, 1, rfl, rfl, Or.inr (Or.inl ⟨rfl, hc, rfl⟩)⟩) (Nat.le_of_ble_eq_true rfl) ?_
  rintro v M' ⟨r9, s1, rfl, rfl, hq⟩
  have hb9 : r9 = 0 ∨ r9 = 1 := by rw [← hq.2.1]; exact bI_01 _
  rcases hb9 with rfl | rfl
  · refine I.if_eq0 14 dL_isPass_7 (by decide) ?_
    refine J.lconst (iI 0).toInt64 dL_isPass_14 (by decide) ?_
    refine I.last0 dL_isPass_15 ?_
    refine J.goto 22 dL_isPass_16 (by decide) ?_
    refine I.iconst dL_isPass_22 ?_
    exact I.iret dL_isPass_23 rfl ⟨s1, _, 0, rfl, rfl, Or.inl ⟨rfl, 0, hq, jup2_at ε.1 142 0 _⟩⟩
  · refine J.if_eq 14 dL_isPass_7 (by decide) (fun h => absurd h (by decide)) (fun _ => ?_)
    refine J.lconst (iI 1).toInt64 dL_isPass_10 (by decide) ?_
    refine J.goto 15 dL_isPass_11 (by decide) ?_
    refine I.last0 dL_isPass_15 ?_
    refine J.goto 22 dL_isPass_16 (by decide) ?_
    refine I.iconst dL_isPass_22 ?_
    exact I.iret dL_isPass_23 rfl ⟨s1, _, 0, rfl, rfl, Or.inl ⟨rfl, 1, hq, jup2_at ε.1 142 0 _⟩⟩
abbrev hL_leftPips : List (Nat × Nat × Nat × Nat) := [(0, 10, 13, 29)]
theorem eL_leftPips : jSW mL_leftPips hL_leftPips 4 := ⟨jG_mem 1206 (by decide +kernel) rfl, jG_mem 107 (by decide +kernel) rfl, ⟨by decide +kernel, by decide +kernel, by decide +kernel⟩, by decide, jG_mem 1205 (by decide +kernel) rfl⟩
theorem jL_leftPips_0 : jCatch mL_leftPips hL_leftPips 5 "java/lang/IndexOutOfBoundsException" (iI 1) := ⟨[], ⟨0, 10, 13, 29⟩, [], rfl, (fun z hz => nomatch hz), by decide, by decide, kL_29, zL_29, Or.inr ⟨4, 1, by decide, rfl, dL_leftPips_13, dL_leftPips_15, dL_leftPips_16⟩⟩
set_option maxHeartbeats 1000000 in
theorem c_L_leftPips {Γ : jE} (hl : Γ.1.stackTraces = false) {s : Nat → Int → Int} {ε : jEps} {d : Nat} {c : Int} {t : Int} {f : Int → Int} (hd : 5 ≤ d) (p0 : RM s 21 f) (p1 : -2147483648 ≤ c ∧ c < 2147483648) (p2 : -2147483648 ≤ t ∧ t < 2147483648) : ConW Γ (d, 2, 12) mL_leftPips hL_leftPips [.ref 0, .int (iI c), .int (iI t), .ref 142] (jmem s ε) (LwQ (fun w s' => ((0 ≤ c ∧ c < f (18 + f 1)) ∧ 0 ≤ t ∧ t < f (37 + c) - f (34 + c) + 1) ∧ gT f c t / 10 = w ∧ s = s') (fun s' => (¬ ((0 ≤ c ∧ c < f (18 + f 1)) ∧ 0 ≤ t ∧ t < f (37 + c) - f (34 + c) + 1)) ∧ s' = s) (fun _ => False)) := by
  refine ConW.ofJ (by decide +kernel) (by simp [Value.category]) (Nat.le_of_ble_eq_true rfl) rfl (by decide) ?_ hl
  refine JH.aload_n 3 dL_leftPips_0 rfl rfl ?_
  refine JH.iconst (iI 0) dL_leftPips_1 rfl ?_
  refine JH.aload_n 0 dL_leftPips_2 rfl rfl ?_
  refine JH.iload_n 1 dL_leftPips_3 rfl rfl ?_
  refine JH.iload_n 2 dL_leftPips_4 rfl rfl ?_
  refine JH.call2 (b' := (d - 1, 2, 12)) (mi' := mX8_leftPips) dL_leftPips_5 lL_54 eX8_leftPips (show jsh[0]? = some (8, 12) from rfl) rfl (c_X8_leftPips (d := d - 1) hl (by omega) p0 p1 p2) (show d - 1 + 1 ≤ d ∧ 2 ≤ 2 ∧ 12 ≤ 12 from ⟨by omega, by decide, by decide⟩) rfl (fun E M' hX => by obtain ⟨rfl, hc, rfl⟩ := hX; exact ⟨iI 1, jL_leftPips_0, s, ε, 1, rfl, rfl, Or.inr (Or.inl ⟨rfl, hc, rfl⟩)⟩) (Nat.le_of_ble_eq_true rfl) ?_
  rintro v M' ⟨r9, s1, rfl, rfl, hq⟩
  refine J.i2l dL_leftPips_8 ?_
  refine I.last0 dL_leftPips_9 ?_
  refine J.goto 17 dL_leftPips_10 (by decide) ?_
  refine I.iconst dL_leftPips_17 ?_
  exact I.iret dL_leftPips_18 rfl ⟨s1, _, 0, rfl, rfl, Or.inl ⟨rfl, r9, hq, jup2_at ε.1 142 0 _⟩⟩
abbrev hL_load : List (Nat × Nat × Nat × Nat) := [(0, 8, 11, 19)]
theorem eL_load : jSW mL_load hL_load 2 := ⟨jG_mem 950 (by decide +kernel) rfl, jG_mem 107 (by decide +kernel) rfl, ⟨by decide +kernel, by decide +kernel, by decide +kernel⟩, by decide, jG_mem 949 (by decide +kernel) rfl⟩
theorem jL_load_0 : jCatch mL_load hL_load 3 "java/lang/IllegalArgumentException" (iI 1) := ⟨[], ⟨0, 8, 11, 19⟩, [], rfl, (fun z hz => nomatch hz), by decide, by decide, kL_19, zL_19, Or.inl ⟨2, 1, by decide, rfl, dL_load_11, dL_load_12, dL_load_13⟩⟩
set_option maxHeartbeats 1000000 in
theorem c_L_load {Γ : jE} (hl : Γ.1.stackTraces = false) {s : Nat → Int → Int} {ε : jEps} {d : Nat} {a : AS} (hd : 8 ≤ d) (p0 : CI s a) (p1 : AI a) : ConW Γ (d, 1, 6) mL_load hL_load [.ref 0, .ref 142] (jmem s ε) (LwQ (fun w s' => (pAll (aT a) (aL a)).1 = 0 ∧ (pAll (aT a) (aL a)).2.2 0 = w ∧ CI s' (aLd a (pAll (aT a) (aL a)).2.2) ∧ AI (aLd a (pAll (aT a) (aL a)).2.2) ∧ HiE s s') (fun s' => (pAll (aT a) (aL a)).1 ≠ 0 ∧ CI s' (aBad a (pAll (aT a) (aL a)).1 (pS (aT a) (aL a) (pAll (aT a) (aL a)).2.1)) ∧ HiE s s') (fun _ => False)) := by
  refine ConW.ofJ (by decide +kernel) (by simp [Value.category]) (Nat.le_of_ble_eq_true rfl) rfl (by decide) ?_ hl
  refine JH.aload_n 1 dL_load_0 rfl rfl ?_
  refine JH.iconst (iI 0) dL_load_1 rfl ?_
  refine JH.aload_n 0 dL_load_2 rfl rfl ?_
  refine JH.call0 (b' := (d - 1, 1, 6)) (mi' := mX8_load) dL_load_3 lL_21 eX8_load (show jsh[0]? = some (8, 12) from rfl) rfl (c_X8_load (d := d - 1) hl (by omega) p0 p1) (show d - 1 + 1 ≤ d ∧ 1 ≤ 1 ∧ 6 ≤ 6 from ⟨by omega, by decide, by decide⟩) rfl (fun E M' hX => by obtain ⟨rfl, s1, rfl, hc⟩ := hX; exact ⟨iI 1, jL_load_0, s1, ε, 1, rfl, rfl, Or.inr (Or.inl ⟨rfl, hc⟩)⟩) (Nat.le_of_ble_eq_true rfl) ?_
  rintro v M' ⟨r9, s1, rfl, rfl, hq⟩
  refine J.i2l dL_load_6 ?_
  refine I.last0 dL_load_7 ?_
  refine J.goto 14 dL_load_8 (by decide) ?_
  refine I.iconst dL_load_14 ?_
  exact I.iret dL_load_15 rfl ⟨s1, _, 0, rfl, rfl, Or.inl ⟨rfl, r9, hq, jup2_at ε.1 142 0 _⟩⟩
abbrev hL_loggedChain : List (Nat × Nat × Nat × Nat) := [(0, 9, 12, 29)]
theorem eL_loggedChain : jSW mL_loggedChain hL_loggedChain 3 := ⟨jG_mem 1295 (by decide +kernel) rfl, jG_mem 107 (by decide +kernel) rfl, ⟨by decide +kernel, by decide +kernel, by decide +kernel⟩, by decide, jG_mem 1294 (by decide +kernel) rfl⟩
theorem jL_loggedChain_0 : jCatch mL_loggedChain hL_loggedChain 4 "java/lang/IndexOutOfBoundsException" (iI 1) := ⟨[], ⟨0, 9, 12, 29⟩, [], rfl, (fun z hz => nomatch hz), by decide, by decide, kL_29, zL_29, Or.inl ⟨3, 1, by decide, rfl, dL_loggedChain_12, dL_loggedChain_13, dL_loggedChain_14⟩⟩
set_option maxHeartbeats 1000000 in
theorem c_L_loggedChain {Γ : jE} (hl : Γ.1.stackTraces = false) {s : Nat → Int → Int} {ε : jEps} {d : Nat} {i : Int} {f : Int → Int} (hd : 2 ≤ d) (p0 : RM s 21 f) (p1 : -2147483648 ≤ i ∧ i < 2147483648) : ConW Γ (d, 1, 6) mL_loggedChain hL_loggedChain [.ref 0, .int (iI i), .ref 142] (jmem s ε) (LwQ (fun w s' => (0 ≤ i ∧ i < f 5) ∧ gChn (f (136 + i)) = w ∧ s = s') (fun s' => (¬ (0 ≤ i ∧ i < f 5)) ∧ s' = s) (fun _ => False)) := by
  refine ConW.ofJ (by decide +kernel) (by simp [Value.category]) (Nat.le_of_ble_eq_true rfl) rfl (by decide) ?_ hl
  refine JH.aload_n 2 dL_loggedChain_0 rfl rfl ?_
  refine JH.iconst (iI 0) dL_loggedChain_1 rfl ?_
  refine JH.aload_n 0 dL_loggedChain_2 rfl rfl ?_
  refine JH.iload_n 1 dL_loggedChain_3 rfl rfl ?_
  refine JH.call1 (b' := (d - 1, 1, 6)) (mi' := mX8_loggedChain) dL_loggedChain_4 lL_85 eX8_loggedChain (show jsh[0]? = some (8, 12) from rfl) rfl (c_X8_loggedChain (d := d - 1) hl (by omega) p0 p1) (show d - 1 + 1 ≤ d ∧ 1 ≤ 1 ∧ 6 ≤ 6 from ⟨by omega, by decide, by decide⟩) rfl (fun E M' hX => by obtain ⟨rfl, hc, rfl⟩ := hX; exact ⟨iI 1, jL_loggedChain_0, s, ε, 1, rfl, rfl, Or.inr (Or.inl ⟨rfl, hc, rfl⟩)⟩) (Nat.le_of_ble_eq_true rfl) ?_
  rintro v M' ⟨r9, s1, rfl, rfl, hq⟩
  refine J.i2l dL_loggedChain_7 ?_
  refine I.last0 dL_loggedChain_8 ?_
  refine J.goto 15 dL_loggedChain_9 (by decide) ?_
  refine I.iconst dL_loggedChain_15 ?_
  exact I.iret dL_loggedChain_16 rfl ⟨s1, _, 0, rfl, rfl, Or.inl ⟨rfl, r9, hq, jup2_at ε.1 142 0 _⟩⟩
abbrev hL_loggedScore : List (Nat × Nat × Nat × Nat) := [(0, 9, 12, 29)]
theorem eL_loggedScore : jSW mL_loggedScore hL_loggedScore 3 := ⟨jG_mem 1283 (by decide +kernel) rfl, jG_mem 107 (by decide +kernel) rfl, ⟨by decide +kernel, by decide +kernel, by decide +kernel⟩, by decide, jG_mem 1282 (by decide +kernel) rfl⟩
theorem jL_loggedScore_0 : jCatch mL_loggedScore hL_loggedScore 4 "java/lang/IndexOutOfBoundsException" (iI 1) := ⟨[], ⟨0, 9, 12, 29⟩, [], rfl, (fun z hz => nomatch hz), by decide, by decide, kL_29, zL_29, Or.inl ⟨3, 1, by decide, rfl, dL_loggedScore_12, dL_loggedScore_13, dL_loggedScore_14⟩⟩
set_option maxHeartbeats 1000000 in
theorem c_L_loggedScore {Γ : jE} (hl : Γ.1.stackTraces = false) {s : Nat → Int → Int} {ε : jEps} {d : Nat} {i : Int} {f : Int → Int} (hd : 2 ≤ d) (p0 : RM s 21 f) (p1 : -2147483648 ≤ i ∧ i < 2147483648) : ConW Γ (d, 1, 6) mL_loggedScore hL_loggedScore [.ref 0, .int (iI i), .ref 142] (jmem s ε) (LwQ (fun w s' => (0 ≤ i ∧ i < f 5) ∧ f (184 + i) = w ∧ s = s') (fun s' => (¬ (0 ≤ i ∧ i < f 5)) ∧ s' = s) (fun _ => False)) := by
  refine ConW.ofJ (by decide +kernel) (by simp [Value.category]) (Nat.le_of_ble_eq_true rfl) rfl (by decide) ?_ hl
  refine JH.aload_n 2 dL_loggedScore_0 rfl rfl ?_
  refine JH.iconst (iI 0) dL_loggedScore_1 rfl ?_
  refine JH.aload_n 0 dL_loggedScore_2 rfl rfl ?_
  refine JH.iload_n 1 dL_loggedScore_3 rfl rfl ?_
  refine JH.call1 (b' := (d - 1, 1, 6)) (mi' := mX8_loggedScore) dL_loggedScore_4 lL_82 eX8_loggedScore (show jsh[0]? = some (8, 12) from rfl) rfl (c_X8_loggedScore (d := d - 1) hl (by omega) p0 p1) (show d - 1 + 1 ≤ d ∧ 1 ≤ 1 ∧ 6 ≤ 6 from ⟨by omega, by decide, by decide⟩) rfl (fun E M' hX => by obtain ⟨rfl, hc, rfl⟩ := hX; exact ⟨iI 1, jL_loggedScore_0, s, ε, 1, rfl, rfl, Or.inr (Or.inl ⟨rfl, hc, rfl⟩)⟩) (Nat.le_of_ble_eq_true rfl) ?_
  rintro v M' ⟨r9, s1, rfl, rfl, hq⟩
  refine J.i2l dL_loggedScore_7 ?_
  refine I.last0 dL_loggedScore_8 ?_
  refine J.goto 15 dL_loggedScore_9 (by decide) ?_
  refine I.iconst dL_loggedScore_15 ?_
  exact I.iret dL_loggedScore_16 rfl ⟨s1, _, 0, rfl, rfl, Or.inl ⟨rfl, r9, hq, jup2_at ε.1 142 0 _⟩⟩
abbrev hL_meanTileScore : List (Nat × Nat × Nat × Nat) := [(0, 8, 11, 29)]
theorem eL_meanTileScore : jSW mL_meanTileScore hL_meanTileScore 3 := ⟨jG_mem 1187 (by decide +kernel) rfl, jG_mem 107 (by decide +kernel) rfl, ⟨by decide +kernel, by decide +kernel, by decide +kernel⟩, by decide, jG_mem 1186 (by decide +kernel) rfl⟩
theorem jL_meanTileScore_0 : jCatch mL_meanTileScore hL_meanTileScore 4 "java/lang/IndexOutOfBoundsException" (iI 1) := ⟨[], ⟨0, 8, 11, 29⟩, [], rfl, (fun z hz => nomatch hz), by decide, by decide, kL_29, zL_29, Or.inl ⟨3, 1, by decide, rfl, dL_meanTileScore_11, dL_meanTileScore_12, dL_meanTileScore_13⟩⟩
set_option maxHeartbeats 1000000 in
theorem c_L_meanTileScore {Γ : jE} (hl : Γ.1.stackTraces = false) {s : Nat → Int → Int} {ε : jEps} {d : Nat} {p : Int} {f : Int → Int} (hd : 4 ≤ d) (p0 : RM s 21 f) (p1 : -2147483648 ≤ p ∧ p < 2147483648) : ConW Γ (d, 1, 6) mL_meanTileScore hL_meanTileScore [.ref 0, .int (iI p), .ref 143] (jmem s ε) (LwD (fun w s' => (0 ≤ p ∧ p ≤ 1) ∧ gMean f p = w ∧ s = s') (fun s' => (¬ (0 ≤ p ∧ p ≤ 1)) ∧ s' = s)) := by
  refine ConW.ofJ (by decide +kernel) (by simp [Value.category]) (Nat.le_of_ble_eq_true rfl) rfl (by decide) ?_ hl
  refine JH.aload_n 2 dL_meanTileScore_0 rfl rfl ?_
  refine JH.iconst (iI 0) dL_meanTileScore_1 rfl ?_
  refine JH.aload_n 0 dL_meanTileScore_2 rfl rfl ?_
  refine JH.iload_n 1 dL_meanTileScore_3 rfl rfl ?_
  refine JH.call1 (b' := (d - 1, 1, 6)) (mi' := mX8_meanTileScore) dL_meanTileScore_4 lL_47 eX8_meanTileScore (show jsh[0]? = some (8, 12) from rfl) rfl (c_X8_meanTileScore (d := d - 1) hl (by omega) p0 p1) (show d - 1 + 1 ≤ d ∧ 1 ≤ 1 ∧ 6 ≤ 6 from ⟨by omega, by decide, by decide⟩) rfl (fun E M' hX => by obtain ⟨rfl, hc, rfl⟩ := hX; exact ⟨iI 1, jL_meanTileScore_0, s, ε, 1, rfl, rfl, Or.inr ⟨rfl, hc, rfl⟩⟩) (Nat.le_of_ble_eq_true rfl) ?_
  rintro v M' ⟨r9, s1, rfl, rfl, hq⟩
  refine I.dast0 dL_meanTileScore_7 ?_
  refine J.goto 14 dL_meanTileScore_8 (by decide) ?_
  refine I.iconst dL_meanTileScore_14 ?_
  exact I.iret dL_meanTileScore_15 rfl ⟨s1, _, 0, rfl, rfl, Or.inl ⟨rfl, r9, hq, jup2_at ε.2 143 0 _⟩⟩
abbrev hL_moveChain : List (Nat × Nat × Nat × Nat) := [(0, 9, 12, 29)]
theorem eL_moveChain : jSW mL_moveChain hL_moveChain 3 := ⟨jG_mem 1260 (by decide +kernel) rfl, jG_mem 107 (by decide +kernel) rfl, ⟨by decide +kernel, by decide +kernel, by decide +kernel⟩, by decide, jG_mem 1259 (by decide +kernel) rfl⟩
theorem jL_moveChain_0 : jCatch mL_moveChain hL_moveChain 4 "java/lang/IndexOutOfBoundsException" (iI 1) := ⟨[], ⟨0, 9, 12, 29⟩, [], rfl, (fun z hz => nomatch hz), by decide, by decide, kL_29, zL_29, Or.inl ⟨3, 1, by decide, rfl, dL_moveChain_12, dL_moveChain_13, dL_moveChain_14⟩⟩
set_option maxHeartbeats 1000000 in
theorem c_L_moveChain {Γ : jE} (hl : Γ.1.stackTraces = false) {s : Nat → Int → Int} {ε : jEps} {d : Nat} {i : Int} {f : Int → Int} (hd : 5 ≤ d) (p0 : RM s 21 f) (p1 : -2147483648 ≤ i ∧ i < 2147483648) : ConW Γ (d, 1, 6) mL_moveChain hL_moveChain [.ref 0, .int (iI i), .ref 142] (jmem s ε) (LwQ (fun w s' => (0 ≤ i ∧ i < gMoves f) ∧ gChn (gMvAt f i) = w ∧ s = s') (fun s' => (¬ (0 ≤ i ∧ i < gMoves f)) ∧ s' = s) (fun _ => False)) := by
  refine ConW.ofJ (by decide +kernel) (by simp [Value.category]) (Nat.le_of_ble_eq_true rfl) rfl (by decide) ?_ hl
  refine JH.aload_n 2 dL_moveChain_0 rfl rfl ?_
  refine JH.iconst (iI 0) dL_moveChain_1 rfl ?_
  refine JH.aload_n 0 dL_moveChain_2 rfl rfl ?_
  refine JH.iload_n 1 dL_moveChain_3 rfl rfl ?_
  refine JH.call1 (b' := (d - 1, 1, 6)) (mi' := mX8_moveChain) dL_moveChain_4 lL_73 eX8_moveChain (show jsh[0]? = some (8, 12) from rfl) rfl (c_X8_moveChain (d := d - 1) hl (by omega) p0 p1) (show d - 1 + 1 ≤ d ∧ 1 ≤ 1 ∧ 6 ≤ 6 from ⟨by omega, by decide, by decide⟩) rfl (fun E M' hX => by obtain ⟨rfl, hc, rfl⟩ := hX; exact ⟨iI 1, jL_moveChain_0, s, ε, 1, rfl, rfl, Or.inr (Or.inl ⟨rfl, hc, rfl⟩)⟩) (Nat.le_of_ble_eq_true rfl) ?_
  rintro v M' ⟨r9, s1, rfl, rfl, hq⟩
  refine J.i2l dL_moveChain_7 ?_
  refine I.last0 dL_moveChain_8 ?_
  refine J.goto 15 dL_moveChain_9 (by decide) ?_
  refine I.iconst dL_moveChain_15 ?_
  exact I.iret dL_moveChain_16 rfl ⟨s1, _, 0, rfl, rfl, Or.inl ⟨rfl, r9, hq, jup2_at ε.1 142 0 _⟩⟩
abbrev hL_moveScore : List (Nat × Nat × Nat × Nat) := [(0, 9, 12, 29)]
theorem eL_moveScore : jSW mL_moveScore hL_moveScore 3 := ⟨jG_mem 1276 (by decide +kernel) rfl, jG_mem 107 (by decide +kernel) rfl, ⟨by decide +kernel, by decide +kernel, by decide +kernel⟩, by decide, jG_mem 1275 (by decide +kernel) rfl⟩
theorem jL_moveScore_0 : jCatch mL_moveScore hL_moveScore 4 "java/lang/IndexOutOfBoundsException" (iI 1) := ⟨[], ⟨0, 9, 12, 29⟩, [], rfl, (fun z hz => nomatch hz), by decide, by decide, kL_29, zL_29, Or.inl ⟨3, 1, by decide, rfl, dL_moveScore_12, dL_moveScore_13, dL_moveScore_14⟩⟩
set_option maxHeartbeats 1000000 in
theorem c_L_moveScore {Γ : jE} (hl : Γ.1.stackTraces = false) {s : Nat → Int → Int} {ε : jEps} {d : Nat} {i : Int} {f : Int → Int} (hd : 5 ≤ d) (p0 : RM s 21 f) (p1 : -2147483648 ≤ i ∧ i < 2147483648) : ConW Γ (d, 1, 6) mL_moveScore hL_moveScore [.ref 0, .int (iI i), .ref 142] (jmem s ε) (LwQ (fun w s' => (0 ≤ i ∧ i < gMoves f) ∧ gPt f (gMvAt f i) = w ∧ s = s') (fun s' => (¬ (0 ≤ i ∧ i < gMoves f)) ∧ s' = s) (fun _ => False)) := by
  refine ConW.ofJ (by decide +kernel) (by simp [Value.category]) (Nat.le_of_ble_eq_true rfl) rfl (by decide) ?_ hl
  refine JH.aload_n 2 dL_moveScore_0 rfl rfl ?_
  refine JH.iconst (iI 0) dL_moveScore_1 rfl ?_
  refine JH.aload_n 0 dL_moveScore_2 rfl rfl ?_
  refine JH.iload_n 1 dL_moveScore_3 rfl rfl ?_
  refine JH.call1 (b' := (d - 1, 1, 6)) (mi' := mX8_moveScore) dL_moveScore_4 lL_79 eX8_moveScore (show jsh[0]? = some (8, 12) from rfl) rfl (c_X8_moveScore (d := d - 1) hl (by omega) p0 p1) (show d - 1 + 1 ≤ d ∧ 1 ≤ 1 ∧ 6 ≤ 6 from ⟨by omega, by decide, by decide⟩) rfl (fun E M' hX => by obtain ⟨rfl, hc, rfl⟩ := hX; exact ⟨iI 1, jL_moveScore_0, s, ε, 1, rfl, rfl, Or.inr (Or.inl ⟨rfl, hc, rfl⟩)⟩) (Nat.le_of_ble_eq_true rfl) ?_
  rintro v M' ⟨r9, s1, rfl, rfl, hq⟩
  refine J.i2l dL_moveScore_7 ?_
  refine I.last0 dL_moveScore_8 ?_
  refine J.goto 15 dL_moveScore_9 (by decide) ?_
  refine I.iconst dL_moveScore_15 ?_
  exact I.iret dL_moveScore_16 rfl ⟨s1, _, 0, rfl, rfl, Or.inl ⟨rfl, r9, hq, jup2_at ε.1 142 0 _⟩⟩
abbrev hL_moveValue : List (Nat × Nat × Nat × Nat) := [(0, 9, 12, 29)]
theorem eL_moveValue : jSW mL_moveValue hL_moveValue 3 := ⟨jG_mem 1326 (by decide +kernel) rfl, jG_mem 107 (by decide +kernel) rfl, ⟨by decide +kernel, by decide +kernel, by decide +kernel⟩, by decide, jG_mem 1325 (by decide +kernel) rfl⟩
theorem jL_moveValue_0 : jCatch mL_moveValue hL_moveValue 4 "java/lang/IndexOutOfBoundsException" (iI 1) := ⟨[], ⟨0, 9, 12, 29⟩, [], rfl, (fun z hz => nomatch hz), by decide, by decide, kL_29, zL_29, Or.inl ⟨3, 1, by decide, rfl, dL_moveValue_12, dL_moveValue_13, dL_moveValue_14⟩⟩
set_option maxHeartbeats 1000000 in
theorem c_L_moveValue {Γ : jE} (hl : Γ.1.stackTraces = false) {s : Nat → Int → Int} {ε : jEps} {d : Nat} {i : Int} {f : Int → Int} (hd : 6 ≤ d) (p0 : RM s 21 f) (p1 : SO s f) (p2 : -2147483648 ≤ i ∧ i < 2147483648) : ConW Γ (d, 1, 6) mL_moveValue hL_moveValue [.ref 0, .int (iI i), .ref 142] (jmem s ε) (LwQ (fun w s' => (0 ≤ i ∧ i < gMoves f) ∧ gVal f (gMvAt f i) = w ∧ CFr s s' f) (fun s' => (¬ (0 ≤ i ∧ i < gMoves f)) ∧ s' = s) (fun _ => False)) := by
  refine ConW.ofJ (by decide +kernel) (by simp [Value.category]) (Nat.le_of_ble_eq_true rfl) rfl (by decide) ?_ hl
  refine JH.aload_n 2 dL_moveValue_0 rfl rfl ?_
  refine JH.iconst (iI 0) dL_moveValue_1 rfl ?_
  refine JH.aload_n 0 dL_moveValue_2 rfl rfl ?_
  refine JH.iload_n 1 dL_moveValue_3 rfl rfl ?_
  refine JH.call1 (b' := (d - 1, 1, 6)) (mi' := mX8_moveValue) dL_moveValue_4 lL_94 eX8_moveValue (show jsh[0]? = some (8, 12) from rfl) rfl (c_X8_moveValue (d := d - 1) hl (by omega) p0 p1 p2) (show d - 1 + 1 ≤ d ∧ 1 ≤ 1 ∧ 6 ≤ 6 from ⟨by omega, by decide, by decide⟩) rfl (fun E M' hX => by obtain ⟨rfl, hc, rfl⟩ := hX; exact ⟨iI 1, jL_moveValue_0, s, ε, 1, rfl, rfl, Or.inr (Or.inl ⟨rfl, hc, rfl⟩)⟩) (Nat.le_of_ble_eq_true rfl) ?_
  rintro v M' ⟨r9, s1, rfl, rfl, hq⟩
  refine J.i2l dL_moveValue_7 ?_
  refine I.last0 dL_moveValue_8 ?_
  refine J.goto 15 dL_moveValue_9 (by decide) ?_
  refine I.iconst dL_moveValue_15 ?_
  exact I.iret dL_moveValue_16 rfl ⟨s1, _, 0, rfl, rfl, Or.inl ⟨rfl, r9, hq, jup2_at ε.1 142 0 _⟩⟩
abbrev hL_optimalLineScore : List (Nat × Nat × Nat × Nat) := [(0, 9, 12, 29)]
theorem eL_optimalLineScore : jSW mL_optimalLineScore hL_optimalLineScore 3 := ⟨jG_mem 1364 (by decide +kernel) rfl, jG_mem 107 (by decide +kernel) rfl, ⟨by decide +kernel, by decide +kernel, by decide +kernel⟩, by decide, jG_mem 1363 (by decide +kernel) rfl⟩
theorem jL_optimalLineScore_0 : jCatch mL_optimalLineScore hL_optimalLineScore 4 "java/lang/IndexOutOfBoundsException" (iI 1) := ⟨[], ⟨0, 9, 12, 29⟩, [], rfl, (fun z hz => nomatch hz), by decide, by decide, kL_29, zL_29, Or.inl ⟨3, 1, by decide, rfl, dL_optimalLineScore_12, dL_optimalLineScore_13, dL_optimalLineScore_14⟩⟩
set_option maxHeartbeats 1000000 in
theorem c_L_optimalLineScore {Γ : jE} (hl : Γ.1.stackTraces = false) {s : Nat → Int → Int} {ε : jEps} {d : Nat} {i : Int} {f : Int → Int} (hd : 8 ≤ d) (p0 : RM s 21 f) (p1 : SO s f) (p2 : -2147483648 ≤ i ∧ i < 2147483648) : ConW Γ (d, 1, 6) mL_optimalLineScore hL_optimalLineScore [.ref 0, .int (iI i), .ref 142] (jmem s ε) (LwQ (fun w s' => (gLok f i) ∧ gPt (gRun i.toNat f) (gMvAt (gRun i.toNat f) (gFo (gRun i.toNat f))) = w ∧ CFr s s' f) (fun s' => ¬ gLok f i ∧ CFr s s' f) (fun _ => False)) := by
  refine ConW.ofJ (by decide +kernel) (by simp [Value.category]) (Nat.le_of_ble_eq_true rfl) rfl (by decide) ?_ hl
  refine JH.aload_n 2 dL_optimalLineScore_0 rfl rfl ?_
  refine JH.iconst (iI 0) dL_optimalLineScore_1 rfl ?_
  refine JH.aload_n 0 dL_optimalLineScore_2 rfl rfl ?_
  refine JH.iload_n 1 dL_optimalLineScore_3 rfl rfl ?_
  refine JH.call1 (b' := (d - 1, 1, 6)) (mi' := mX8_optimalLineScore) dL_optimalLineScore_4 lL_105 eX8_optimalLineScore (show jsh[0]? = some (8, 12) from rfl) rfl (c_X8_optimalLineScore (d := d - 1) hl (by omega) p0 p1 p2) (show d - 1 + 1 ≤ d ∧ 1 ≤ 1 ∧ 6 ≤ 6 from ⟨by omega, by decide, by decide⟩) rfl (fun E M' hX => by obtain ⟨rfl, s1, rfl, hc⟩ := hX; exact ⟨iI 1, jL_optimalLineScore_0, s1, ε, 1, rfl, rfl, Or.inr (Or.inl ⟨rfl, hc⟩)⟩) (Nat.le_of_ble_eq_true rfl) ?_
  rintro v M' ⟨r9, s1, rfl, rfl, hq⟩
  refine J.i2l dL_optimalLineScore_7 ?_
  refine I.last0 dL_optimalLineScore_8 ?_
  refine J.goto 15 dL_optimalLineScore_9 (by decide) ?_
  refine I.iconst dL_optimalLineScore_15 ?_
  exact I.iret dL_optimalLineScore_16 rfl ⟨s1, _, 0, rfl, rfl, Or.inl ⟨rfl, r9, hq, jup2_at ε.1 142 0 _⟩⟩
abbrev hL_optimalMove : List (Nat × Nat × Nat × Nat) := [(0, 8, 11, 100)]
theorem eL_optimalMove : jSW mL_optimalMove hL_optimalMove 2 := ⟨jG_mem 1333 (by decide +kernel) rfl, jG_mem 107 (by decide +kernel) rfl, ⟨by decide +kernel, by decide +kernel, by decide +kernel⟩, by decide, jG_mem 1332 (by decide +kernel) rfl⟩
theorem jL_optimalMove_0 : jCatch mL_optimalMove hL_optimalMove 3 "java/util/NoSuchElementException" (iI 1) := ⟨[], ⟨0, 8, 11, 100⟩, [], rfl, (fun z hz => nomatch hz), by decide, by decide, kL_100, zL_100, Or.inl ⟨2, 1, by decide, rfl, dL_optimalMove_11, dL_optimalMove_12, dL_optimalMove_13⟩⟩
set_option maxHeartbeats 1000000 in
theorem c_L_optimalMove {Γ : jE} (hl : Γ.1.stackTraces = false) {s : Nat → Int → Int} {ε : jEps} {d : Nat} {f : Int → Int} (hd : 6 ≤ d) (p0 : RM s 21 f) (p1 : SO s f) : ConW Γ (d, 1, 6) mL_optimalMove hL_optimalMove [.ref 0, .ref 142] (jmem s ε) (LwQ (fun w s' => (¬ gOver f) ∧ gFo f = w ∧ CFr s s' f) (fun s' => (¬ (¬ gOver f)) ∧ s' = s) (fun _ => False)) := by
  refine ConW.ofJ (by decide +kernel) (by simp [Value.category]) (Nat.le_of_ble_eq_true rfl) rfl (by decide) ?_ hl
  refine JH.aload_n 1 dL_optimalMove_0 rfl rfl ?_
  refine JH.iconst (iI 0) dL_optimalMove_1 rfl ?_
  refine JH.aload_n 0 dL_optimalMove_2 rfl rfl ?_
  refine JH.call0 (b' := (d - 1, 1, 6)) (mi' := mX8_optimalMove) dL_optimalMove_3 lL_97 eX8_optimalMove (show jsh[0]? = some (8, 12) from rfl) rfl (c_X8_optimalMove (d := d - 1) hl (by omega) p0 p1) (show d - 1 + 1 ≤ d ∧ 1 ≤ 1 ∧ 6 ≤ 6 from ⟨by omega, by decide, by decide⟩) rfl (fun E M' hX => by obtain ⟨rfl, hc, rfl⟩ := hX; exact ⟨iI 1, jL_optimalMove_0, s, ε, 1, rfl, rfl, Or.inr (Or.inl ⟨rfl, hc, rfl⟩)⟩) (Nat.le_of_ble_eq_true rfl) ?_
  rintro v M' ⟨r9, s1, rfl, rfl, hq⟩
  refine J.i2l dL_optimalMove_6 ?_
  refine I.last0 dL_optimalMove_7 ?_
  refine J.goto 14 dL_optimalMove_8 (by decide) ?_
  refine I.iconst dL_optimalMove_14 ?_
  exact I.iret dL_optimalMove_15 rfl ⟨s1, _, 0, rfl, rfl, Or.inl ⟨rfl, r9, hq, jup2_at ε.1 142 0 _⟩⟩
abbrev hL_pass : List (Nat × Nat × Nat × Nat) := [(0, 15, 18, 13)]
theorem eL_pass : jSW mL_pass hL_pass 2 := ⟨jG_mem 1409 (by decide +kernel) rfl, jG_mem 107 (by decide +kernel) rfl, ⟨by decide +kernel, by decide +kernel, by decide +kernel⟩, by decide, jG_mem 1408 (by decide +kernel) rfl⟩
theorem jL_pass_0 : jCatch mL_pass hL_pass 3 "java/lang/IllegalStateException" (iI 1) := ⟨[], ⟨0, 15, 18, 13⟩, [], rfl, (fun z hz => nomatch hz), by decide, by decide, kL_13, zL_13, Or.inl ⟨2, 1, by decide, rfl, dL_pass_18, dL_pass_19, dL_pass_20⟩⟩
set_option maxHeartbeats 1000000 in
theorem c_L_pass {Γ : jE} (hl : Γ.1.stackTraces = false) {s : Nat → Int → Int} {ε : jEps} {d : Nat} {a : AS} (hd : 4 ≤ d) (p0 : CI s a) (p1 : AI a) : ConW Γ (d, 1, 6) mL_pass hL_pass [.ref 0, .ref 142] (jmem s ε) (LwQ (fun w s' => ¬ gOver (aF a) ∧ bI (gOver (gPlay (aF a) 6)) = w ∧ CI s' (aSet (aRec a) (gPlay (aF a) 6)) ∧ HiE s s') (fun s' => (¬ ¬ gOver (aF a)) ∧ s' = s) (fun _ => False)) := by
  refine ConW.ofJ (by decide +kernel) (by simp [Value.category]) (Nat.le_of_ble_eq_true rfl) rfl (by decide) ?_ hl
  refine JH.aload_n 1 dL_pass_0 rfl rfl ?_
  refine JH.iconst (iI 0) dL_pass_1 rfl ?_
  refine JH.aload_n 0 dL_pass_2 rfl rfl ?_
  refine JH.call0 (b' := (d - 1, 1, 6)) (mi' := mX8_pass) dL_pass_3 lL_118 eX8_pass (show jsh[0]? = some (8, 12) from rfl) rfl (c_X8_pass (d := d - 1) hl (by omega) p0 p1) (show d - 1 + 1 ≤ d ∧ 1 ≤ 1 ∧ 6 ≤ 6 from ⟨by omega, by decide, by decide⟩) rfl (fun E M' hX => by obtain ⟨rfl, hc, rfl⟩ := hX; exact ⟨iI 1, jL_pass_0, s, ε, 1, rfl, rfl, Or.inr (Or.inl ⟨rfl, hc, rfl⟩)⟩) (Nat.le_of_ble_eq_true rfl) ?_
  rintro v M' ⟨r9, s1, rfl, rfl, hq⟩
  have hb9 : r9 = 0 ∨ r9 = 1 := by rw [← hq.2.1]; exact bI_01 _
  rcases hb9 with rfl | rfl
  · refine I.if_eq0 13 dL_pass_6 (by decide) ?_
    refine J.lconst (iI 0).toInt64 dL_pass_13 (by decide) ?_
    refine I.last0 dL_pass_14 ?_
    refine J.goto 21 dL_pass_15 (by decide) ?_
    refine I.iconst dL_pass_21 ?_
    exact I.iret dL_pass_22 rfl ⟨s1, _, 0, rfl, rfl, Or.inl ⟨rfl, 0, hq, jup2_at ε.1 142 0 _⟩⟩
  · refine J.if_eq 13 dL_pass_6 (by decide) (fun h => absurd h (by decide)) (fun _ => ?_)
    refine J.lconst (iI 1).toInt64 dL_pass_9 (by decide) ?_
    refine J.goto 14 dL_pass_10 (by decide) ?_
    refine I.last0 dL_pass_14 ?_
    refine J.goto 21 dL_pass_15 (by decide) ?_
    refine I.iconst dL_pass_21 ?_
    exact I.iret dL_pass_22 rfl ⟨s1, _, 0, rfl, rfl, Or.inl ⟨rfl, 1, hq, jup2_at ε.1 142 0 _⟩⟩
abbrev hL_passes : List (Nat × Nat × Nat × Nat) := [(0, 9, 12, 29)]
theorem eL_passes : jSW mL_passes hL_passes 3 := ⟨jG_mem 1180 (by decide +kernel) rfl, jG_mem 107 (by decide +kernel) rfl, ⟨by decide +kernel, by decide +kernel, by decide +kernel⟩, by decide, jG_mem 1179 (by decide +kernel) rfl⟩
theorem jL_passes_0 : jCatch mL_passes hL_passes 4 "java/lang/IndexOutOfBoundsException" (iI 1) := ⟨[], ⟨0, 9, 12, 29⟩, [], rfl, (fun z hz => nomatch hz), by decide, by decide, kL_29, zL_29, Or.inl ⟨3, 1, by decide, rfl, dL_passes_12, dL_passes_13, dL_passes_14⟩⟩
set_option maxHeartbeats 1000000 in
theorem c_L_passes {Γ : jE} (hl : Γ.1.stackTraces = false) {s : Nat → Int → Int} {ε : jEps} {d : Nat} {p : Int} {f : Int → Int} (hd : 2 ≤ d) (p0 : RM s 21 f) (p1 : -2147483648 ≤ p ∧ p < 2147483648) : ConW Γ (d, 1, 6) mL_passes hL_passes [.ref 0, .int (iI p), .ref 142] (jmem s ε) (LwQ (fun w s' => (0 ≤ p ∧ p ≤ 1) ∧ f (16 + p) = w ∧ s = s') (fun s' => (¬ (0 ≤ p ∧ p ≤ 1)) ∧ s' = s) (fun _ => False)) := by
  refine ConW.ofJ (by decide +kernel) (by simp [Value.category]) (Nat.le_of_ble_eq_true rfl) rfl (by decide) ?_ hl
  refine JH.aload_n 2 dL_passes_0 rfl rfl ?_
  refine JH.iconst (iI 0) dL_passes_1 rfl ?_
  refine JH.aload_n 0 dL_passes_2 rfl rfl ?_
  refine JH.iload_n 1 dL_passes_3 rfl rfl ?_
  refine JH.call1 (b' := (d - 1, 1, 6)) (mi' := mX8_passes) dL_passes_4 lL_44 eX8_passes (show jsh[0]? = some (8, 12) from rfl) rfl (c_X8_passes (d := d - 1) hl (by omega) p0 p1) (show d - 1 + 1 ≤ d ∧ 1 ≤ 1 ∧ 6 ≤ 6 from ⟨by omega, by decide, by decide⟩) rfl (fun E M' hX => by obtain ⟨rfl, hc, rfl⟩ := hX; exact ⟨iI 1, jL_passes_0, s, ε, 1, rfl, rfl, Or.inr (Or.inl ⟨rfl, hc, rfl⟩)⟩) (Nat.le_of_ble_eq_true rfl) ?_
  rintro v M' ⟨r9, s1, rfl, rfl, hq⟩
  refine J.i2l dL_passes_7 ?_
  refine I.last0 dL_passes_8 ?_
  refine J.goto 15 dL_passes_9 (by decide) ?_
  refine I.iconst dL_passes_15 ?_
  exact I.iret dL_passes_16 rfl ⟨s1, _, 0, rfl, rfl, Or.inl ⟨rfl, r9, hq, jup2_at ε.1 142 0 _⟩⟩
abbrev hL_playOptimally : List (Nat × Nat × Nat × Nat) := [(0, 9, 12, 19)]
theorem eL_playOptimally : jSW mL_playOptimally hL_playOptimally 3 := ⟨jG_mem 1416 (by decide +kernel) rfl, jG_mem 107 (by decide +kernel) rfl, ⟨by decide +kernel, by decide +kernel, by decide +kernel⟩, by decide, jG_mem 1415 (by decide +kernel) rfl⟩
theorem jL_playOptimally_0 : jCatch mL_playOptimally hL_playOptimally 4 "java/lang/IllegalArgumentException" (iI 1) := ⟨[], ⟨0, 9, 12, 19⟩, [], rfl, (fun z hz => nomatch hz), by decide, by decide, kL_19, zL_19, Or.inl ⟨3, 1, by decide, rfl, dL_playOptimally_12, dL_playOptimally_13, dL_playOptimally_14⟩⟩
set_option maxHeartbeats 1000000 in
theorem c_L_playOptimally {Γ : jE} (hl : Γ.1.stackTraces = false) {s : Nat → Int → Int} {ε : jEps} {d : Nat} {n : Int} {a : AS} (hd : 7 ≤ d) (p0 : CI s a) (p1 : AI a) (p2 : -2147483648 ≤ n ∧ n < 2147483648) : ConW Γ (d, 1, 6) mL_playOptimally hL_playOptimally [.ref 0, .int (iI n), .ref 142] (jmem s ε) (LwQ (fun w s' => (1 ≤ n ∧ n ≤ 30) ∧ gCnt n.toNat (aF a) = w ∧ CI s' (aSet (aRec a) (gRun n.toNat (aF a))) ∧ HiE s s') (fun s' => (¬ (1 ≤ n ∧ n ≤ 30)) ∧ s' = s) (fun _ => False)) := by
  refine ConW.ofJ (by decide +kernel) (by simp [Value.category]) (Nat.le_of_ble_eq_true rfl) rfl (by decide) ?_ hl
  refine JH.aload_n 2 dL_playOptimally_0 rfl rfl ?_
  refine JH.iconst (iI 0) dL_playOptimally_1 rfl ?_
  refine JH.aload_n 0 dL_playOptimally_2 rfl rfl ?_
  refine JH.iload_n 1 dL_playOptimally_3 rfl rfl ?_
  refine JH.call1 (b' := (d - 1, 1, 6)) (mi' := mX8_playOptimally) dL_playOptimally_4 lL_122 eX8_playOptimally (show jsh[0]? = some (8, 12) from rfl) rfl (c_X8_playOptimally (d := d - 1) hl (by omega) p0 p1 p2) (show d - 1 + 1 ≤ d ∧ 1 ≤ 1 ∧ 6 ≤ 6 from ⟨by omega, by decide, by decide⟩) rfl (fun E M' hX => by obtain ⟨rfl, hc, rfl⟩ := hX; exact ⟨iI 1, jL_playOptimally_0, s, ε, 1, rfl, rfl, Or.inr (Or.inl ⟨rfl, hc, rfl⟩)⟩) (Nat.le_of_ble_eq_true rfl) ?_
  rintro v M' ⟨r9, s1, rfl, rfl, hq⟩
  refine J.i2l dL_playOptimally_7 ?_
  refine I.last0 dL_playOptimally_8 ?_
  refine J.goto 15 dL_playOptimally_9 (by decide) ?_
  refine I.iconst dL_playOptimally_15 ?_
  exact I.iret dL_playOptimally_16 rfl ⟨s1, _, 0, rfl, rfl, Or.inl ⟨rfl, r9, hq, jup2_at ε.1 142 0 _⟩⟩
abbrev hL_restore : List (Nat × Nat × Nat × Nat) := [(0, 8, 11, 13)]
theorem eL_restore : jSW mL_restore hL_restore 2 := ⟨jG_mem 1445 (by decide +kernel) rfl, jG_mem 107 (by decide +kernel) rfl, ⟨by decide +kernel, by decide +kernel, by decide +kernel⟩, by decide, jG_mem 1444 (by decide +kernel) rfl⟩
theorem jL_restore_0 : jCatch mL_restore hL_restore 3 "java/lang/IllegalStateException" (iI 1) := ⟨[], ⟨0, 8, 11, 13⟩, [], rfl, (fun z hz => nomatch hz), by decide, by decide, kL_13, zL_13, Or.inl ⟨2, 1, by decide, rfl, dL_restore_11, dL_restore_12, dL_restore_13⟩⟩
set_option maxHeartbeats 1000000 in
theorem c_L_restore {Γ : jE} (hl : Γ.1.stackTraces = false) {s : Nat → Int → Int} {ε : jEps} {d : Nat} {a : AS} (hd : 4 ≤ d) (p0 : CI s a) (p1 : AI a) : ConW Γ (d, 1, 6) mL_restore hL_restore [.ref 0, .ref 142] (jmem s ε) (LwQ (fun w s' => aB a = 1 ∧ aG a 5 = w ∧ CI s' (aSet (aRec a) (aG a)) ∧ HiE s s') (fun s' => (¬ aB a = 1) ∧ s' = s) (fun _ => False)) := by
  refine ConW.ofJ (by decide +kernel) (by simp [Value.category]) (Nat.le_of_ble_eq_true rfl) rfl (by decide) ?_ hl
  refine JH.aload_n 1 dL_restore_0 rfl rfl ?_
  refine JH.iconst (iI 0) dL_restore_1 rfl ?_
  refine JH.aload_n 0 dL_restore_2 rfl rfl ?_
  refine JH.call0 (b' := (d - 1, 1, 6)) (mi' := mX8_restore) dL_restore_3 lL_131 eX8_restore (show jsh[0]? = some (8, 12) from rfl) rfl (c_X8_restore (d := d - 1) hl (by omega) p0 p1) (show d - 1 + 1 ≤ d ∧ 1 ≤ 1 ∧ 6 ≤ 6 from ⟨by omega, by decide, by decide⟩) rfl (fun E M' hX => by obtain ⟨rfl, hc, rfl⟩ := hX; exact ⟨iI 1, jL_restore_0, s, ε, 1, rfl, rfl, Or.inr (Or.inl ⟨rfl, hc, rfl⟩)⟩) (Nat.le_of_ble_eq_true rfl) ?_
  rintro v M' ⟨r9, s1, rfl, rfl, hq⟩
  refine J.i2l dL_restore_6 ?_
  refine I.last0 dL_restore_7 ?_
  refine J.goto 14 dL_restore_8 (by decide) ?_
  refine I.iconst dL_restore_14 ?_
  exact I.iret dL_restore_15 rfl ⟨s1, _, 0, rfl, rfl, Or.inl ⟨rfl, r9, hq, jup2_at ε.1 142 0 _⟩⟩
abbrev hL_rightPips : List (Nat × Nat × Nat × Nat) := [(0, 10, 13, 29)]
theorem eL_rightPips : jSW mL_rightPips hL_rightPips 4 := ⟨jG_mem 1218 (by decide +kernel) rfl, jG_mem 107 (by decide +kernel) rfl, ⟨by decide +kernel, by decide +kernel, by decide +kernel⟩, by decide, jG_mem 1217 (by decide +kernel) rfl⟩
theorem jL_rightPips_0 : jCatch mL_rightPips hL_rightPips 5 "java/lang/IndexOutOfBoundsException" (iI 1) := ⟨[], ⟨0, 10, 13, 29⟩, [], rfl, (fun z hz => nomatch hz), by decide, by decide, kL_29, zL_29, Or.inr ⟨4, 1, by decide, rfl, dL_rightPips_13, dL_rightPips_15, dL_rightPips_16⟩⟩
set_option maxHeartbeats 1000000 in
theorem c_L_rightPips {Γ : jE} (hl : Γ.1.stackTraces = false) {s : Nat → Int → Int} {ε : jEps} {d : Nat} {c : Int} {t : Int} {f : Int → Int} (hd : 5 ≤ d) (p0 : RM s 21 f) (p1 : -2147483648 ≤ c ∧ c < 2147483648) (p2 : -2147483648 ≤ t ∧ t < 2147483648) : ConW Γ (d, 2, 12) mL_rightPips hL_rightPips [.ref 0, .int (iI c), .int (iI t), .ref 142] (jmem s ε) (LwQ (fun w s' => ((0 ≤ c ∧ c < f (18 + f 1)) ∧ 0 ≤ t ∧ t < f (37 + c) - f (34 + c) + 1) ∧ gT f c t % 10 = w ∧ s = s') (fun s' => (¬ ((0 ≤ c ∧ c < f (18 + f 1)) ∧ 0 ≤ t ∧ t < f (37 + c) - f (34 + c) + 1)) ∧ s' = s) (fun _ => False)) := by
  refine ConW.ofJ (by decide +kernel) (by simp [Value.category]) (Nat.le_of_ble_eq_true rfl) rfl (by decide) ?_ hl
  refine JH.aload_n 3 dL_rightPips_0 rfl rfl ?_
  refine JH.iconst (iI 0) dL_rightPips_1 rfl ?_
  refine JH.aload_n 0 dL_rightPips_2 rfl rfl ?_
  refine JH.iload_n 1 dL_rightPips_3 rfl rfl ?_
  refine JH.iload_n 2 dL_rightPips_4 rfl rfl ?_
  refine JH.call2 (b' := (d - 1, 2, 12)) (mi' := mX8_rightPips) dL_rightPips_5 lL_57 eX8_rightPips (show jsh[0]? = some (8, 12) from rfl) rfl (c_X8_rightPips (d := d - 1) hl (by omega) p0 p1 p2) (show d - 1 + 1 ≤ d ∧ 2 ≤ 2 ∧ 12 ≤ 12 from ⟨by omega, by decide, by decide⟩) rfl (fun E M' hX => by obtain ⟨rfl, hc, rfl⟩ := hX; exact ⟨iI 1, jL_rightPips_0, s, ε, 1, rfl, rfl, Or.inr (Or.inl ⟨rfl, hc, rfl⟩)⟩) (Nat.le_of_ble_eq_true rfl) ?_
  rintro v M' ⟨r9, s1, rfl, rfl, hq⟩
  refine J.i2l dL_rightPips_8 ?_
  refine I.last0 dL_rightPips_9 ?_
  refine J.goto 17 dL_rightPips_10 (by decide) ?_
  refine I.iconst dL_rightPips_17 ?_
  exact I.iret dL_rightPips_18 rfl ⟨s1, _, 0, rfl, rfl, Or.inl ⟨rfl, r9, hq, jup2_at ε.1 142 0 _⟩⟩
abbrev hL_roundScore : List (Nat × Nat × Nat × Nat) := [(0, 10, 13, 29)]
theorem eL_roundScore : jSW mL_roundScore hL_roundScore 4 := ⟨jG_mem 1157 (by decide +kernel) rfl, jG_mem 107 (by decide +kernel) rfl, ⟨by decide +kernel, by decide +kernel, by decide +kernel⟩, by decide, jG_mem 1156 (by decide +kernel) rfl⟩
theorem jL_roundScore_0 : jCatch mL_roundScore hL_roundScore 5 "java/lang/IndexOutOfBoundsException" (iI 1) := ⟨[], ⟨0, 10, 13, 29⟩, [], rfl, (fun z hz => nomatch hz), by decide, by decide, kL_29, zL_29, Or.inr ⟨4, 1, by decide, rfl, dL_roundScore_13, dL_roundScore_15, dL_roundScore_16⟩⟩
set_option maxHeartbeats 1000000 in
theorem c_L_roundScore {Γ : jE} (hl : Γ.1.stackTraces = false) {s : Nat → Int → Int} {ε : jEps} {d : Nat} {r : Int} {p : Int} {f : Int → Int} (hd : 3 ≤ d) (p0 : RM s 21 f) (p1 : -2147483648 ≤ r ∧ r < 2147483648) (p2 : -2147483648 ≤ p ∧ p < 2147483648) : ConW Γ (d, 2, 12) mL_roundScore hL_roundScore [.ref 0, .int (iI r), .int (iI p), .ref 142] (jmem s ε) (LwQ (fun w s' => ((0 ≤ r ∧ r < f 0) ∧ 0 ≤ p ∧ p ≤ 1) ∧ f (6 + 2 * r + p) = w ∧ s = s') (fun s' => (¬ ((0 ≤ r ∧ r < f 0) ∧ 0 ≤ p ∧ p ≤ 1)) ∧ s' = s) (fun _ => False)) := by
  refine ConW.ofJ (by decide +kernel) (by simp [Value.category]) (Nat.le_of_ble_eq_true rfl) rfl (by decide) ?_ hl
  refine JH.aload_n 3 dL_roundScore_0 rfl rfl ?_
  refine JH.iconst (iI 0) dL_roundScore_1 rfl ?_
  refine JH.aload_n 0 dL_roundScore_2 rfl rfl ?_
  refine JH.iload_n 1 dL_roundScore_3 rfl rfl ?_
  refine JH.iload_n 2 dL_roundScore_4 rfl rfl ?_
  refine JH.call2 (b' := (d - 1, 2, 12)) (mi' := mX8_roundScore) dL_roundScore_5 lL_34 eX8_roundScore (show jsh[0]? = some (8, 12) from rfl) rfl (c_X8_roundScore (d := d - 1) hl (by omega) p0 p1 p2) (show d - 1 + 1 ≤ d ∧ 2 ≤ 2 ∧ 12 ≤ 12 from ⟨by omega, by decide, by decide⟩) rfl (fun E M' hX => by obtain ⟨rfl, hc, rfl⟩ := hX; exact ⟨iI 1, jL_roundScore_0, s, ε, 1, rfl, rfl, Or.inr (Or.inl ⟨rfl, hc, rfl⟩)⟩) (Nat.le_of_ble_eq_true rfl) ?_
  rintro v M' ⟨r9, s1, rfl, rfl, hq⟩
  refine J.i2l dL_roundScore_8 ?_
  refine I.last0 dL_roundScore_9 ?_
  refine J.goto 17 dL_roundScore_10 (by decide) ?_
  refine I.iconst dL_roundScore_17 ?_
  exact I.iret dL_roundScore_18 rfl ⟨s1, _, 0, rfl, rfl, Or.inl ⟨rfl, r9, hq, jup2_at ε.1 142 0 _⟩⟩
abbrev hL_roundWinner : List (Nat × Nat × Nat × Nat) := [(0, 9, 12, 29)]
theorem eL_roundWinner : jSW mL_roundWinner hL_roundWinner 3 := ⟨jG_mem 1116 (by decide +kernel) rfl, jG_mem 107 (by decide +kernel) rfl, ⟨by decide +kernel, by decide +kernel, by decide +kernel⟩, by decide, jG_mem 1115 (by decide +kernel) rfl⟩
theorem jL_roundWinner_0 : jCatch mL_roundWinner hL_roundWinner 4 "java/lang/IndexOutOfBoundsException" (iI 1) := ⟨[], ⟨0, 9, 12, 29⟩, [], rfl, (fun z hz => nomatch hz), by decide, by decide, kL_29, zL_29, Or.inl ⟨3, 1, by decide, rfl, dL_roundWinner_12, dL_roundWinner_13, dL_roundWinner_14⟩⟩
set_option maxHeartbeats 1000000 in
theorem c_L_roundWinner {Γ : jE} (hl : Γ.1.stackTraces = false) {s : Nat → Int → Int} {ε : jEps} {d : Nat} {r : Int} {f : Int → Int} (hd : 4 ≤ d) (p0 : RM s 21 f) (p1 : -2147483648 ≤ r ∧ r < 2147483648) : ConW Γ (d, 1, 6) mL_roundWinner hL_roundWinner [.ref 0, .int (iI r), .ref 142] (jmem s ε) (LwQ (fun w s' => (0 ≤ r ∧ r < f 0) ∧ gWin f r = w ∧ s = s') (fun s' => (¬ (0 ≤ r ∧ r < f 0)) ∧ s' = s) (fun _ => False)) := by
  refine ConW.ofJ (by decide +kernel) (by simp [Value.category]) (Nat.le_of_ble_eq_true rfl) rfl (by decide) ?_ hl
  refine JH.aload_n 2 dL_roundWinner_0 rfl rfl ?_
  refine JH.iconst (iI 0) dL_roundWinner_1 rfl ?_
  refine JH.aload_n 0 dL_roundWinner_2 rfl rfl ?_
  refine JH.iload_n 1 dL_roundWinner_3 rfl rfl ?_
  refine JH.call1 (b' := (d - 1, 1, 6)) (mi' := mX8_roundWinner) dL_roundWinner_4 lL_25 eX8_roundWinner (show jsh[0]? = some (8, 12) from rfl) rfl (c_X8_roundWinner (d := d - 1) hl (by omega) p0 p1) (show d - 1 + 1 ≤ d ∧ 1 ≤ 1 ∧ 6 ≤ 6 from ⟨by omega, by decide, by decide⟩) rfl (fun E M' hX => by obtain ⟨rfl, hc, rfl⟩ := hX; exact ⟨iI 1, jL_roundWinner_0, s, ε, 1, rfl, rfl, Or.inr (Or.inl ⟨rfl, hc, rfl⟩)⟩) (Nat.le_of_ble_eq_true rfl) ?_
  rintro v M' ⟨r9, s1, rfl, rfl, hq⟩
  refine J.i2l dL_roundWinner_7 ?_
  refine I.last0 dL_roundWinner_8 ?_
  refine J.goto 15 dL_roundWinner_9 (by decide) ?_
  refine I.iconst dL_roundWinner_15 ?_
  exact I.iret dL_roundWinner_16 rfl ⟨s1, _, 0, rfl, rfl, Or.inl ⟨rfl, r9, hq, jup2_at ε.1 142 0 _⟩⟩
abbrev hL_roundsWon : List (Nat × Nat × Nat × Nat) := [(0, 9, 12, 29)]
theorem eL_roundsWon : jSW mL_roundsWon hL_roundsWon 3 := ⟨jG_mem 1145 (by decide +kernel) rfl, jG_mem 107 (by decide +kernel) rfl, ⟨by decide +kernel, by decide +kernel, by decide +kernel⟩, by decide, jG_mem 1144 (by decide +kernel) rfl⟩
theorem jL_roundsWon_0 : jCatch mL_roundsWon hL_roundsWon 4 "java/lang/IndexOutOfBoundsException" (iI 1) := ⟨[], ⟨0, 9, 12, 29⟩, [], rfl, (fun z hz => nomatch hz), by decide, by decide, kL_29, zL_29, Or.inl ⟨3, 1, by decide, rfl, dL_roundsWon_12, dL_roundsWon_13, dL_roundsWon_14⟩⟩
set_option maxHeartbeats 1000000 in
theorem c_L_roundsWon {Γ : jE} (hl : Γ.1.stackTraces = false) {s : Nat → Int → Int} {ε : jEps} {d : Nat} {p : Int} {f : Int → Int} (hd : 5 ≤ d) (p0 : RM s 21 f) (p1 : -2147483648 ≤ p ∧ p < 2147483648) : ConW Γ (d, 1, 6) mL_roundsWon hL_roundsWon [.ref 0, .int (iI p), .ref 142] (jmem s ε) (LwQ (fun w s' => (0 ≤ p ∧ p ≤ 1) ∧ gWins f p = w ∧ s = s') (fun s' => (¬ (0 ≤ p ∧ p ≤ 1)) ∧ s' = s) (fun _ => False)) := by
  refine ConW.ofJ (by decide +kernel) (by simp [Value.category]) (Nat.le_of_ble_eq_true rfl) rfl (by decide) ?_ hl
  refine JH.aload_n 2 dL_roundsWon_0 rfl rfl ?_
  refine JH.iconst (iI 0) dL_roundsWon_1 rfl ?_
  refine JH.aload_n 0 dL_roundsWon_2 rfl rfl ?_
  refine JH.iload_n 1 dL_roundsWon_3 rfl rfl ?_
  refine JH.call1 (b' := (d - 1, 1, 6)) (mi' := mX8_roundsWon) dL_roundsWon_4 lL_31 eX8_roundsWon (show jsh[0]? = some (8, 12) from rfl) rfl (c_X8_roundsWon (d := d - 1) hl (by omega) p0 p1) (show d - 1 + 1 ≤ d ∧ 1 ≤ 1 ∧ 6 ≤ 6 from ⟨by omega, by decide, by decide⟩) rfl (fun E M' hX => by obtain ⟨rfl, hc, rfl⟩ := hX; exact ⟨iI 1, jL_roundsWon_0, s, ε, 1, rfl, rfl, Or.inr (Or.inl ⟨rfl, hc, rfl⟩)⟩) (Nat.le_of_ble_eq_true rfl) ?_
  rintro v M' ⟨r9, s1, rfl, rfl, hq⟩
  refine J.i2l dL_roundsWon_7 ?_
  refine I.last0 dL_roundsWon_8 ?_
  refine J.goto 15 dL_roundsWon_9 (by decide) ?_
  refine I.iconst dL_roundsWon_15 ?_
  exact I.iret dL_roundsWon_16 rfl ⟨s1, _, 0, rfl, rfl, Or.inl ⟨rfl, r9, hq, jup2_at ε.1 142 0 _⟩⟩
abbrev hL_startNextRound : List (Nat × Nat × Nat × Nat) := [(0, 8, 11, 13)]
theorem eL_startNextRound : jSW mL_startNextRound hL_startNextRound 2 := ⟨jG_mem 1424 (by decide +kernel) rfl, jG_mem 107 (by decide +kernel) rfl, ⟨by decide +kernel, by decide +kernel, by decide +kernel⟩, by decide, jG_mem 1423 (by decide +kernel) rfl⟩
theorem jL_startNextRound_0 : jCatch mL_startNextRound hL_startNextRound 3 "java/lang/IllegalStateException" (iI 1) := ⟨[], ⟨0, 8, 11, 13⟩, [], rfl, (fun z hz => nomatch hz), by decide, by decide, kL_13, zL_13, Or.inl ⟨2, 1, by decide, rfl, dL_startNextRound_11, dL_startNextRound_12, dL_startNextRound_13⟩⟩
set_option maxHeartbeats 1000000 in
theorem c_L_startNextRound {Γ : jE} (hl : Γ.1.stackTraces = false) {s : Nat → Int → Int} {ε : jEps} {d : Nat} {a : AS} (hd : 5 ≤ d) (p0 : CI s a) (p1 : AI a) : ConW Γ (d, 1, 6) mL_startNextRound hL_startNextRound [.ref 0, .ref 142] (jmem s ε) (LwQ (fun w s' => (gOver (aF a) ∧ ¬ (aF a) 1 = (aF a) 0 - 1) ∧ (aF a) 1 + 1 = w ∧ CI s' (aSet (aRec a) (gNext (aF a))) ∧ HiE s s') (fun s' => (¬ (gOver (aF a) ∧ ¬ (aF a) 1 = (aF a) 0 - 1)) ∧ s' = s) (fun _ => False)) := by
  refine ConW.ofJ (by decide +kernel) (by simp [Value.category]) (Nat.le_of_ble_eq_true rfl) rfl (by decide) ?_ hl
  refine JH.aload_n 1 dL_startNextRound_0 rfl rfl ?_
  refine JH.iconst (iI 0) dL_startNextRound_1 rfl ?_
  refine JH.aload_n 0 dL_startNextRound_2 rfl rfl ?_
  refine JH.call0 (b' := (d - 1, 1, 6)) (mi' := mX8_startNextRound) dL_startNextRound_3 lL_125 eX8_startNextRound (show jsh[0]? = some (8, 12) from rfl) rfl (c_X8_startNextRound (d := d - 1) hl (by omega) p0 p1) (show d - 1 + 1 ≤ d ∧ 1 ≤ 1 ∧ 6 ≤ 6 from ⟨by omega, by decide, by decide⟩) rfl (fun E M' hX => by obtain ⟨rfl, hc, rfl⟩ := hX; exact ⟨iI 1, jL_startNextRound_0, s, ε, 1, rfl, rfl, Or.inr (Or.inl ⟨rfl, hc, rfl⟩)⟩) (Nat.le_of_ble_eq_true rfl) ?_
  rintro v M' ⟨r9, s1, rfl, rfl, hq⟩
  refine J.i2l dL_startNextRound_6 ?_
  refine I.last0 dL_startNextRound_7 ?_
  refine J.goto 14 dL_startNextRound_8 (by decide) ?_
  refine I.iconst dL_startNextRound_14 ?_
  exact I.iret dL_startNextRound_15 rfl ⟨s1, _, 0, rfl, rfl, Or.inl ⟨rfl, r9, hq, jup2_at ε.1 142 0 _⟩⟩
abbrev hL_tileScore : List (Nat × Nat × Nat × Nat) := [(0, 10, 13, 29)]
theorem eL_tileScore : jSW mL_tileScore hL_tileScore 4 := ⟨jG_mem 1225 (by decide +kernel) rfl, jG_mem 107 (by decide +kernel) rfl, ⟨by decide +kernel, by decide +kernel, by decide +kernel⟩, by decide, jG_mem 1224 (by decide +kernel) rfl⟩
theorem jL_tileScore_0 : jCatch mL_tileScore hL_tileScore 5 "java/lang/IndexOutOfBoundsException" (iI 1) := ⟨[], ⟨0, 10, 13, 29⟩, [], rfl, (fun z hz => nomatch hz), by decide, by decide, kL_29, zL_29, Or.inr ⟨4, 1, by decide, rfl, dL_tileScore_13, dL_tileScore_15, dL_tileScore_16⟩⟩
set_option maxHeartbeats 1000000 in
theorem c_L_tileScore {Γ : jE} (hl : Γ.1.stackTraces = false) {s : Nat → Int → Int} {ε : jEps} {d : Nat} {c : Int} {t : Int} {f : Int → Int} (hd : 5 ≤ d) (p0 : RM s 21 f) (p1 : -2147483648 ≤ c ∧ c < 2147483648) (p2 : -2147483648 ≤ t ∧ t < 2147483648) : ConW Γ (d, 2, 12) mL_tileScore hL_tileScore [.ref 0, .int (iI c), .int (iI t), .ref 142] (jmem s ε) (LwQ (fun w s' => ((0 ≤ c ∧ c < f (18 + f 1)) ∧ 0 ≤ t ∧ t < f (37 + c) - f (34 + c) + 1) ∧ gSc (gT f c t) = w ∧ s = s') (fun s' => (¬ ((0 ≤ c ∧ c < f (18 + f 1)) ∧ 0 ≤ t ∧ t < f (37 + c) - f (34 + c) + 1)) ∧ s' = s) (fun _ => False)) := by
  refine ConW.ofJ (by decide +kernel) (by simp [Value.category]) (Nat.le_of_ble_eq_true rfl) rfl (by decide) ?_ hl
  refine JH.aload_n 3 dL_tileScore_0 rfl rfl ?_
  refine JH.iconst (iI 0) dL_tileScore_1 rfl ?_
  refine JH.aload_n 0 dL_tileScore_2 rfl rfl ?_
  refine JH.iload_n 1 dL_tileScore_3 rfl rfl ?_
  refine JH.iload_n 2 dL_tileScore_4 rfl rfl ?_
  refine JH.call2 (b' := (d - 1, 2, 12)) (mi' := mX8_tileScore) dL_tileScore_5 lL_60 eX8_tileScore (show jsh[0]? = some (8, 12) from rfl) rfl (c_X8_tileScore (d := d - 1) hl (by omega) p0 p1 p2) (show d - 1 + 1 ≤ d ∧ 2 ≤ 2 ∧ 12 ≤ 12 from ⟨by omega, by decide, by decide⟩) rfl (fun E M' hX => by obtain ⟨rfl, hc, rfl⟩ := hX; exact ⟨iI 1, jL_tileScore_0, s, ε, 1, rfl, rfl, Or.inr (Or.inl ⟨rfl, hc, rfl⟩)⟩) (Nat.le_of_ble_eq_true rfl) ?_
  rintro v M' ⟨r9, s1, rfl, rfl, hq⟩
  refine J.i2l dL_tileScore_8 ?_
  refine I.last0 dL_tileScore_9 ?_
  refine J.goto 17 dL_tileScore_10 (by decide) ?_
  refine I.iconst dL_tileScore_17 ?_
  exact I.iret dL_tileScore_18 rfl ⟨s1, _, 0, rfl, rfl, Or.inl ⟨rfl, r9, hq, jup2_at ε.1 142 0 _⟩⟩
abbrev hL_tilesBurnt : List (Nat × Nat × Nat × Nat) := [(0, 9, 12, 29)]
theorem eL_tilesBurnt : jSW mL_tilesBurnt hL_tilesBurnt 3 := ⟨jG_mem 1172 (by decide +kernel) rfl, jG_mem 107 (by decide +kernel) rfl, ⟨by decide +kernel, by decide +kernel, by decide +kernel⟩, by decide, jG_mem 1171 (by decide +kernel) rfl⟩
theorem jL_tilesBurnt_0 : jCatch mL_tilesBurnt hL_tilesBurnt 4 "java/lang/IndexOutOfBoundsException" (iI 1) := ⟨[], ⟨0, 9, 12, 29⟩, [], rfl, (fun z hz => nomatch hz), by decide, by decide, kL_29, zL_29, Or.inl ⟨3, 1, by decide, rfl, dL_tilesBurnt_12, dL_tilesBurnt_13, dL_tilesBurnt_14⟩⟩
set_option maxHeartbeats 1000000 in
theorem c_L_tilesBurnt {Γ : jE} (hl : Γ.1.stackTraces = false) {s : Nat → Int → Int} {ε : jEps} {d : Nat} {p : Int} {f : Int → Int} (hd : 2 ≤ d) (p0 : RM s 21 f) (p1 : -2147483648 ≤ p ∧ p < 2147483648) : ConW Γ (d, 1, 6) mL_tilesBurnt hL_tilesBurnt [.ref 0, .int (iI p), .ref 142] (jmem s ε) (LwQ (fun w s' => (0 ≤ p ∧ p ≤ 1) ∧ f (14 + p) = w ∧ s = s') (fun s' => (¬ (0 ≤ p ∧ p ≤ 1)) ∧ s' = s) (fun _ => False)) := by
  refine ConW.ofJ (by decide +kernel) (by simp [Value.category]) (Nat.le_of_ble_eq_true rfl) rfl (by decide) ?_ hl
  refine JH.aload_n 2 dL_tilesBurnt_0 rfl rfl ?_
  refine JH.iconst (iI 0) dL_tilesBurnt_1 rfl ?_
  refine JH.aload_n 0 dL_tilesBurnt_2 rfl rfl ?_
  refine JH.iload_n 1 dL_tilesBurnt_3 rfl rfl ?_
  refine JH.call1 (b' := (d - 1, 1, 6)) (mi' := mX8_tilesBurnt) dL_tilesBurnt_4 lL_41 eX8_tilesBurnt (show jsh[0]? = some (8, 12) from rfl) rfl (c_X8_tilesBurnt (d := d - 1) hl (by omega) p0 p1) (show d - 1 + 1 ≤ d ∧ 1 ≤ 1 ∧ 6 ≤ 6 from ⟨by omega, by decide, by decide⟩) rfl (fun E M' hX => by obtain ⟨rfl, hc, rfl⟩ := hX; exact ⟨iI 1, jL_tilesBurnt_0, s, ε, 1, rfl, rfl, Or.inr (Or.inl ⟨rfl, hc, rfl⟩)⟩) (Nat.le_of_ble_eq_true rfl) ?_
  rintro v M' ⟨r9, s1, rfl, rfl, hq⟩
  refine J.i2l dL_tilesBurnt_7 ?_
  refine I.last0 dL_tilesBurnt_8 ?_
  refine J.goto 15 dL_tilesBurnt_9 (by decide) ?_
  refine I.iconst dL_tilesBurnt_15 ?_
  exact I.iret dL_tilesBurnt_16 rfl ⟨s1, _, 0, rfl, rfl, Or.inl ⟨rfl, r9, hq, jup2_at ε.1 142 0 _⟩⟩
abbrev hL_tilesWith : List (Nat × Nat × Nat × Nat) := [(0, 9, 12, 19)]
theorem eL_tilesWith : jSW mL_tilesWith hL_tilesWith 3 := ⟨jG_mem 1240 (by decide +kernel) rfl, jG_mem 107 (by decide +kernel) rfl, ⟨by decide +kernel, by decide +kernel, by decide +kernel⟩, by decide, jG_mem 1239 (by decide +kernel) rfl⟩
theorem jL_tilesWith_0 : jCatch mL_tilesWith hL_tilesWith 4 "java/lang/IllegalArgumentException" (iI 1) := ⟨[], ⟨0, 9, 12, 19⟩, [], rfl, (fun z hz => nomatch hz), by decide, by decide, kL_19, zL_19, Or.inl ⟨3, 1, by decide, rfl, dL_tilesWith_12, dL_tilesWith_13, dL_tilesWith_14⟩⟩
set_option maxHeartbeats 1000000 in
theorem c_L_tilesWith {Γ : jE} (hl : Γ.1.stackTraces = false) {s : Nat → Int → Int} {ε : jEps} {d : Nat} {p : Int} {f : Int → Int} (hd : 4 ≤ d) (p0 : RM s 21 f) (p1 : -2147483648 ≤ p ∧ p < 2147483648) : ConW Γ (d, 1, 6) mL_tilesWith hL_tilesWith [.ref 0, .int (iI p), .ref 142] (jmem s ε) (LwQ (fun w s' => (0 ≤ p ∧ p ≤ 6) ∧ gWith f p = w ∧ s = s') (fun s' => (¬ (0 ≤ p ∧ p ≤ 6)) ∧ s' = s) (fun _ => False)) := by
  refine ConW.ofJ (by decide +kernel) (by simp [Value.category]) (Nat.le_of_ble_eq_true rfl) rfl (by decide) ?_ hl
  refine JH.aload_n 2 dL_tilesWith_0 rfl rfl ?_
  refine JH.iconst (iI 0) dL_tilesWith_1 rfl ?_
  refine JH.aload_n 0 dL_tilesWith_2 rfl rfl ?_
  refine JH.iload_n 1 dL_tilesWith_3 rfl rfl ?_
  refine JH.call1 (b' := (d - 1, 1, 6)) (mi' := mX8_tilesWith) dL_tilesWith_4 lL_66 eX8_tilesWith (show jsh[0]? = some (8, 12) from rfl) rfl (c_X8_tilesWith (d := d - 1) hl (by omega) p0 p1) (show d - 1 + 1 ≤ d ∧ 1 ≤ 1 ∧ 6 ≤ 6 from ⟨by omega, by decide, by decide⟩) rfl (fun E M' hX => by obtain ⟨rfl, hc, rfl⟩ := hX; exact ⟨iI 1, jL_tilesWith_0, s, ε, 1, rfl, rfl, Or.inr (Or.inl ⟨rfl, hc, rfl⟩)⟩) (Nat.le_of_ble_eq_true rfl) ?_
  rintro v M' ⟨r9, s1, rfl, rfl, hq⟩
  refine J.i2l dL_tilesWith_7 ?_
  refine I.last0 dL_tilesWith_8 ?_
  refine J.goto 15 dL_tilesWith_9 (by decide) ?_
  refine I.iconst dL_tilesWith_15 ?_
  exact I.iret dL_tilesWith_16 rfl ⟨s1, _, 0, rfl, rfl, Or.inl ⟨rfl, r9, hq, jup2_at ε.1 142 0 _⟩⟩
abbrev hL_totalScore : List (Nat × Nat × Nat × Nat) := [(0, 9, 12, 29)]
theorem eL_totalScore : jSW mL_totalScore hL_totalScore 3 := ⟨jG_mem 1165 (by decide +kernel) rfl, jG_mem 107 (by decide +kernel) rfl, ⟨by decide +kernel, by decide +kernel, by decide +kernel⟩, by decide, jG_mem 1164 (by decide +kernel) rfl⟩
theorem jL_totalScore_0 : jCatch mL_totalScore hL_totalScore 4 "java/lang/IndexOutOfBoundsException" (iI 1) := ⟨[], ⟨0, 9, 12, 29⟩, [], rfl, (fun z hz => nomatch hz), by decide, by decide, kL_29, zL_29, Or.inl ⟨3, 1, by decide, rfl, dL_totalScore_12, dL_totalScore_13, dL_totalScore_14⟩⟩
set_option maxHeartbeats 1000000 in
theorem c_L_totalScore {Γ : jE} (hl : Γ.1.stackTraces = false) {s : Nat → Int → Int} {ε : jEps} {d : Nat} {p : Int} {f : Int → Int} (hd : 4 ≤ d) (p0 : RM s 21 f) (p1 : -2147483648 ≤ p ∧ p < 2147483648) : ConW Γ (d, 1, 6) mL_totalScore hL_totalScore [.ref 0, .int (iI p), .ref 142] (jmem s ε) (LwQ (fun w s' => (0 ≤ p ∧ p ≤ 1) ∧ gTot f p = w ∧ s = s') (fun s' => (¬ (0 ≤ p ∧ p ≤ 1)) ∧ s' = s) (fun _ => False)) := by
  refine ConW.ofJ (by decide +kernel) (by simp [Value.category]) (Nat.le_of_ble_eq_true rfl) rfl (by decide) ?_ hl
  refine JH.aload_n 2 dL_totalScore_0 rfl rfl ?_
  refine JH.iconst (iI 0) dL_totalScore_1 rfl ?_
  refine JH.aload_n 0 dL_totalScore_2 rfl rfl ?_
  refine JH.iload_n 1 dL_totalScore_3 rfl rfl ?_
  refine JH.call1 (b' := (d - 1, 1, 6)) (mi' := mX8_totalScore) dL_totalScore_4 lL_38 eX8_totalScore (show jsh[0]? = some (8, 12) from rfl) rfl (c_X8_totalScore (d := d - 1) hl (by omega) p0 p1) (show d - 1 + 1 ≤ d ∧ 1 ≤ 1 ∧ 6 ≤ 6 from ⟨by omega, by decide, by decide⟩) rfl (fun E M' hX => by obtain ⟨rfl, hc, rfl⟩ := hX; exact ⟨iI 1, jL_totalScore_0, s, ε, 1, rfl, rfl, Or.inr (Or.inl ⟨rfl, hc, rfl⟩)⟩) (Nat.le_of_ble_eq_true rfl) ?_
  rintro v M' ⟨r9, s1, rfl, rfl, hq⟩
  refine J.i2l dL_totalScore_7 ?_
  refine I.last0 dL_totalScore_8 ?_
  refine J.goto 15 dL_totalScore_9 (by decide) ?_
  refine I.iconst dL_totalScore_15 ?_
  exact I.iret dL_totalScore_16 rfl ⟨s1, _, 0, rfl, rfl, Or.inl ⟨rfl, r9, hq, jup2_at ε.1 142 0 _⟩⟩
abbrev hL_truncate : List (Nat × Nat × Nat × Nat) := [(0, 5, 8, 19)]
theorem eL_truncate : jSW mL_truncate hL_truncate 2 := ⟨jG_mem 926 (by decide +kernel) rfl, jG_mem 107 (by decide +kernel) rfl, ⟨by decide +kernel, by decide +kernel, by decide +kernel⟩, by decide, jG_mem 925 (by decide +kernel) rfl⟩
theorem jL_truncate_0 : jCatch mL_truncate hL_truncate 2 "java/lang/IllegalArgumentException" (iI 1) := ⟨[], ⟨0, 5, 8, 19⟩, [], rfl, (fun z hz => nomatch hz), by decide, by decide, kL_19, zL_19, Or.inl ⟨2, 1, by decide, rfl, dL_truncate_8, dL_truncate_9, dL_truncate_10⟩⟩
set_option maxHeartbeats 1000000 in
theorem c_L_truncate {Γ : jE} (hl : Γ.1.stackTraces = false) {s : Nat → Int → Int} {ε : jEps} {d : Nat} {n : Int} {a : AS} (hd : 1 ≤ d) (p0 : CI s a) (p1 : AI a) (p2 : -2147483648 ≤ n ∧ n < 2147483648) : ConW Γ (d, 1, 6) mL_truncate hL_truncate [.ref 0, .int (iI n)] (jmem s ε) (LwV (fun s' => (0 ≤ n ∧ n ≤ aL a) ∧ CI s' (aIn a (aT a) n) ∧ HiE s s') (fun s' => (¬ (0 ≤ n ∧ n ≤ aL a)) ∧ s' = s)) := by
  refine ConW.ofJ (by decide +kernel) (by simp [Value.category]) (Nat.le_of_ble_eq_true rfl) rfl (by decide) ?_ hl
  refine JH.aload_n 0 dL_truncate_0 rfl rfl ?_
  refine JH.iload_n 1 dL_truncate_1 rfl rfl ?_
  refine JH.call1 (b' := (d - 1, 1, 6)) (mi' := mX8_truncate) dL_truncate_2 lL_15 eX8_truncate (show jsh[0]? = some (8, 12) from rfl) rfl (c_X8_truncate (d := d - 1) hl (by omega) p0 p1 p2) (show d - 1 + 1 ≤ d ∧ 1 ≤ 1 ∧ 6 ≤ 6 from ⟨by omega, by decide, by decide⟩) rfl (fun E M' hX => by obtain ⟨rfl, hc, rfl⟩ := hX; exact ⟨iI 1, jL_truncate_0, s, ε, 1, rfl, rfl, Or.inr ⟨rfl, hc, rfl⟩⟩) (Nat.le_of_ble_eq_true rfl) ?_
  rintro v M' ⟨s1, rfl, rfl, hq⟩
  refine J.goto 11 dL_truncate_5 (by decide) ?_
  refine I.iconst dL_truncate_11 ?_
  exact I.iret dL_truncate_12 rfl ⟨s1, _, 0, rfl, rfl, Or.inl ⟨rfl, hq⟩⟩
abbrev hL_undo : List (Nat × Nat × Nat × Nat) := [(0, 8, 11, 13)]
theorem eL_undo : jSW mL_undo hL_undo 2 := ⟨jG_mem 1433 (by decide +kernel) rfl, jG_mem 107 (by decide +kernel) rfl, ⟨by decide +kernel, by decide +kernel, by decide +kernel⟩, by decide, jG_mem 1432 (by decide +kernel) rfl⟩
theorem jL_undo_0 : jCatch mL_undo hL_undo 3 "java/lang/IllegalStateException" (iI 1) := ⟨[], ⟨0, 8, 11, 13⟩, [], rfl, (fun z hz => nomatch hz), by decide, by decide, kL_13, zL_13, Or.inl ⟨2, 1, by decide, rfl, dL_undo_11, dL_undo_12, dL_undo_13⟩⟩
set_option maxHeartbeats 1000000 in
theorem c_L_undo {Γ : jE} (hl : Γ.1.stackTraces = false) {s : Nat → Int → Int} {ε : jEps} {d : Nat} {a : AS} (hd : 4 ≤ d) (p0 : CI s a) (p1 : AI a) : ConW Γ (d, 1, 6) mL_undo hL_undo [.ref 0, .ref 142] (jmem s ε) (LwQ (fun w s' => 0 < aN a ∧ aN a - 1 = w ∧ CI s' (aUndo a) ∧ HiE s s') (fun s' => (¬ 0 < aN a) ∧ s' = s) (fun _ => False)) := by
  refine ConW.ofJ (by decide +kernel) (by simp [Value.category]) (Nat.le_of_ble_eq_true rfl) rfl (by decide) ?_ hl
  refine JH.aload_n 1 dL_undo_0 rfl rfl ?_
  refine JH.iconst (iI 0) dL_undo_1 rfl ?_
  refine JH.aload_n 0 dL_undo_2 rfl rfl ?_
  refine JH.call0 (b' := (d - 1, 1, 6)) (mi' := mX8_undo) dL_undo_3 lL_128 eX8_undo (show jsh[0]? = some (8, 12) from rfl) rfl (c_X8_undo (d := d - 1) hl (by omega) p0 p1) (show d - 1 + 1 ≤ d ∧ 1 ≤ 1 ∧ 6 ≤ 6 from ⟨by omega, by decide, by decide⟩) rfl (fun E M' hX => by obtain ⟨rfl, hc, rfl⟩ := hX; exact ⟨iI 1, jL_undo_0, s, ε, 1, rfl, rfl, Or.inr (Or.inl ⟨rfl, hc, rfl⟩)⟩) (Nat.le_of_ble_eq_true rfl) ?_
  rintro v M' ⟨r9, s1, rfl, rfl, hq⟩
  refine J.i2l dL_undo_6 ?_
  refine I.last0 dL_undo_7 ?_
  refine J.goto 14 dL_undo_8 (by decide) ?_
  refine I.iconst dL_undo_14 ?_
  exact I.iret dL_undo_15 rfl ⟨s1, _, 0, rfl, rfl, Or.inl ⟨rfl, r9, hq, jup2_at ε.1 142 0 _⟩⟩
abbrev hL_worstMove : List (Nat × Nat × Nat × Nat) := [(0, 8, 11, 100)]
theorem eL_worstMove : jSW mL_worstMove hL_worstMove 2 := ⟨jG_mem 1357 (by decide +kernel) rfl, jG_mem 107 (by decide +kernel) rfl, ⟨by decide +kernel, by decide +kernel, by decide +kernel⟩, by decide, jG_mem 1356 (by decide +kernel) rfl⟩
theorem jL_worstMove_0 : jCatch mL_worstMove hL_worstMove 3 "java/util/NoSuchElementException" (iI 1) := ⟨[], ⟨0, 8, 11, 100⟩, [], rfl, (fun z hz => nomatch hz), by decide, by decide, kL_100, zL_100, Or.inl ⟨2, 1, by decide, rfl, dL_worstMove_11, dL_worstMove_12, dL_worstMove_13⟩⟩
set_option maxHeartbeats 1000000 in
theorem c_L_worstMove {Γ : jE} (hl : Γ.1.stackTraces = false) {s : Nat → Int → Int} {ε : jEps} {d : Nat} {f : Int → Int} (hd : 6 ≤ d) (p0 : RM s 21 f) (p1 : SO s f) : ConW Γ (d, 1, 6) mL_worstMove hL_worstMove [.ref 0, .ref 142] (jmem s ε) (LwQ (fun w s' => (¬ gOver f) ∧ gWo f = w ∧ CFr s s' f) (fun s' => (¬ (¬ gOver f)) ∧ s' = s) (fun _ => False)) := by
  refine ConW.ofJ (by decide +kernel) (by simp [Value.category]) (Nat.le_of_ble_eq_true rfl) rfl (by decide) ?_ hl
  refine JH.aload_n 1 dL_worstMove_0 rfl rfl ?_
  refine JH.iconst (iI 0) dL_worstMove_1 rfl ?_
  refine JH.aload_n 0 dL_worstMove_2 rfl rfl ?_
  refine JH.call0 (b' := (d - 1, 1, 6)) (mi' := mX8_worstMove) dL_worstMove_3 lL_102 eX8_worstMove (show jsh[0]? = some (8, 12) from rfl) rfl (c_X8_worstMove (d := d - 1) hl (by omega) p0 p1) (show d - 1 + 1 ≤ d ∧ 1 ≤ 1 ∧ 6 ≤ 6 from ⟨by omega, by decide, by decide⟩) rfl (fun E M' hX => by obtain ⟨rfl, hc, rfl⟩ := hX; exact ⟨iI 1, jL_worstMove_0, s, ε, 1, rfl, rfl, Or.inr (Or.inl ⟨rfl, hc, rfl⟩)⟩) (Nat.le_of_ble_eq_true rfl) ?_
  rintro v M' ⟨r9, s1, rfl, rfl, hq⟩
  refine J.i2l dL_worstMove_6 ?_
  refine I.last0 dL_worstMove_7 ?_
  refine J.goto 14 dL_worstMove_8 (by decide) ?_
  refine I.iconst dL_worstMove_14 ?_
  exact I.iret dL_worstMove_15 rfl ⟨s1, _, 0, rfl, rfl, Or.inl ⟨rfl, r9, hq, jup2_at ε.1 142 0 _⟩⟩
