/-! the law's wrappers -/
theorem kL_36 : Cond.classLink RL 36 "java/lang/IllegalArgumentException" ∈ jG := jG_mem 697 (by decide +kernel) rfl
theorem zL_36 : Cond.castable "java/lang/IllegalArgumentException" "java/lang/IllegalArgumentException" ∈ lw_tbl := List.mem_of_getElem? (i := 707) (by decide +kernel)
theorem kL_30 : Cond.classLink RL 30 "java/lang/IllegalStateException" ∈ jG := jG_mem 787 (by decide +kernel) rfl
theorem zL_30 : Cond.castable "java/lang/IllegalStateException" "java/lang/IllegalStateException" ∈ lw_tbl := List.mem_of_getElem? (i := 835) (by decide +kernel)
theorem kL_56 : Cond.classLink RL 56 "java/lang/IndexOutOfBoundsException" ∈ jG := jG_mem 980 (by decide +kernel) rfl
theorem zL_56 : Cond.castable "java/lang/IndexOutOfBoundsException" "java/lang/IndexOutOfBoundsException" ∈ lw_tbl := List.mem_of_getElem? (i := 991) (by decide +kernel)
theorem kL_175 : Cond.classLink RL 175 "java/util/NoSuchElementException" ∈ jG := jG_mem 1353 (by decide +kernel) rfl
theorem zL_175 : Cond.castable "java/util/NoSuchElementException" "java/util/NoSuchElementException" ∈ lw_tbl := List.mem_of_getElem? (i := 1360) (by decide +kernel)
abbrev hL_adds : List (Nat × Nat × Nat × Nat) := [(0, 40, 41, 30)]
theorem eL_adds : jSW mL_adds hL_adds 3 := ⟨jG_mem 786 (by decide +kernel) rfl, jG_mem 39 (by decide +kernel) rfl, ⟨by decide +kernel, by decide +kernel, by decide +kernel⟩, by decide, jG_mem 785 (by decide +kernel) rfl⟩
abbrev hL_cuts : List (Nat × Nat × Nat × Nat) := [(0, 5, 8, 36)]
theorem eL_cuts : jSW mL_cuts hL_cuts 2 := ⟨jG_mem 700 (by decide +kernel) rfl, jG_mem 39 (by decide +kernel) rfl, ⟨by decide +kernel, by decide +kernel, by decide +kernel⟩, by decide, jG_mem 699 (by decide +kernel) rfl⟩
abbrev hL_loads : List (Nat × Nat × Nat × Nat) := [(38, 42, 43, 36)]
theorem eL_loads : jSW mL_loads hL_loads 2 := ⟨jG_mem 696 (by decide +kernel) rfl, jG_mem 39 (by decide +kernel) rfl, ⟨by decide +kernel, by decide +kernel, by decide +kernel⟩, by decide, jG_mem 695 (by decide +kernel) rfl⟩
abbrev hL_chain : List (Nat × Nat × Nat × Nat) := [(0, 17, 18, 56)]
theorem eL_chain : jSW mL_chain hL_chain 3 := ⟨jG_mem 979 (by decide +kernel) rfl, jG_mem 39 (by decide +kernel) rfl, ⟨by decide +kernel, by decide +kernel, by decide +kernel⟩, by decide, jG_mem 978 (by decide +kernel) rfl⟩
abbrev hL_pips : List (Nat × Nat × Nat × Nat) := [(0, 33, 34, 56)]
theorem eL_pips : jSW mL_pips hL_pips 4 := ⟨jG_mem 1012 (by decide +kernel) rfl, jG_mem 39 (by decide +kernel) rfl, ⟨by decide +kernel, by decide +kernel, by decide +kernel⟩, by decide, jG_mem 1011 (by decide +kernel) rfl⟩
abbrev hL_score : List (Nat × Nat × Nat × Nat) := [(0, 6, 7, 56)]
theorem eL_score : jSW mL_score hL_score 3 := ⟨jG_mem 1041 (by decide +kernel) rfl, jG_mem 39 (by decide +kernel) rfl, ⟨by decide +kernel, by decide +kernel, by decide +kernel⟩, by decide, jG_mem 1040 (by decide +kernel) rfl⟩
abbrev hL_move : List (Nat × Nat × Nat × Nat) := [(0, 72, 73, 56)]
theorem eL_move : jSW mL_move hL_move 3 := ⟨jG_mem 1059 (by decide +kernel) rfl, jG_mem 39 (by decide +kernel) rfl, ⟨by decide +kernel, by decide +kernel, by decide +kernel⟩, by decide, jG_mem 1058 (by decide +kernel) rfl⟩
abbrev hL_burns : List (Nat × Nat × Nat × Nat) := [(0, 6, 7, 56), (0, 6, 11, 30)]
theorem eL_burns : jSW mL_burns hL_burns 3 := ⟨jG_mem 1110 (by decide +kernel) rfl, jG_mem 39 (by decide +kernel) rfl, ⟨by decide +kernel, by decide +kernel, by decide +kernel⟩, by decide, jG_mem 1109 (by decide +kernel) rfl⟩
abbrev hL_passes : List (Nat × Nat × Nat × Nat) := [(0, 12, 13, 30)]
theorem eL_passes : jSW mL_passes hL_passes 1 := ⟨jG_mem 1092 (by decide +kernel) rfl, jG_mem 39 (by decide +kernel) rfl, ⟨by decide +kernel, by decide +kernel, by decide +kernel⟩, by decide, jG_mem 1091 (by decide +kernel) rfl⟩
abbrev hL_optimal : List (Nat × Nat × Nat × Nat) := [(0, 4, 5, 175)]
theorem eL_optimal : jSW mL_optimal hL_optimal 1 := ⟨jG_mem 1352 (by decide +kernel) rfl, jG_mem 39 (by decide +kernel) rfl, ⟨by decide +kernel, by decide +kernel, by decide +kernel⟩, by decide, jG_mem 1351 (by decide +kernel) rfl⟩
abbrev hL_worst : List (Nat × Nat × Nat × Nat) := [(0, 4, 5, 175)]
theorem eL_worst : jSW mL_worst hL_worst 1 := ⟨jG_mem 1375 (by decide +kernel) rfl, jG_mem 39 (by decide +kernel) rfl, ⟨by decide +kernel, by decide +kernel, by decide +kernel⟩, by decide, jG_mem 1374 (by decide +kernel) rfl⟩
abbrev hL_greedy : List (Nat × Nat × Nat × Nat) := [(0, 4, 5, 175)]
theorem eL_greedy : jSW mL_greedy hL_greedy 1 := ⟨jG_mem 1382 (by decide +kernel) rfl, jG_mem 39 (by decide +kernel) rfl, ⟨by decide +kernel, by decide +kernel, by decide +kernel⟩, by decide, jG_mem 1381 (by decide +kernel) rfl⟩
abbrev hL_line : List (Nat × Nat × Nat × Nat) := [(0, 5, 6, 56)]
theorem eL_line : jSW mL_line hL_line 2 := ⟨jG_mem 1389 (by decide +kernel) rfl, jG_mem 39 (by decide +kernel) rfl, ⟨by decide +kernel, by decide +kernel, by decide +kernel⟩, by decide, jG_mem 1388 (by decide +kernel) rfl⟩
abbrev hL_single : List (Nat × Nat × Nat × Nat) := [(0, 5, 6, 56)]
theorem eL_single : jSW mL_single hL_single 2 := ⟨jG_mem 1398 (by decide +kernel) rfl, jG_mem 39 (by decide +kernel) rfl, ⟨by decide +kernel, by decide +kernel, by decide +kernel⟩, by decide, jG_mem 1397 (by decide +kernel) rfl⟩
theorem jL_single_2_56 : jCatchB mL_single hL_single 2 "java/lang/IndexOutOfBoundsException" (iI (-2000)) := ⟨[], ⟨0, 5, 6, 56⟩, [], rfl, (fun z hz => nomatch hz), by decide, by decide, kL_56, zL_56, Or.inl ⟨2, 3, by decide, dL_single_6, Or.inr ⟨-2000, dL_single_7, by decide, rfl⟩, dL_single_10⟩⟩
set_option maxHeartbeats 1000000 in
theorem w_single {Γ : jE} (hl : Γ.1.stackTraces = false) {s : Nat → Int → Int} {d : Nat} {f : Int → Int} (p0 : RM s 21 f) (p1 : SO s f) {c : Int} (hd : 6 ≤ d) (pc : -2147483648 ≤ c ∧ c < 2147483648)  : ConW Γ (d, 1, 6) mL_single hL_single [.ref 0, .int (iI c)] (jmem s e0) (RQ (fun w s' => ((0 ≤ c ∧ c < f (18 + f 1)) ∧ gWf (gOnly f c (f (18 + f 1))) = w ∧ CFr s s' f) ∨ (¬ (0 ≤ c ∧ c < f (18 + f 1)) ∧ w = -2000 ∧ s' = s)) e0) := by
  refine ConW.ofJ (by decide +kernel) (by simp [Value.category]) (Nat.le_of_ble_eq_true rfl) rfl (by decide) ?_ hl
  refine JH.aload_n 0 dL_single_0 rfl rfl ?_
  refine JH.iload_n 1 dL_single_1 rfl rfl ?_
  refine JH.callB (b' := (d - 1, 1, 6)) (mi' := mX8_chainDifference) [.int (iI c)] dL_single_2 lL_186 eX8_chainDifference (show jsh[0]? = some (8, 12) from rfl) rfl ⟨by show d - 1 + 1 ≤ d; omega, Nat.le_refl _, Nat.le_refl _⟩ (c_X8_chainDifference (d := d - 1) hl (by omega) p0 p1 pc) rfl (fun E M' h => by obtain ⟨rfl, hc, rfl⟩ := h; exact ⟨iI (-2000), jL_single_2_56, -2000, s, rfl, rfl, Or.inr ⟨hc, rfl, rfl⟩⟩) (Nat.le_of_ble_eq_true rfl) ?_
  rintro v M' ⟨w, s', rfl, rfl, hq⟩
  exact J.iret rfl dL_single_5 ⟨w, s', rfl, rfl, Or.inl hq⟩
theorem jL_optimal_1_175 : jCatchB mL_optimal hL_optimal 1 "java/util/NoSuchElementException" (iI (-50)) := ⟨[], ⟨0, 4, 5, 175⟩, [], rfl, (fun z hz => nomatch hz), by decide, by decide, kL_175, zL_175, Or.inl ⟨1, 2, by decide, dL_optimal_5, Or.inl ⟨-50, dL_optimal_6, by decide, rfl⟩, dL_optimal_8⟩⟩
set_option maxHeartbeats 1000000 in
theorem w_optimal {Γ : jE} (hl : Γ.1.stackTraces = false) {s : Nat → Int → Int} {d : Nat} {f : Int → Int} (p0 : RM s 21 f) (p1 : SO s f) (hd : 6 ≤ d) : ConW Γ (d, 1, 6) mL_optimal hL_optimal [.ref 0] (jmem s e0) (RQ (fun w s' => (¬ gOver f ∧ gFo f = w ∧ CFr s s' f) ∨ (¬ ¬ gOver f ∧ w = -50 ∧ s' = s)) e0) := by
  refine ConW.ofJ (by decide +kernel) (by simp [Value.category]) (Nat.le_of_ble_eq_true rfl) rfl (by decide) ?_ hl
  refine JH.aload_n 0 dL_optimal_0 rfl rfl ?_
  refine JH.callB (b' := (d - 1, 1, 6)) (mi' := mX8_optimalMove) [] dL_optimal_1 lL_172 eX8_optimalMove (show jsh[0]? = some (8, 12) from rfl) rfl ⟨by show d - 1 + 1 ≤ d; omega, Nat.le_refl _, Nat.le_refl _⟩ (c_X8_optimalMove (d := d - 1) hl (by omega) p0 p1) rfl (fun E M' h => by obtain ⟨rfl, hc, rfl⟩ := h; exact ⟨iI (-50), jL_optimal_1_175, -50, s, rfl, rfl, Or.inr ⟨hc, rfl, rfl⟩⟩) (Nat.le_of_ble_eq_true rfl) ?_
  rintro v M' ⟨w, s', rfl, rfl, hq⟩
  exact J.iret rfl dL_optimal_4 ⟨w, s', rfl, rfl, Or.inl hq⟩
theorem jL_worst_1_175 : jCatchB mL_worst hL_worst 1 "java/util/NoSuchElementException" (iI (-50)) := ⟨[], ⟨0, 4, 5, 175⟩, [], rfl, (fun z hz => nomatch hz), by decide, by decide, kL_175, zL_175, Or.inl ⟨1, 2, by decide, dL_worst_5, Or.inl ⟨-50, dL_worst_6, by decide, rfl⟩, dL_worst_8⟩⟩
set_option maxHeartbeats 1000000 in
theorem w_worst {Γ : jE} (hl : Γ.1.stackTraces = false) {s : Nat → Int → Int} {d : Nat} {f : Int → Int} (p0 : RM s 21 f) (p1 : SO s f) (hd : 6 ≤ d) : ConW Γ (d, 1, 6) mL_worst hL_worst [.ref 0] (jmem s e0) (RQ (fun w s' => (¬ gOver f ∧ gWo f = w ∧ CFr s s' f) ∨ (¬ ¬ gOver f ∧ w = -50 ∧ s' = s)) e0) := by
  refine ConW.ofJ (by decide +kernel) (by simp [Value.category]) (Nat.le_of_ble_eq_true rfl) rfl (by decide) ?_ hl
  refine JH.aload_n 0 dL_worst_0 rfl rfl ?_
  refine JH.callB (b' := (d - 1, 1, 6)) (mi' := mX8_worstMove) [] dL_worst_1 lL_177 eX8_worstMove (show jsh[0]? = some (8, 12) from rfl) rfl ⟨by show d - 1 + 1 ≤ d; omega, Nat.le_refl _, Nat.le_refl _⟩ (c_X8_worstMove (d := d - 1) hl (by omega) p0 p1) rfl (fun E M' h => by obtain ⟨rfl, hc, rfl⟩ := h; exact ⟨iI (-50), jL_worst_1_175, -50, s, rfl, rfl, Or.inr ⟨hc, rfl, rfl⟩⟩) (Nat.le_of_ble_eq_true rfl) ?_
  rintro v M' ⟨w, s', rfl, rfl, hq⟩
  exact J.iret rfl dL_worst_4 ⟨w, s', rfl, rfl, Or.inl hq⟩
theorem jL_greedy_1_175 : jCatchB mL_greedy hL_greedy 1 "java/util/NoSuchElementException" (iI (-50)) := ⟨[], ⟨0, 4, 5, 175⟩, [], rfl, (fun z hz => nomatch hz), by decide, by decide, kL_175, zL_175, Or.inl ⟨1, 2, by decide, dL_greedy_5, Or.inl ⟨-50, dL_greedy_6, by decide, rfl⟩, dL_greedy_8⟩⟩
set_option maxHeartbeats 1000000 in
theorem w_greedy {Γ : jE} (hl : Γ.1.stackTraces = false) {s : Nat → Int → Int} {d : Nat} {f : Int → Int} (p0 : RM s 21 f) (p1 : SO s f) (hd : 5 ≤ d) : ConW Γ (d, 1, 6) mL_greedy hL_greedy [.ref 0] (jmem s e0) (RQ (fun w s' => (¬ gOver f ∧ gGi f = w ∧ CFr s s' f) ∨ (¬ ¬ gOver f ∧ w = -50 ∧ s' = s)) e0) := by
  refine ConW.ofJ (by decide +kernel) (by simp [Value.category]) (Nat.le_of_ble_eq_true rfl) rfl (by decide) ?_ hl
  refine JH.aload_n 0 dL_greedy_0 rfl rfl ?_
  refine JH.callB (b' := (d - 1, 1, 6)) (mi' := mX8_greedyMove) [] dL_greedy_1 lL_180 eX8_greedyMove (show jsh[0]? = some (8, 12) from rfl) rfl ⟨by show d - 1 + 1 ≤ d; omega, Nat.le_refl _, Nat.le_refl _⟩ (c_X8_greedyMove (d := d - 1) hl (by omega) p0 p1) rfl (fun E M' h => by obtain ⟨rfl, hc, rfl⟩ := h; exact ⟨iI (-50), jL_greedy_1_175, -50, s, rfl, rfl, Or.inr ⟨hc, rfl, rfl⟩⟩) (Nat.le_of_ble_eq_true rfl) ?_
  rintro v M' ⟨w, s', rfl, rfl, hq⟩
  exact J.iret rfl dL_greedy_4 ⟨w, s', rfl, rfl, Or.inl hq⟩
theorem jL_line_2_56 : jCatchB mL_line hL_line 2 "java/lang/IndexOutOfBoundsException" (iI (-20)) := ⟨[], ⟨0, 5, 6, 56⟩, [], rfl, (fun z hz => nomatch hz), by decide, by decide, kL_56, zL_56, Or.inl ⟨2, 2, by decide, dL_line_6, Or.inl ⟨-20, dL_line_7, by decide, rfl⟩, dL_line_9⟩⟩
set_option maxHeartbeats 1000000 in
theorem w_line {Γ : jE} (hl : Γ.1.stackTraces = false) {s : Nat → Int → Int} {d : Nat} {f : Int → Int} (p0 : RM s 21 f) (p1 : SO s f) {c : Int} (hd : 8 ≤ d) (pc : -2147483648 ≤ c ∧ c < 2147483648)  : ConW Γ (d, 1, 6) mL_line hL_line [.ref 0, .int (iI c)] (jmem s e0) (RQ (fun w s' => (gLok f c ∧ gPt (gRun c.toNat f) (gMvAt (gRun c.toNat f) (gFo (gRun c.toNat f))) = w ∧ CFr s s' f) ∨ (¬ gLok f c ∧ w = -20 ∧ CFr s s' f)) e0) := by
  refine ConW.ofJ (by decide +kernel) (by simp [Value.category]) (Nat.le_of_ble_eq_true rfl) rfl (by decide) ?_ hl
  refine JH.aload_n 0 dL_line_0 rfl rfl ?_
  refine JH.iload_n 1 dL_line_1 rfl rfl ?_
  refine JH.callB (b' := (d - 1, 1, 6)) (mi' := mX8_optimalLineScore) [.int (iI c)] dL_line_2 lL_183 eX8_optimalLineScore (show jsh[0]? = some (8, 12) from rfl) rfl ⟨by show d - 1 + 1 ≤ d; omega, Nat.le_refl _, Nat.le_refl _⟩ (c_X8_optimalLineScore (d := d - 1) hl (by omega) p0 p1 pc) rfl (fun E M' h => by obtain ⟨rfl, s', rfl, hc, hq⟩ := h; exact ⟨iI (-20), jL_line_2_56, -20, s', rfl, rfl, Or.inr ⟨hc, rfl, hq⟩⟩) (Nat.le_of_ble_eq_true rfl) ?_
  rintro v M' ⟨w, s', rfl, rfl, hq⟩
  exact J.iret rfl dL_line_5 ⟨w, s', rfl, rfl, Or.inl hq⟩
set_option maxHeartbeats 1000000 in
theorem w_length {Γ : jE} (hl : Γ.1.stackTraces = false) {s : Nat → Int → Int} {d : Nat} {f : Int → Int} (p0 : RM s 21 f) {c : Int} (hd : 5 ≤ d) (pc : -2147483648 ≤ c ∧ c < 2147483648) (hin : (0 ≤ c ∧ c < f (18 + f 1))) : ConW Γ (d, 1, 6) mL_chain hL_chain [.ref 0, .int (iI c), .int (iI 0)] (jmem s e0) (RQ (fun w s' => f (37 + c) - f (34 + c) + 1 = w ∧ s' = s) e0) := by
  refine ConW.ofJ (by decide +kernel) (by simp [Value.category]) (Nat.le_of_ble_eq_true rfl) rfl (by decide) ?_ hl
  refine JH.iload_n 2 dL_chain_0 rfl rfl ?_
  refine IH.if_eq 12 dL_chain_1 (by decide) (by omega) (fun h1 => ?_) (fun h1 => ?_)
  · skip
    refine JH.aload_n 0 dL_chain_12 rfl rfl ?_
    refine JH.iload_n 1 dL_chain_13 rfl rfl ?_
    refine JH.callB (b' := (d - 1, 1, 6)) (mi' := mX8_chainLength) [.int (iI c)] dL_chain_14 lL_53 eX8_chainLength (show jsh[0]? = some (8, 12) from rfl) rfl ⟨by show d - 1 + 1 ≤ d; omega, Nat.le_refl _, Nat.le_refl _⟩ (c_X8_chainLength (d := d - 1) hl (by omega) p0 pc) rfl (fun E M' h => absurd hin h.2.1) (Nat.le_of_ble_eq_true rfl) ?_
    rintro v M' ⟨w, s', rfl, rfl, hq⟩
    exact J.iret rfl dL_chain_17 ⟨w, s', rfl, rfl, hq.2.1, hq.2.2.symm⟩
  · exact absurd h1 (by omega)
set_option maxHeartbeats 1000000 in
theorem w_tile {Γ : jE} (hl : Γ.1.stackTraces = false) {s : Nat → Int → Int} {d : Nat} {f : Int → Int} (p0 : RM s 21 f) {c t : Int} (hd : 5 ≤ d) (pc : -2147483648 ≤ c ∧ c < 2147483648) (pt : -2147483648 ≤ t ∧ t < 2147483648) (hin : ((0 ≤ c ∧ c < f (18 + f 1)) ∧ 0 ≤ t ∧ t < f (37 + c) - f (34 + c) + 1)) : ConW Γ (d, 2, 12) mL_pips hL_pips [.ref 0, .int (iI c), .int (iI t), .int (iI 2)] (jmem s e0) (RQ (fun w s' => gSc (gT f c t) = w ∧ s' = s) e0) := by
  refine ConW.ofJ (by decide +kernel) (by simp [Value.category]) (Nat.le_of_ble_eq_true rfl) rfl (by decide) ?_ hl
  refine JH.iload_n 3 dL_pips_0 rfl rfl ?_
  refine IH.if_ne 13 dL_pips_1 (by decide) (by omega) (fun h1 => ?_) (fun h1 => ?_)
  · skip
    refine JH.iload_n 3 dL_pips_13 rfl rfl ?_
    refine JH.iconst (iI (1)) dL_pips_14 rfl ?_
    refine IH.icmp_ne 27 dL_pips_15 (by decide) (by omega) (by omega) (fun h15 => ?_) (fun h15 => ?_)
    · skip
      refine JH.aload_n 0 dL_pips_27 rfl rfl ?_
      refine JH.iload_n 1 dL_pips_28 rfl rfl ?_
      refine JH.iload_n 2 dL_pips_29 rfl rfl ?_
      refine JH.callB (b' := (d - 1, 2, 12)) (mi' := mX8_tileScore) [.int (iI c), .int (iI t)] dL_pips_30 lL_65 eX8_tileScore (show jsh[0]? = some (8, 12) from rfl) rfl ⟨by show d - 1 + 1 ≤ d; omega, Nat.le_refl _, Nat.le_refl _⟩ (c_X8_tileScore (d := d - 1) hl (by omega) p0 pc pt) rfl (fun E M' h => absurd hin h.2.1) (Nat.le_of_ble_eq_true rfl) ?_
      rintro v M' ⟨w, s', rfl, rfl, hq⟩
      exact J.iret rfl dL_pips_33 ⟨w, s', rfl, rfl, hq.2.1, hq.2.2.symm⟩
    · exact absurd h15 (by omega)
  · exact absurd h1 (by omega)
theorem jL_pips_7_56 : jCatchB mL_pips hL_pips 7 "java/lang/IndexOutOfBoundsException" (iI (-20)) := ⟨[], ⟨0, 33, 34, 56⟩, [], rfl, (fun z hz => nomatch hz), by decide, by decide, kL_56, zL_56, Or.inr ⟨4, 2, by decide, dL_pips_34, Or.inl ⟨-20, dL_pips_36, by decide, rfl⟩, dL_pips_38⟩⟩
set_option maxHeartbeats 1000000 in
theorem w_left {Γ : jE} (hl : Γ.1.stackTraces = false) {s : Nat → Int → Int} {d : Nat} {f : Int → Int} (p0 : RM s 21 f) {c t : Int} (hd : 5 ≤ d) (pc : -2147483648 ≤ c ∧ c < 2147483648) (pt : -2147483648 ≤ t ∧ t < 2147483648) (hout : ¬ ((0 ≤ c ∧ c < f (18 + f 1)) ∧ 0 ≤ t ∧ t < f (37 + c) - f (34 + c) + 1)) : ConW Γ (d, 2, 12) mL_pips hL_pips [.ref 0, .int (iI c), .int (iI t), .int (iI 0)] (jmem s e0) (RQ (fun w s' => w = -20 ∧ s' = s) e0) := by
  refine ConW.ofJ (by decide +kernel) (by simp [Value.category]) (Nat.le_of_ble_eq_true rfl) rfl (by decide) ?_ hl
  refine JH.iload_n 3 dL_pips_0 rfl rfl ?_
  refine IH.if_ne 13 dL_pips_1 (by decide) (by omega) (fun h1 => ?_) (fun h1 => ?_)
  · exact absurd h1 (by omega)
  · skip
    refine JH.aload_n 0 dL_pips_4 rfl rfl ?_
    refine JH.iload_n 1 dL_pips_5 rfl rfl ?_
    refine JH.iload_n 2 dL_pips_6 rfl rfl ?_
    refine JH.callB (b' := (d - 1, 2, 12)) (mi' := mX8_leftPips) [.int (iI c), .int (iI t)] dL_pips_7 lL_58 eX8_leftPips (show jsh[0]? = some (8, 12) from rfl) rfl ⟨by show d - 1 + 1 ≤ d; omega, Nat.le_refl _, Nat.le_refl _⟩ (c_X8_leftPips (d := d - 1) hl (by omega) p0 pc pt) rfl (fun E M' h => by obtain ⟨rfl, hc, rfl⟩ := h; exact ⟨iI (-20), jL_pips_7_56, -20, s, rfl, rfl, rfl, rfl⟩) (Nat.le_of_ble_eq_true rfl) ?_
    rintro v M' ⟨w, s', rfl, rfl, hq⟩
    refine J.goto 33 dL_pips_10 (by decide) ?_
    exact absurd hq.1 hout
set_option maxHeartbeats 1000000 in
theorem w_score {Γ : jE} (hl : Γ.1.stackTraces = false) {s : Nat → Int → Int} {d : Nat} {f : Int → Int} (p0 : RM s 21 f) {c t : Int} (hd : 3 ≤ d) (pc : -2147483648 ≤ c ∧ c < 2147483648) (pt : -2147483648 ≤ t ∧ t < 2147483648) (hin : (0 ≤ c ∧ c < f 0) ∧ 0 ≤ t ∧ t ≤ 1) : ConW Γ (d, 2, 12) mL_score hL_score [.ref 0, .int (iI c), .int (iI t)] (jmem s e0) (RQ (fun w s' => f (6 + 2 * c + t) = w ∧ s' = s) e0) := by
  refine ConW.ofJ (by decide +kernel) (by simp [Value.category]) (Nat.le_of_ble_eq_true rfl) rfl (by decide) ?_ hl
  refine JH.aload_n 0 dL_score_0 rfl rfl ?_
  refine JH.iload_n 1 dL_score_1 rfl rfl ?_
  refine JH.iload_n 2 dL_score_2 rfl rfl ?_
  refine JH.callB (b' := (d - 1, 2, 12)) (mi' := mX8_roundScore) [.int (iI c), .int (iI t)] dL_score_3 lL_68 eX8_roundScore (show jsh[0]? = some (8, 12) from rfl) rfl ⟨by show d - 1 + 1 ≤ d; omega, Nat.le_refl _, Nat.le_refl _⟩ (c_X8_roundScore (d := d - 1) hl (by omega) p0 pc pt) rfl (fun E M' h => absurd hin h.2.1) (Nat.le_of_ble_eq_true rfl) ?_
  rintro v M' ⟨w, s', rfl, rfl, hq⟩
  exact J.iret rfl dL_score_6 ⟨w, s', rfl, rfl, hq.2.1, hq.2.2.symm⟩
theorem jL_move_6_56 : jCatchB mL_move hL_move 6 "java/lang/IndexOutOfBoundsException" (iI (-2000)) := ⟨[], ⟨0, 72, 73, 56⟩, [], rfl, (fun z hz => nomatch hz), by decide, by decide, kL_56, zL_56, Or.inl ⟨3, 3, by decide, dL_move_73, Or.inr ⟨-2000, dL_move_74, by decide, rfl⟩, dL_move_77⟩⟩
set_option maxHeartbeats 1000000 in
theorem w_move0 {Γ : jE} (hl : Γ.1.stackTraces = false) {s : Nat → Int → Int} {d : Nat} {f : Int → Int} (p0 : RM s 21 f) {c : Int} (hd : 6 ≤ d) (pc : -2147483648 ≤ c ∧ c < 2147483648)  : ConW Γ (d, 1, 6) mL_move hL_move [.ref 0, .int (iI c), .int (iI 0)] (jmem s e0) (RQ (fun w s' => ((0 ≤ c ∧ c < gMoves f) ∧ gChn (gMvAt f c) = w ∧ s' = s) ∨ (¬ (0 ≤ c ∧ c < gMoves f) ∧ w = -2000 ∧ s' = s)) e0) := by
  refine ConW.ofJ (by decide +kernel) (by simp [Value.category]) (Nat.le_of_ble_eq_true rfl) rfl (by decide) ?_ hl
  refine JH.iload_n 2 dL_move_0 rfl rfl ?_
  refine IH.if_ne 12 dL_move_1 (by decide) (by omega) (fun h1 => ?_) (fun h1 => ?_)
  · exact absurd h1 (by omega)
  · skip
    refine JH.aload_n 0 dL_move_4 rfl rfl ?_
    refine JH.iload_n 1 dL_move_5 rfl rfl ?_
    refine JH.callB (b' := (d - 1, 1, 6)) (mi' := mX8_moveChain) [.int (iI c)] dL_move_6 lL_71 eX8_moveChain (show jsh[0]? = some (8, 12) from rfl) rfl ⟨by show d - 1 + 1 ≤ d; omega, Nat.le_refl _, Nat.le_refl _⟩ (c_X8_moveChain (d := d - 1) hl (by omega) p0 pc) rfl (fun E M' h => by obtain ⟨rfl, hc, rfl⟩ := h; exact ⟨iI (-2000), jL_move_6_56, -2000, s, rfl, rfl, Or.inr ⟨hc, rfl, rfl⟩⟩) (Nat.le_of_ble_eq_true rfl) ?_
    rintro v M' ⟨w, s', rfl, rfl, hq⟩
    refine J.goto 72 dL_move_9 (by decide) ?_
    exact J.iret rfl dL_move_72 ⟨w, s', rfl, rfl, Or.inl ⟨hq.1, hq.2.1, hq.2.2.symm⟩⟩
theorem jL_move_19_56 : jCatchB mL_move hL_move 19 "java/lang/IndexOutOfBoundsException" (iI (-2000)) := ⟨[], ⟨0, 72, 73, 56⟩, [], rfl, (fun z hz => nomatch hz), by decide, by decide, kL_56, zL_56, Or.inl ⟨3, 3, by decide, dL_move_73, Or.inr ⟨-2000, dL_move_74, by decide, rfl⟩, dL_move_77⟩⟩
set_option maxHeartbeats 1000000 in
theorem w_move1 {Γ : jE} (hl : Γ.1.stackTraces = false) {s : Nat → Int → Int} {d : Nat} {f : Int → Int} (p0 : RM s 21 f) {c : Int} (hd : 6 ≤ d) (pc : -2147483648 ≤ c ∧ c < 2147483648)  : ConW Γ (d, 1, 6) mL_move hL_move [.ref 0, .int (iI c), .int (iI 1)] (jmem s e0) (RQ (fun w s' => ((0 ≤ c ∧ c < gMoves f) ∧ gPt f (gMvAt f c) = w ∧ s' = s) ∨ (¬ (0 ≤ c ∧ c < gMoves f) ∧ w = -2000 ∧ s' = s)) e0) := by
  refine ConW.ofJ (by decide +kernel) (by simp [Value.category]) (Nat.le_of_ble_eq_true rfl) rfl (by decide) ?_ hl
  refine JH.iload_n 2 dL_move_0 rfl rfl ?_
  refine IH.if_ne 12 dL_move_1 (by decide) (by omega) (fun h1 => ?_) (fun h1 => ?_)
  · skip
    refine JH.iload_n 2 dL_move_12 rfl rfl ?_
    refine JH.iconst (iI (1)) dL_move_13 rfl ?_
    refine IH.icmp_ne 25 dL_move_14 (by decide) (by omega) (by omega) (fun h14 => ?_) (fun h14 => ?_)
    · exact absurd h14 (by omega)
    · skip
      refine JH.aload_n 0 dL_move_17 rfl rfl ?_
      refine JH.iload_n 1 dL_move_18 rfl rfl ?_
      refine JH.callB (b' := (d - 1, 1, 6)) (mi' := mX8_moveScore) [.int (iI c)] dL_move_19 lL_74 eX8_moveScore (show jsh[0]? = some (8, 12) from rfl) rfl ⟨by show d - 1 + 1 ≤ d; omega, Nat.le_refl _, Nat.le_refl _⟩ (c_X8_moveScore (d := d - 1) hl (by omega) p0 pc) rfl (fun E M' h => by obtain ⟨rfl, hc, rfl⟩ := h; exact ⟨iI (-2000), jL_move_19_56, -2000, s, rfl, rfl, Or.inr ⟨hc, rfl, rfl⟩⟩) (Nat.le_of_ble_eq_true rfl) ?_
      rintro v M' ⟨w, s', rfl, rfl, hq⟩
      refine J.goto 72 dL_move_22 (by decide) ?_
      exact J.iret rfl dL_move_72 ⟨w, s', rfl, rfl, Or.inl ⟨hq.1, hq.2.1, hq.2.2.symm⟩⟩
  · exact absurd h1 (by omega)
theorem jL_move_32_56 : jCatchB mL_move hL_move 32 "java/lang/IndexOutOfBoundsException" (iI (-2000)) := ⟨[], ⟨0, 72, 73, 56⟩, [], rfl, (fun z hz => nomatch hz), by decide, by decide, kL_56, zL_56, Or.inl ⟨3, 3, by decide, dL_move_73, Or.inr ⟨-2000, dL_move_74, by decide, rfl⟩, dL_move_77⟩⟩
set_option maxHeartbeats 1000000 in
theorem w_move2 {Γ : jE} (hl : Γ.1.stackTraces = false) {s : Nat → Int → Int} {d : Nat} {f : Int → Int} (p0 : RM s 21 f) {c : Int} (hd : 6 ≤ d) (pc : -2147483648 ≤ c ∧ c < 2147483648)  : ConW Γ (d, 1, 6) mL_move hL_move [.ref 0, .int (iI c), .int (iI 2)] (jmem s e0) (RQ (fun w s' => ((0 ≤ c ∧ c < gMoves f) ∧ bI (gMvAt f c = 6) = w ∧ s' = s) ∨ (¬ (0 ≤ c ∧ c < gMoves f) ∧ w = -2000 ∧ s' = s)) e0) := by
  refine ConW.ofJ (by decide +kernel) (by simp [Value.category]) (Nat.le_of_ble_eq_true rfl) rfl (by decide) ?_ hl
  refine JH.iload_n 2 dL_move_0 rfl rfl ?_
  refine IH.if_ne 12 dL_move_1 (by decide) (by omega) (fun h1 => ?_) (fun h1 => ?_)
  · skip
    refine JH.iload_n 2 dL_move_12 rfl rfl ?_
    refine JH.iconst (iI (1)) dL_move_13 rfl ?_
    refine IH.icmp_ne 25 dL_move_14 (by decide) (by omega) (by omega) (fun h14 => ?_) (fun h14 => ?_)
    · skip
      refine JH.iload_n 2 dL_move_25 rfl rfl ?_
      refine JH.iconst (iI (2)) dL_move_26 rfl ?_
      refine IH.icmp_ne 46 dL_move_27 (by decide) (by omega) (by omega) (fun h27 => ?_) (fun h27 => ?_)
      · exact absurd h27 (by omega)
      · skip
        refine JH.aload_n 0 dL_move_30 rfl rfl ?_
        refine JH.iload_n 1 dL_move_31 rfl rfl ?_
        refine JH.callB (b' := (d - 1, 1, 6)) (mi' := mX8_isPass) [.int (iI c)] dL_move_32 lL_77 eX8_isPass (show jsh[0]? = some (8, 12) from rfl) rfl ⟨by show d - 1 + 1 ≤ d; omega, Nat.le_refl _, Nat.le_refl _⟩ (c_X8_isPass (d := d - 1) hl (by omega) p0 pc) rfl (fun E M' h => by obtain ⟨rfl, hc, rfl⟩ := h; exact ⟨iI (-2000), jL_move_32_56, -2000, s, rfl, rfl, Or.inr ⟨hc, rfl, rfl⟩⟩) (Nat.le_of_ble_eq_true rfl) ?_
        rintro v M' ⟨w, s', rfl, rfl, hq⟩
        have e9 := hq.2.1
        subst e9
        refine I.if_eqB 42 dL_move_35 (by decide) (fun h35 => ?_) (fun h35 => ?_)
        · skip
          refine I.iconst dL_move_42 ?_
          refine J.goto 72 dL_move_43 (by decide) ?_
          exact J.iret rfl dL_move_72 ⟨0, s', rfl, rfl, Or.inl ⟨hq.1, bI_f h35, hq.2.2.symm⟩⟩
        · skip
          refine I.iconst dL_move_38 ?_
          refine J.goto 72 dL_move_39 (by decide) ?_
          exact J.iret rfl dL_move_72 ⟨1, s', rfl, rfl, Or.inl ⟨hq.1, bI_t h35, hq.2.2.symm⟩⟩
    · exact absurd h14 (by omega)
  · exact absurd h1 (by omega)
theorem jL_move_53_56 : jCatchB mL_move hL_move 53 "java/lang/IndexOutOfBoundsException" (iI (-2000)) := ⟨[], ⟨0, 72, 73, 56⟩, [], rfl, (fun z hz => nomatch hz), by decide, by decide, kL_56, zL_56, Or.inl ⟨3, 3, by decide, dL_move_73, Or.inr ⟨-2000, dL_move_74, by decide, rfl⟩, dL_move_77⟩⟩
set_option maxHeartbeats 1000000 in
theorem w_move3 {Γ : jE} (hl : Γ.1.stackTraces = false) {s : Nat → Int → Int} {d : Nat} {f : Int → Int} (p0 : RM s 21 f) {c : Int} (hd : 6 ≤ d) (pc : -2147483648 ≤ c ∧ c < 2147483648)  : ConW Γ (d, 1, 6) mL_move hL_move [.ref 0, .int (iI c), .int (iI 3)] (jmem s e0) (RQ (fun w s' => ((0 ≤ c ∧ c < gMoves f) ∧ bI (gMvAt f c ≠ 6 ∧ gMvAt f c % 2 = 0) = w ∧ s' = s) ∨ (¬ (0 ≤ c ∧ c < gMoves f) ∧ w = -2000 ∧ s' = s)) e0) := by
  refine ConW.ofJ (by decide +kernel) (by simp [Value.category]) (Nat.le_of_ble_eq_true rfl) rfl (by decide) ?_ hl
  refine JH.iload_n 2 dL_move_0 rfl rfl ?_
  refine IH.if_ne 12 dL_move_1 (by decide) (by omega) (fun h1 => ?_) (fun h1 => ?_)
  · skip
    refine JH.iload_n 2 dL_move_12 rfl rfl ?_
    refine JH.iconst (iI (1)) dL_move_13 rfl ?_
    refine IH.icmp_ne 25 dL_move_14 (by decide) (by omega) (by omega) (fun h14 => ?_) (fun h14 => ?_)
    · skip
      refine JH.iload_n 2 dL_move_25 rfl rfl ?_
      refine JH.iconst (iI (2)) dL_move_26 rfl ?_
      refine IH.icmp_ne 46 dL_move_27 (by decide) (by omega) (by omega) (fun h27 => ?_) (fun h27 => ?_)
      · skip
        refine JH.iload_n 2 dL_move_46 rfl rfl ?_
        refine JH.iconst (iI (3)) dL_move_47 rfl ?_
        refine IH.icmp_ne 67 dL_move_48 (by decide) (by omega) (by omega) (fun h48 => ?_) (fun h48 => ?_)
        · exact absurd h48 (by omega)
        · skip
          refine JH.aload_n 0 dL_move_51 rfl rfl ?_
          refine JH.iload_n 1 dL_move_52 rfl rfl ?_
          refine JH.callB (b' := (d - 1, 1, 6)) (mi' := mX8_isLeftBurn) [.int (iI c)] dL_move_53 lL_81 eX8_isLeftBurn (show jsh[0]? = some (8, 12) from rfl) rfl ⟨by show d - 1 + 1 ≤ d; omega, Nat.le_refl _, Nat.le_refl _⟩ (c_X8_isLeftBurn (d := d - 1) hl (by omega) p0 pc) rfl (fun E M' h => by obtain ⟨rfl, hc, rfl⟩ := h; exact ⟨iI (-2000), jL_move_53_56, -2000, s, rfl, rfl, Or.inr ⟨hc, rfl, rfl⟩⟩) (Nat.le_of_ble_eq_true rfl) ?_
          rintro v M' ⟨w, s', rfl, rfl, hq⟩
          have e9 := hq.2.1
          subst e9
          refine I.if_eqB 63 dL_move_56 (by decide) (fun h56 => ?_) (fun h56 => ?_)
          · skip
            refine I.iconst dL_move_63 ?_
            refine J.goto 72 dL_move_64 (by decide) ?_
            exact J.iret rfl dL_move_72 ⟨0, s', rfl, rfl, Or.inl ⟨hq.1, bI_f h56, hq.2.2.symm⟩⟩
          · skip
            refine I.iconst dL_move_59 ?_
            refine J.goto 72 dL_move_60 (by decide) ?_
            exact J.iret rfl dL_move_72 ⟨1, s', rfl, rfl, Or.inl ⟨hq.1, bI_t h56, hq.2.2.symm⟩⟩
      · exact absurd h27 (by omega)
    · exact absurd h14 (by omega)
  · exact absurd h1 (by omega)
theorem jL_move_69_56 : jCatchB mL_move hL_move 69 "java/lang/IndexOutOfBoundsException" (iI (-2000)) := ⟨[], ⟨0, 72, 73, 56⟩, [], rfl, (fun z hz => nomatch hz), by decide, by decide, kL_56, zL_56, Or.inl ⟨3, 3, by decide, dL_move_73, Or.inr ⟨-2000, dL_move_74, by decide, rfl⟩, dL_move_77⟩⟩
set_option maxHeartbeats 1000000 in
theorem w_move4 {Γ : jE} (hl : Γ.1.stackTraces = false) {s : Nat → Int → Int} {d : Nat} {f : Int → Int} (p0 : RM s 21 f) (p1 : SO s f) {c : Int} (hd : 6 ≤ d) (pc : -2147483648 ≤ c ∧ c < 2147483648)  : ConW Γ (d, 1, 6) mL_move hL_move [.ref 0, .int (iI c), .int (iI 4)] (jmem s e0) (RQ (fun w s' => ((0 ≤ c ∧ c < gMoves f) ∧ gVal f (gMvAt f c) = w ∧ CFr s s' f) ∨ (¬ (0 ≤ c ∧ c < gMoves f) ∧ w = -2000 ∧ s' = s)) e0) := by
  refine ConW.ofJ (by decide +kernel) (by simp [Value.category]) (Nat.le_of_ble_eq_true rfl) rfl (by decide) ?_ hl
  refine JH.iload_n 2 dL_move_0 rfl rfl ?_
  refine IH.if_ne 12 dL_move_1 (by decide) (by omega) (fun h1 => ?_) (fun h1 => ?_)
  · skip
    refine JH.iload_n 2 dL_move_12 rfl rfl ?_
    refine JH.iconst (iI (1)) dL_move_13 rfl ?_
    refine IH.icmp_ne 25 dL_move_14 (by decide) (by omega) (by omega) (fun h14 => ?_) (fun h14 => ?_)
    · skip
      refine JH.iload_n 2 dL_move_25 rfl rfl ?_
      refine JH.iconst (iI (2)) dL_move_26 rfl ?_
      refine IH.icmp_ne 46 dL_move_27 (by decide) (by omega) (by omega) (fun h27 => ?_) (fun h27 => ?_)
      · skip
        refine JH.iload_n 2 dL_move_46 rfl rfl ?_
        refine JH.iconst (iI (3)) dL_move_47 rfl ?_
        refine IH.icmp_ne 67 dL_move_48 (by decide) (by omega) (by omega) (fun h48 => ?_) (fun h48 => ?_)
        · skip
          refine JH.aload_n 0 dL_move_67 rfl rfl ?_
          refine JH.iload_n 1 dL_move_68 rfl rfl ?_
          refine JH.callB (b' := (d - 1, 1, 6)) (mi' := mX8_moveValue) [.int (iI c)] dL_move_69 lL_84 eX8_moveValue (show jsh[0]? = some (8, 12) from rfl) rfl ⟨by show d - 1 + 1 ≤ d; omega, Nat.le_refl _, Nat.le_refl _⟩ (c_X8_moveValue (d := d - 1) hl (by omega) p0 p1 pc) rfl (fun E M' h => by obtain ⟨rfl, hc, rfl⟩ := h; exact ⟨iI (-2000), jL_move_69_56, -2000, s, rfl, rfl, Or.inr ⟨hc, rfl, rfl⟩⟩) (Nat.le_of_ble_eq_true rfl) ?_
          rintro v M' ⟨w, s', rfl, rfl, hq⟩
          exact J.iret rfl dL_move_72 ⟨w, s', rfl, rfl, Or.inl ⟨hq.1, hq.2.1, hq.2.2⟩⟩
        · exact absurd h48 (by omega)
      · exact absurd h27 (by omega)
    · exact absurd h14 (by omega)
  · exact absurd h1 (by omega)
set_option maxHeartbeats 1000000 in
theorem w_burns {Γ : jE} (hl : Γ.1.stackTraces = false) {s : Nat → Int → Int} {d : Nat} {a : AS} (p0 : CI s a) (p1 : AI a) {c x : Int} (hd : 4 ≤ d) (pc : -2147483648 ≤ c ∧ c < 2147483648) (hx : 0 ≤ x ∧ x ≤ 1) (hin : (0 ≤ c ∧ c < (aF a) (18 + (aF a) 1)) ∧ ¬ gOver (aF a) ∧ 1 < (aF a) (37 + c) - (aF a) (34 + c) + 1) : ConW Γ (d, 2, 12) mL_burns hL_burns [.ref 0, .int (iI c), .int (iI x)] (jmem s e0) (RQ (fun w s' => gPt (aF a) (2 * c + (1 - x)) = w ∧ CI s' (aSet (aRec a) (gPlay (aF a) (2 * c + (1 - x)))) ∧ HiE s s') e0) := by
  refine ConW.ofJ (by decide +kernel) (by simp [Value.category]) (Nat.le_of_ble_eq_true rfl) rfl (by decide) ?_ hl
  refine JH.aload_n 0 dL_burns_0 rfl rfl ?_
  refine JH.iload_n 1 dL_burns_1 rfl rfl ?_
  refine JH.iload_n 2 dL_burns_2 rfl rfl ?_
  refine JH.callB (b' := (d - 1, 2, 12)) (mi' := mX8_burn) [.int (iI c), .int (iI x)] dL_burns_3 lL_87 eX8_burn (show jsh[0]? = some (8, 12) from rfl) rfl ⟨by show d - 1 + 1 ≤ d; omega, Nat.le_refl _, Nat.le_refl _⟩ (c_X8_burn (d := d - 1) hl (by omega) p0 p1 pc hx) rfl (fun E M' h => by rcases h.2 with ⟨_, h⟩ | ⟨_, _, h⟩; exact absurd hin.1 h; exact absurd hin.2 h) (Nat.le_of_ble_eq_true rfl) ?_
  rintro v M' ⟨w, s', rfl, rfl, hq⟩
  exact J.iret rfl dL_burns_6 ⟨w, s', rfl, rfl, hq.2⟩
set_option maxHeartbeats 1000000 in
theorem w_passes {Γ : jE} (hl : Γ.1.stackTraces = false) {s : Nat → Int → Int} {d : Nat} {a : AS} (p0 : CI s a) (p1 : AI a) (hd : 4 ≤ d) (hin : ¬ gOver (aF a)) : ConW Γ (d, 1, 6) mL_passes hL_passes [.ref 0] (jmem s e0) (RQ (fun w s' => (0 ≤ w ∧ w ≤ 1) ∧ CI s' (aSet (aRec a) (gPlay (aF a) 6)) ∧ HiE s s') e0) := by
  refine ConW.ofJ (by decide +kernel) (by simp [Value.category]) (Nat.le_of_ble_eq_true rfl) rfl (by decide) ?_ hl
  refine JH.aload_n 0 dL_passes_0 rfl rfl ?_
  refine JH.callB (b' := (d - 1, 1, 6)) (mi' := mX8_pass) [] dL_passes_1 lL_91 eX8_pass (show jsh[0]? = some (8, 12) from rfl) rfl ⟨by show d - 1 + 1 ≤ d; omega, Nat.le_refl _, Nat.le_refl _⟩ (c_X8_pass (d := d - 1) hl (by omega) p0 p1) rfl (fun E M' h => absurd hin h.2.1) (Nat.le_of_ble_eq_true rfl) ?_
  rintro v M' ⟨w, s', rfl, rfl, hq⟩
  have e9 := hq.2.1
  subst e9
  refine I.if_eqB 11 dL_passes_4 (by decide) (fun h4 => ?_) (fun h4 => ?_)
  · skip
    refine I.iconst dL_passes_11 ?_
    exact J.iret rfl dL_passes_12 ⟨0, s', rfl, rfl, by decide, hq.2.2⟩
  · skip
    refine I.iconst dL_passes_7 ?_
    refine J.goto 12 dL_passes_8 (by decide) ?_
    exact J.iret rfl dL_passes_12 ⟨1, s', rfl, rfl, by decide, hq.2.2⟩
set_option maxHeartbeats 1000000 in
theorem w_cuts {Γ : jE} (hl : Γ.1.stackTraces = false) {s : Nat → Int → Int} {d : Nat} {a : AS} (p0 : CI s a) (p1 : AI a) {c : Int} (pc : -2147483648 ≤ c ∧ c < 2147483648) (hin : 0 ≤ c ∧ c ≤ aL a) (hd : 1 ≤ d) : ConW Γ (d, 1, 6) mL_cuts hL_cuts [.ref 0, .int (iI c)] (jmem s e0) (RQ (fun w s' => w = 0 ∧ CI s' (aIn a (aT a) c) ∧ HiE s s') e0) := by
  refine ConW.ofJ (by decide +kernel) (by simp [Value.category]) (Nat.le_of_ble_eq_true rfl) rfl (by decide) ?_ hl
  refine JH.aload_n 0 dL_cuts_0 rfl rfl ?_
  refine JH.iload_n 1 dL_cuts_1 rfl rfl ?_
  refine JH.callB (b' := (d - 1, 1, 6)) (mi' := mX8_truncate) [.int (iI c)] dL_cuts_2 lL_32 eX8_truncate (show jsh[0]? = some (8, 12) from rfl) rfl ⟨by show d - 1 + 1 ≤ d; omega, Nat.le_refl _, Nat.le_refl _⟩ (c_X8_truncate (d := d - 1) hl (by omega) p0 p1 pc) rfl (fun E M' h => absurd hin h.2.1) (Nat.le_of_ble_eq_true rfl) ?_
  rintro v M' ⟨s', rfl, rfl, hq⟩
  refine J.goto 12 dL_cuts_5 (by decide) ?_
  refine I.iconst dL_cuts_12 ?_
  exact J.iret rfl dL_cuts_13 ⟨0, s', rfl, rfl, rfl, hq.2⟩
