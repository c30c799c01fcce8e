set_option maxHeartbeats 4000000 in
theorem lc_48 {Γ : jE} (hl : Γ.1.stackTraces = false) {Ls : Nat} {xs : Nat → Int32} (hsc : Γ.2.2 = some (Ls, xs)) {s : Nat → Int → Int} {ε : jEps} {d i mc ms : Nat} {a : AS} {P : Option Value → jM → Prop} {X : String → jM → Prop} (hd : 131 ≤ d) (hi : i + 6 ≤ Ls) (hL : Ls ≤ 3072) (h : CI s a) (m : MI s a) (j : AI a) (kx : ∀ s' ε' a', AI a' → CI s' a' → MI s' a' → J Γ (d, mc, ms) mL_law 2839 [some (.ref 2000000), some (.ref 0), some (.ref 137), some (.ref 142), some (.ref 143), some (.int (iI (i : Int))), none, none, none] [] (jmem s' ε') P X) : J Γ (d, mc + 2, ms + 12) mL_law 2269 [some (.ref 2000000), some (.ref 0), some (.ref 137), some (.ref 142), some (.ref 143), some (.int (iI (i : Int))), none, none, none] [] (jmem s ε) P X := by
  refine J.aload_n 1 dL_law_2269 rfl rfl ?_
  refine I.callV0q (d' := d - 1) (mi' := mX8_expectedLead) dL_law_2270 lL_319 eX8_expectedLead rfl rfl (c_X8_expectedLead (d := d - 1) hl (by omega) h.m h.so) (show d - 1 + 1 ≤ d from by omega) (Nat.le_of_ble_eq_true rfl) ?_
  rintro r9 s1 ⟨rfl, e1⟩
  have hc := h.cfr e1
  have m1 : MI s1 a := m.lo hc.2
  refine J.aload_n 2 dL_law_2273 rfl rfl ?_
  refine I.callV0q (d' := d - 1) (mi' := mX9_expectedLead) dL_law_2274 lL_322 eX9_expectedLead rfl rfl (c_X9_expectedLead (d := d - 1) hl (by omega) (m1.w j) m1.1) (show d - 1 + 1 ≤ d from by omega) (Nat.le_of_ble_eq_true rfl) ?_
  rintro w9 s2 ⟨rfl, e2⟩
  have hm2 : MI s2 a ∧ LoE s1 s2 ∧ s2 137 0 = 0 := ⟨(m1.mfr e2).1, (m1.mfr e2).2, e2.2.2.2.1⟩
  refine I.icmpS 2839 dL_law_2277 (by decide) ?_
  refine J.fgt (L' := [some (.ref 2000000), some (.ref 0), some (.ref 137), some (.ref 142), some (.ref 143), some (.int (iI (i : Int))), none, none, none]) (by exact ⟨Or.inr rfl, Or.inr rfl, Or.inr rfl, Or.inr rfl, Or.inr rfl, Or.inr rfl, Or.inl rfl, Or.inl rfl, Or.inl rfl, trivial⟩) ?_
  exact J.mono (kx s2 _ _ (j) (hc.1.hi hm2.2.1) hm2.1) (fun _ _ h => h) (fun _ _ h => h) ⟨show d ≤ d from Nat.le_refl d, by show mc ≤ mc + 2 - 0; omega, by show ms ≤ ms + 12 - 0; omega⟩
set_option maxHeartbeats 4000000 in
theorem lc_49 {Γ : jE} (hl : Γ.1.stackTraces = false) {Ls : Nat} {xs : Nat → Int32} (hsc : Γ.2.2 = some (Ls, xs)) {s : Nat → Int → Int} {ε : jEps} {d i mc ms : Nat} {a : AS} {P : Option Value → jM → Prop} {X : String → jM → Prop} (hd : 131 ≤ d) (hi : i + 6 ≤ Ls) (hL : Ls ≤ 3072) (h : CI s a) (m : MI s a) (j : AI a) (kx : ∀ s' ε' a', AI a' → CI s' a' → MI s' a' → J Γ (d, mc, ms) mL_law 2839 [some (.ref 2000000), some (.ref 0), some (.ref 137), some (.ref 142), some (.ref 143), some (.int (iI (i : Int))), none, none, none] [] (jmem s' ε') P X) : J Γ (d, mc + 2, ms + 12) mL_law 2282 [some (.ref 2000000), some (.ref 0), some (.ref 137), some (.ref 142), some (.ref 143), some (.int (iI (i : Int))), none, none, none] [] (jmem s ε) P X := by
  refine J.aload_n 1 dL_law_2282 rfl rfl ?_
  refine J.aload_n 3 dL_law_2283 rfl rfl ?_
  refine J.callW2 (b' := (d - 1, 1, 6)) (mi' := mL_greedyMove) dL_law_2284 lL_323 eL_greedyMove (c_L_greedyMove (d := d - 1) hl (by omega) h.m h.so) (show d - 1 + 1 ≤ d ∧ 1 ≤ mc + 2 ∧ 6 ≤ ms + 12 from ⟨by omega, by omega, by omega⟩) (Nat.le_of_ble_eq_true rfl) ?_
  rintro v M' ⟨s1, ε1, k9, rfl, rfl, hk⟩
  refine J.istore dL_law_2287 (by decide) rfl ?_
  rcases hk with ⟨rfl, r9, hq, hε⟩ | ⟨rfl, hx⟩ | ⟨rfl, hx⟩
  · skip
    obtain ⟨hcond, rfl, e1⟩ := hq
    have hc := h.cfr e1
    have m1 : MI s1 a := m.lo hc.2
    refine J.aload_n 2 dL_law_2289 rfl rfl ?_
    refine I.callV0q (d' := d - 1) (mi' := mX9_greedyMove) dL_law_2290 lL_325 eX9_greedyMove rfl rfl (c_X9_greedyMove (d := d - 1) hl (by omega) (m1.w j)) (show d - 1 + 1 ≤ d from by omega) (Nat.le_of_ble_eq_true rfl) ?_
    rintro w9 s2 h2
    rcases h2 with ⟨hm, rfl, e2⟩ | ⟨hm, e2⟩
    · skip
      have hm2 : MI s2 a ∧ LoE s1 s2 ∧ s2 137 0 = 0 := by subst e2; exact ⟨m1.th, fun q i hq => up_ne (by omega), up_eq _ _ _ _⟩
      refine J.istore dL_law_2293 (by decide) rfl ?_
      refine J.aload_n 2 dL_law_2295 rfl rfl ?_
      refine I.callV0i (d' := d - 1) (mi' := mX9_thrown) dL_law_2296 lL_151 eX9_thrown rfl rfl (c_X9_thrown (d := d - 1) hl (by omega)) (show d - 1 + 1 ≤ d from by omega) (Nat.le_of_ble_eq_true rfl) ?_
      refine I.sx hm2.2.2 ?_
      refine J.iload dL_law_2299 rfl ?_
      refine I.icmpS 2306 dL_law_2301 (by decide) ?_
      refine J.iload dL_law_2306 rfl ?_
      refine I.if_ne0 (tgt := 2323) dL_law_2308 (by decide) ?_
      refine J.aload_n 3 dL_law_2311 rfl rfl ?_
      refine I.iconst dL_law_2312 ?_
      refine I.lald0 hε dL_law_2313 ?_
      refine J.iload dL_law_2314 rfl ?_
      refine J.i2l dL_law_2316 ?_
      refine I.lcmpS dL_law_2317 ?_
      refine I.if_eq0 2323 dL_law_2318 (by decide) ?_
      refine J.goto 2839 dL_law_2323 (by decide) ?_
      refine J.fgt (L' := [some (.ref 2000000), some (.ref 0), some (.ref 137), some (.ref 142), some (.ref 143), some (.int (iI (i : Int))), none, none, none]) (by exact ⟨Or.inr rfl, Or.inr rfl, Or.inr rfl, Or.inr rfl, Or.inr rfl, Or.inr rfl, Or.inl rfl, Or.inl rfl, Or.inl rfl, trivial⟩) ?_
      exact J.mono (kx s2 _ _ (j) (hc.1.hi hm2.2.1) hm2.1) (fun _ _ h => h) (fun _ _ h => h) ⟨show d ≤ d from Nat.le_refl d, by show mc ≤ mc + 2 - 1; omega, by show ms ≤ ms + 12 - 6; omega⟩
    · exact absurd hcond hm
  · skip
    obtain ⟨hcond, e1⟩ := hx
    have hc : CI s1 a ∧ HiE s s1 := by subst e1; exact ⟨h, fun _ _ _ => rfl⟩
    have m1 : MI s1 a := m.lo hc.2
    refine J.aload_n 2 dL_law_2289 rfl rfl ?_
    refine I.callV0q (d' := d - 1) (mi' := mX9_greedyMove) dL_law_2290 lL_325 eX9_greedyMove rfl rfl (c_X9_greedyMove (d := d - 1) hl (by omega) (m1.w j)) (show d - 1 + 1 ≤ d from by omega) (Nat.le_of_ble_eq_true rfl) ?_
    rintro w9 s2 h2
    rcases h2 with ⟨hm, rfl, e2⟩ | ⟨hm, e2⟩
    · exact absurd hm hcond
    · skip
      have hm2 : MI s2 a ∧ LoE s1 s2 ∧ s2 137 0 = 1 := by subst e2; exact ⟨m1.th, fun q i hq => up_ne (by omega), up_eq _ _ _ _⟩
      refine J.istore dL_law_2293 (by decide) rfl ?_
      refine J.aload_n 2 dL_law_2295 rfl rfl ?_
      refine I.callV0i (d' := d - 1) (mi' := mX9_thrown) dL_law_2296 lL_151 eX9_thrown rfl rfl (c_X9_thrown (d := d - 1) hl (by omega)) (show d - 1 + 1 ≤ d from by omega) (Nat.le_of_ble_eq_true rfl) ?_
      refine I.sx hm2.2.2 ?_
      refine J.iload dL_law_2299 rfl ?_
      refine I.icmpS 2306 dL_law_2301 (by decide) ?_
      refine J.iload dL_law_2306 rfl ?_
      refine I.if_ne1 (Or.inl rfl) 2323 dL_law_2308 (by decide) ?_
      refine J.goto 2839 dL_law_2323 (by decide) ?_
      refine J.fgt (L' := [some (.ref 2000000), some (.ref 0), some (.ref 137), some (.ref 142), some (.ref 143), some (.int (iI (i : Int))), none, none, none]) (by exact ⟨Or.inr rfl, Or.inr rfl, Or.inr rfl, Or.inr rfl, Or.inr rfl, Or.inr rfl, Or.inl rfl, Or.inl rfl, Or.inl rfl, trivial⟩) ?_
      exact J.mono (kx s2 _ _ (j) (hc.1.hi hm2.2.1) hm2.1) (fun _ _ h => h) (fun _ _ h => h) ⟨show d ≤ d from Nat.le_refl d, by show mc ≤ mc + 2 - 1; omega, by show ms ≤ ms + 12 - 6; omega⟩
  · exact absurd hx id
set_option maxHeartbeats 4000000 in
theorem lc_50 {Γ : jE} (hl : Γ.1.stackTraces = false) {Ls : Nat} {xs : Nat → Int32} (hsc : Γ.2.2 = some (Ls, xs)) {s : Nat → Int → Int} {ε : jEps} {d i mc ms : Nat} {a : AS} {P : Option Value → jM → Prop} {X : String → jM → Prop} (hd : 131 ≤ d) (hi : i + 6 ≤ Ls) (hL : Ls ≤ 3072) (h : CI s a) (m : MI s a) (j : AI a) (kx : ∀ s' ε' a', AI a' → CI s' a' → MI s' a' → J Γ (d, mc, ms) mL_law 2839 [some (.ref 2000000), some (.ref 0), some (.ref 137), some (.ref 142), some (.ref 143), some (.int (iI (i : Int))), none, none, none] [] (jmem s' ε') P X) : J Γ (d, mc + 2, ms + 12) mL_law 2326 [some (.ref 2000000), some (.ref 0), some (.ref 137), some (.ref 142), some (.ref 143), some (.int (iI (i : Int))), none, none, none] [] (jmem s ε) P X := by
  refine J.aload_n 1 dL_law_2326 rfl rfl ?_
  refine I.callV0q (d' := d - 1) (mi' := mX8_greedyDifference) dL_law_2327 lL_326 eX8_greedyDifference rfl rfl (c_X8_greedyDifference (d := d - 1) hl (by omega) h.m) (show d - 1 + 1 ≤ d from by omega) (Nat.le_of_ble_eq_true rfl) ?_
  rintro r9 s1 ⟨rfl, e1⟩
  have hc : CI s1 a ∧ HiE s s1 := ⟨h.keep (h.so.keep fun q j x => e1 q j (by omega)) (fun q i x => e1 q i (by omega)), fun q i x => e1 q i (by omega)⟩
  have m1 : MI s1 a := m.lo hc.2
  refine J.aload_n 2 dL_law_2330 rfl rfl ?_
  refine I.callV0q (d' := d - 1) (mi' := mX9_greedyDifference) dL_law_2331 lL_329 eX9_greedyDifference rfl rfl (c_X9_greedyDifference (d := d - 1) hl (by omega) (m1.w j) m1.1) (show d - 1 + 1 ≤ d from by omega) (Nat.le_of_ble_eq_true rfl) ?_
  rintro w9 s2 ⟨rfl, e2⟩
  have hm2 : MI s2 a ∧ LoE s1 s2 ∧ s2 137 0 = 0 := ⟨(m1.mfr e2).1, (m1.mfr e2).2, e2.2.2.2.1⟩
  refine I.icmpS 2839 dL_law_2334 (by decide) ?_
  refine J.fgt (L' := [some (.ref 2000000), some (.ref 0), some (.ref 137), some (.ref 142), some (.ref 143), some (.int (iI (i : Int))), none, none, none]) (by exact ⟨Or.inr rfl, Or.inr rfl, Or.inr rfl, Or.inr rfl, Or.inr rfl, Or.inr rfl, Or.inl rfl, Or.inl rfl, Or.inl rfl, trivial⟩) ?_
  exact J.mono (kx s2 _ _ (j) (hc.1.hi hm2.2.1) hm2.1) (fun _ _ h => h) (fun _ _ h => h) ⟨show d ≤ d from Nat.le_refl d, by show mc ≤ mc + 2 - 0; omega, by show ms ≤ ms + 12 - 0; omega⟩
set_option maxHeartbeats 4000000 in
theorem lc_51 {Γ : jE} (hl : Γ.1.stackTraces = false) {Ls : Nat} {xs : Nat → Int32} (hsc : Γ.2.2 = some (Ls, xs)) {s : Nat → Int → Int} {ε : jEps} {d i mc ms : Nat} {a : AS} {P : Option Value → jM → Prop} {X : String → jM → Prop} (hd : 131 ≤ d) (hi : i + 6 ≤ Ls) (hL : Ls ≤ 3072) (h : CI s a) (m : MI s a) (j : AI a) (kx : ∀ s' ε' a', AI a' → CI s' a' → MI s' a' → J Γ (d, mc, ms) mL_law 2839 [some (.ref 2000000), some (.ref 0), some (.ref 137), some (.ref 142), some (.ref 143), some (.int (iI (i : Int))), none, none, none] [] (jmem s' ε') P X) : J Γ (d, mc + 2, ms + 12) mL_law 2339 [some (.ref 2000000), some (.ref 0), some (.ref 137), some (.ref 142), some (.ref 143), some (.int (iI (i : Int))), none, none, none] [] (jmem s ε) P X := by
  refine J.aload_n 1 dL_law_2339 rfl rfl ?_
  refine I.callV0q (d' := d - 1) (mi' := mX8_differenceAgainstGreedy) dL_law_2340 lL_330 eX8_differenceAgainstGreedy rfl rfl (c_X8_differenceAgainstGreedy (d := d - 1) hl (by omega) h.m h.so) (show d - 1 + 1 ≤ d from by omega) (Nat.le_of_ble_eq_true rfl) ?_
  rintro r9 s1 ⟨rfl, e1⟩
  have hc := h.cfr e1
  have m1 : MI s1 a := m.lo hc.2
  refine J.aload_n 2 dL_law_2343 rfl rfl ?_
  refine I.callV0q (d' := d - 1) (mi' := mX9_differenceAgainstGreedy) dL_law_2344 lL_333 eX9_differenceAgainstGreedy rfl rfl (c_X9_differenceAgainstGreedy (d := d - 1) hl (by omega) (m1.w j) m1.1) (show d - 1 + 1 ≤ d from by omega) (Nat.le_of_ble_eq_true rfl) ?_
  rintro w9 s2 ⟨rfl, e2⟩
  have hm2 : MI s2 a ∧ LoE s1 s2 ∧ s2 137 0 = 0 := ⟨(m1.mfr e2).1, (m1.mfr e2).2, e2.2.2.2.1⟩
  refine I.icmpS 2839 dL_law_2347 (by decide) ?_
  refine J.fgt (L' := [some (.ref 2000000), some (.ref 0), some (.ref 137), some (.ref 142), some (.ref 143), some (.int (iI (i : Int))), none, none, none]) (by exact ⟨Or.inr rfl, Or.inr rfl, Or.inr rfl, Or.inr rfl, Or.inr rfl, Or.inr rfl, Or.inl rfl, Or.inl rfl, Or.inl rfl, trivial⟩) ?_
  exact J.mono (kx s2 _ _ (j) (hc.1.hi hm2.2.1) hm2.1) (fun _ _ h => h) (fun _ _ h => h) ⟨show d ≤ d from Nat.le_refl d, by show mc ≤ mc + 2 - 0; omega, by show ms ≤ ms + 12 - 0; omega⟩
set_option maxHeartbeats 4000000 in
theorem lc_52 {Γ : jE} (hl : Γ.1.stackTraces = false) {Ls : Nat} {xs : Nat → Int32} (hsc : Γ.2.2 = some (Ls, xs)) {s : Nat → Int → Int} {ε : jEps} {d i mc ms : Nat} {a : AS} {P : Option Value → jM → Prop} {X : String → jM → Prop} (hd : 131 ≤ d) (hi : i + 6 ≤ Ls) (hL : Ls ≤ 3072) (h : CI s a) (m : MI s a) (j : AI a) (kx : ∀ s' ε' a', AI a' → CI s' a' → MI s' a' → J Γ (d, mc, ms) mL_law 2839 [some (.ref 2000000), some (.ref 0), some (.ref 137), some (.ref 142), some (.ref 143), some (.int (iI (i : Int))), none, none, none] [] (jmem s' ε') P X) : J Γ (d, mc + 2, ms + 12) mL_law 2352 [some (.ref 2000000), some (.ref 0), some (.ref 137), some (.ref 142), some (.ref 143), some (.int (iI (i : Int))), none, none, none] [] (jmem s ε) P X := by
  refine J.aload_n 1 dL_law_2352 rfl rfl ?_
  refine I.callV0q (d' := d - 1) (mi' := mX8_greedyAgainstBest) dL_law_2353 lL_334 eX8_greedyAgainstBest rfl rfl (c_X8_greedyAgainstBest (d := d - 1) hl (by omega) h.m h.so) (show d - 1 + 1 ≤ d from by omega) (Nat.le_of_ble_eq_true rfl) ?_
  rintro r9 s1 ⟨rfl, e1⟩
  have hc := h.cfr e1
  have m1 : MI s1 a := m.lo hc.2
  refine J.aload_n 2 dL_law_2356 rfl rfl ?_
  refine I.callV0q (d' := d - 1) (mi' := mX9_greedyAgainstBest) dL_law_2357 lL_337 eX9_greedyAgainstBest rfl rfl (c_X9_greedyAgainstBest (d := d - 1) hl (by omega) (m1.w j) m1.1) (show d - 1 + 1 ≤ d from by omega) (Nat.le_of_ble_eq_true rfl) ?_
  rintro w9 s2 ⟨rfl, e2⟩
  have hm2 : MI s2 a ∧ LoE s1 s2 ∧ s2 137 0 = 0 := ⟨(m1.mfr e2).1, (m1.mfr e2).2, e2.2.2.2.1⟩
  refine I.icmpS 2839 dL_law_2360 (by decide) ?_
  refine J.fgt (L' := [some (.ref 2000000), some (.ref 0), some (.ref 137), some (.ref 142), some (.ref 143), some (.int (iI (i : Int))), none, none, none]) (by exact ⟨Or.inr rfl, Or.inr rfl, Or.inr rfl, Or.inr rfl, Or.inr rfl, Or.inr rfl, Or.inl rfl, Or.inl rfl, Or.inl rfl, trivial⟩) ?_
  exact J.mono (kx s2 _ _ (j) (hc.1.hi hm2.2.1) hm2.1) (fun _ _ h => h) (fun _ _ h => h) ⟨show d ≤ d from Nat.le_refl d, by show mc ≤ mc + 2 - 0; omega, by show ms ≤ ms + 12 - 0; omega⟩
set_option maxHeartbeats 4000000 in
theorem lc_53 {Γ : jE} (hl : Γ.1.stackTraces = false) {Ls : Nat} {xs : Nat → Int32} (hsc : Γ.2.2 = some (Ls, xs)) {s : Nat → Int → Int} {ε : jEps} {d i mc ms : Nat} {a : AS} {P : Option Value → jM → Prop} {X : String → jM → Prop} (hd : 131 ≤ d) (hi : i + 6 ≤ Ls) (hL : Ls ≤ 3072) (h : CI s a) (m : MI s a) (j : AI a) (kx : ∀ s' ε' a', AI a' → CI s' a' → MI s' a' → J Γ (d, mc, ms) mL_law 2839 [some (.ref 2000000), some (.ref 0), some (.ref 137), some (.ref 142), some (.ref 143), some (.int (iI (i : Int))), none, none, none] [] (jmem s' ε') P X) : J Γ (d, mc + 2, ms + 12) mL_law 2365 [some (.ref 2000000), some (.ref 0), some (.ref 137), some (.ref 142), some (.ref 143), some (.int (iI (i : Int))), none, none, none] [] (jmem s ε) P X := by
  by_cases hb9 : (xs (i + 2)).toInt = 0
  · skip
    refine J.aload_n 1 dL_law_2365 rfl rfl ?_
    refine J.aload_n 0 dL_law_2366 rfl rfl ?_
    refine J.iload dL_law_2367 rfl ?_
    refine I.iconst dL_law_2369 ?_
    refine I.add dL_law_2370 ?_
    refine I.sld (j := i + 1) hsc (by omega) (by omega) hL dL_law_2371 ?_
    refine J.aload_n 0 dL_law_2372 rfl rfl ?_
    refine J.iload dL_law_2373 rfl ?_
    refine I.iconst dL_law_2375 ?_
    refine I.add dL_law_2376 ?_
    refine I.sld (j := i + 2) hsc (by omega) (by omega) hL dL_law_2377 ?_
    refine I.if_eq 2385 dL_law_2378 (by decide) (iI_rng _) (fun hz => ?_) (fun hz => ?_)
    rotate_left
    · exact absurd hb9 hz
    refine I.iconst dL_law_2385 ?_
    refine J.aload_n 3 dL_law_2386 rfl rfl ?_
    refine J.callW4 (b' := (d - 1, 2, 12)) (mi' := mL_burn) dL_law_2387 lL_338 eL_burn (c_L_burn (d := d - 1) hl (by omega) h j (iI_rng _) (by decide)) (show d - 1 + 1 ≤ d ∧ 2 ≤ mc + 2 ∧ 12 ≤ ms + 12 from ⟨by omega, by omega, by omega⟩) (Nat.le_of_ble_eq_true rfl) ?_
    rintro v M' ⟨s1, ε1, k9, rfl, rfl, hk⟩
    refine J.istore dL_law_2390 (by decide) rfl ?_
    rcases hk with ⟨rfl, r9, hq, hε⟩ | ⟨rfl, hx⟩ | ⟨rfl, hx⟩
    · skip
      obtain ⟨hcond, rfl, e1⟩ := hq
      have hc := e1
      have m1 : MI s1 a := m.lo hc.2
      have lg : gLegal (aF a) (2 * (xs (i + 1)).toInt + (1 - 0)) := by
        obtain ⟨⟨u1, u2⟩, u3, u4⟩ := hcond
        exact Or.inr ⟨by omega, by omega, by rw [show (2 * (xs (i + 1)).toInt + (1 - 0)) / 2 = (xs (i + 1)).toInt by omega]; omega⟩
      refine J.aload_n 2 dL_law_2392 rfl rfl ?_
      refine J.aload_n 0 dL_law_2393 rfl rfl ?_
      refine J.iload dL_law_2394 rfl ?_
      refine I.iconst dL_law_2396 ?_
      refine I.add dL_law_2397 ?_
      refine I.sld (j := i + 1) hsc (by omega) (by omega) hL dL_law_2398 ?_
      refine J.aload_n 0 dL_law_2399 rfl rfl ?_
      refine J.iload dL_law_2400 rfl ?_
      refine I.iconst dL_law_2402 ?_
      refine I.add dL_law_2403 ?_
      refine I.sld (j := i + 2) hsc (by omega) (by omega) hL dL_law_2404 ?_
      refine I.if_eq 2412 dL_law_2405 (by decide) (iI_rng _) (fun hz => ?_) (fun hz => ?_)
      rotate_left
      · exact absurd hb9 hz
      refine I.iconst dL_law_2412 ?_
      refine I.callV2q (d' := d - 1) (mi' := mX9_burn) dL_law_2413 lL_341 eX9_burn rfl rfl (c_X9_burn (d := d - 1) hl (by omega) m1 j (iI_rng _) (by decide)) (show d - 1 + 1 ≤ d from by omega) (Nat.le_of_ble_eq_true rfl) ?_
      rintro w9 s2 h2
      rcases h2 with ⟨hm, rfl, e2⟩ | ⟨hm, e2⟩ | ⟨hm, e2⟩
      · skip
        have hm2 := And.intro e2.1 (And.intro e2.2.2 e2.2.1)
        refine J.istore dL_law_2416 (by decide) rfl ?_
        refine J.aload_n 2 dL_law_2418 rfl rfl ?_
        refine I.callV0i (d' := d - 1) (mi' := mX9_thrown) dL_law_2419 lL_151 eX9_thrown rfl rfl (c_X9_thrown (d := d - 1) hl (by omega)) (show d - 1 + 1 ≤ d from by omega) (Nat.le_of_ble_eq_true rfl) ?_
        refine I.sx hm2.2.2 ?_
        refine J.iload dL_law_2422 rfl ?_
        refine I.icmpS 2429 dL_law_2424 (by decide) ?_
        refine J.iload dL_law_2429 rfl ?_
        refine I.if_ne0 (tgt := 2446) dL_law_2431 (by decide) ?_
        refine J.aload_n 3 dL_law_2434 rfl rfl ?_
        refine I.iconst dL_law_2435 ?_
        refine I.lald0 hε dL_law_2436 ?_
        refine J.iload dL_law_2437 rfl ?_
        refine J.i2l dL_law_2439 ?_
        refine I.lcmpS dL_law_2440 ?_
        refine I.if_eq0 2446 dL_law_2441 (by decide) ?_
        refine J.goto 2839 dL_law_2446 (by decide) ?_
        refine J.fgt (L' := [some (.ref 2000000), some (.ref 0), some (.ref 137), some (.ref 142), some (.ref 143), some (.int (iI (i : Int))), none, none, none]) (by exact ⟨Or.inr rfl, Or.inr rfl, Or.inr rfl, Or.inr rfl, Or.inr rfl, Or.inr rfl, Or.inl rfl, Or.inl rfl, Or.inl rfl, trivial⟩) ?_
        exact J.mono (kx s2 _ _ (AI.set (AI.rec j) (gPlay_lay j.1.1 j.1.2 lg) hc.1.m.2.2.2) (hc.1.hi hm2.2.1) hm2.1) (fun _ _ h => h) (fun _ _ h => h) ⟨show d ≤ d from Nat.le_refl d, by show mc ≤ mc + 2 - 2; omega, by show ms ≤ ms + 12 - 12; omega⟩
      · exact absurd hcond.1 hm
      · exact absurd hcond.2 hm.2
    · skip
      obtain ⟨hcond, e1⟩ := hx
      have hc : CI s1 a ∧ HiE s s1 := by subst e1; exact ⟨h, fun _ _ _ => rfl⟩
      have m1 : MI s1 a := m.lo hc.2
      refine J.aload_n 2 dL_law_2392 rfl rfl ?_
      refine J.aload_n 0 dL_law_2393 rfl rfl ?_
      refine J.iload dL_law_2394 rfl ?_
      refine I.iconst dL_law_2396 ?_
      refine I.add dL_law_2397 ?_
      refine I.sld (j := i + 1) hsc (by omega) (by omega) hL dL_law_2398 ?_
      refine J.aload_n 0 dL_law_2399 rfl rfl ?_
      refine J.iload dL_law_2400 rfl ?_
      refine I.iconst dL_law_2402 ?_
      refine I.add dL_law_2403 ?_
      refine I.sld (j := i + 2) hsc (by omega) (by omega) hL dL_law_2404 ?_
      refine I.if_eq 2412 dL_law_2405 (by decide) (iI_rng _) (fun hz => ?_) (fun hz => ?_)
      rotate_left
      · exact absurd hb9 hz
      refine I.iconst dL_law_2412 ?_
      refine I.callV2q (d' := d - 1) (mi' := mX9_burn) dL_law_2413 lL_341 eX9_burn rfl rfl (c_X9_burn (d := d - 1) hl (by omega) m1 j (iI_rng _) (by decide)) (show d - 1 + 1 ≤ d from by omega) (Nat.le_of_ble_eq_true rfl) ?_
      rintro w9 s2 h2
      rcases h2 with ⟨hm, rfl, e2⟩ | ⟨hm, e2⟩ | ⟨hm, e2⟩
      · exact absurd hm.1 hcond
      · skip
        have hm2 : MI s2 a ∧ LoE s1 s2 ∧ s2 137 0 = 1 := by subst e2; exact ⟨m1.th, fun q i hq => up_ne (by omega), up_eq _ _ _ _⟩
        refine J.istore dL_law_2416 (by decide) rfl ?_
        refine J.aload_n 2 dL_law_2418 rfl rfl ?_
        refine I.callV0i (d' := d - 1) (mi' := mX9_thrown) dL_law_2419 lL_151 eX9_thrown rfl rfl (c_X9_thrown (d := d - 1) hl (by omega)) (show d - 1 + 1 ≤ d from by omega) (Nat.le_of_ble_eq_true rfl) ?_
        refine I.sx hm2.2.2 ?_
        refine J.iload dL_law_2422 rfl ?_
        refine I.icmpS 2429 dL_law_2424 (by decide) ?_
        refine J.iload dL_law_2429 rfl ?_
        refine I.if_ne1 (Or.inl rfl) 2446 dL_law_2431 (by decide) ?_
        refine J.goto 2839 dL_law_2446 (by decide) ?_
        refine J.fgt (L' := [some (.ref 2000000), some (.ref 0), some (.ref 137), some (.ref 142), some (.ref 143), some (.int (iI (i : Int))), none, none, none]) (by exact ⟨Or.inr rfl, Or.inr rfl, Or.inr rfl, Or.inr rfl, Or.inr rfl, Or.inr rfl, Or.inl rfl, Or.inl rfl, Or.inl rfl, trivial⟩) ?_
        exact J.mono (kx s2 _ _ (j) (hc.1.hi hm2.2.1) hm2.1) (fun _ _ h => h) (fun _ _ h => h) ⟨show d ≤ d from Nat.le_refl d, by show mc ≤ mc + 2 - 2; omega, by show ms ≤ ms + 12 - 12; omega⟩
      · exact absurd hm.1 hcond
    · skip
      obtain ⟨hcond, e1⟩ := hx
      have hc : CI s1 a ∧ HiE s s1 := by subst e1; exact ⟨h, fun _ _ _ => rfl⟩
      have m1 : MI s1 a := m.lo hc.2
      refine J.aload_n 2 dL_law_2392 rfl rfl ?_
      refine J.aload_n 0 dL_law_2393 rfl rfl ?_
      refine J.iload dL_law_2394 rfl ?_
      refine I.iconst dL_law_2396 ?_
      refine I.add dL_law_2397 ?_
      refine I.sld (j := i + 1) hsc (by omega) (by omega) hL dL_law_2398 ?_
      refine J.aload_n 0 dL_law_2399 rfl rfl ?_
      refine J.iload dL_law_2400 rfl ?_
      refine I.iconst dL_law_2402 ?_
      refine I.add dL_law_2403 ?_
      refine I.sld (j := i + 2) hsc (by omega) (by omega) hL dL_law_2404 ?_
      refine I.if_eq 2412 dL_law_2405 (by decide) (iI_rng _) (fun hz => ?_) (fun hz => ?_)
      rotate_left
      · exact absurd hb9 hz
      refine I.iconst dL_law_2412 ?_
      refine I.callV2q (d' := d - 1) (mi' := mX9_burn) dL_law_2413 lL_341 eX9_burn rfl rfl (c_X9_burn (d := d - 1) hl (by omega) m1 j (iI_rng _) (by decide)) (show d - 1 + 1 ≤ d from by omega) (Nat.le_of_ble_eq_true rfl) ?_
      rintro w9 s2 h2
      rcases h2 with ⟨hm, rfl, e2⟩ | ⟨hm, e2⟩ | ⟨hm, e2⟩
      · exact absurd hm.2 hcond.2
      · exact absurd hcond.1 hm
      · skip
        have hm2 : MI s2 a ∧ LoE s1 s2 ∧ s2 137 0 = 2 := by subst e2; exact ⟨m1.th, fun q i hq => up_ne (by omega), up_eq _ _ _ _⟩
        refine J.istore dL_law_2416 (by decide) rfl ?_
        refine J.aload_n 2 dL_law_2418 rfl rfl ?_
        refine I.callV0i (d' := d - 1) (mi' := mX9_thrown) dL_law_2419 lL_151 eX9_thrown rfl rfl (c_X9_thrown (d := d - 1) hl (by omega)) (show d - 1 + 1 ≤ d from by omega) (Nat.le_of_ble_eq_true rfl) ?_
        refine I.sx hm2.2.2 ?_
        refine J.iload dL_law_2422 rfl ?_
        refine I.icmpS 2429 dL_law_2424 (by decide) ?_
        refine J.iload dL_law_2429 rfl ?_
        refine I.if_ne1 (Or.inr rfl) 2446 dL_law_2431 (by decide) ?_
        refine J.goto 2839 dL_law_2446 (by decide) ?_
        refine J.fgt (L' := [some (.ref 2000000), some (.ref 0), some (.ref 137), some (.ref 142), some (.ref 143), some (.int (iI (i : Int))), none, none, none]) (by exact ⟨Or.inr rfl, Or.inr rfl, Or.inr rfl, Or.inr rfl, Or.inr rfl, Or.inr rfl, Or.inl rfl, Or.inl rfl, Or.inl rfl, trivial⟩) ?_
        exact J.mono (kx s2 _ _ (j) (hc.1.hi hm2.2.1) hm2.1) (fun _ _ h => h) (fun _ _ h => h) ⟨show d ≤ d from Nat.le_refl d, by show mc ≤ mc + 2 - 2; omega, by show ms ≤ ms + 12 - 12; omega⟩
  · skip
    refine J.aload_n 1 dL_law_2365 rfl rfl ?_
    refine J.aload_n 0 dL_law_2366 rfl rfl ?_
    refine J.iload dL_law_2367 rfl ?_
    refine I.iconst dL_law_2369 ?_
    refine I.add dL_law_2370 ?_
    refine I.sld (j := i + 1) hsc (by omega) (by omega) hL dL_law_2371 ?_
    refine J.aload_n 0 dL_law_2372 rfl rfl ?_
    refine J.iload dL_law_2373 rfl ?_
    refine I.iconst dL_law_2375 ?_
    refine I.add dL_law_2376 ?_
    refine I.sld (j := i + 2) hsc (by omega) (by omega) hL dL_law_2377 ?_
    refine I.if_eq 2385 dL_law_2378 (by decide) (iI_rng _) (fun hz => ?_) (fun hz => ?_)
    · exact absurd hz hb9
    refine I.iconst dL_law_2381 ?_
    refine J.goto 2386 dL_law_2382 (by decide) ?_
    refine J.aload_n 3 dL_law_2386 rfl rfl ?_
    refine J.callW4 (b' := (d - 1, 2, 12)) (mi' := mL_burn) dL_law_2387 lL_338 eL_burn (c_L_burn (d := d - 1) hl (by omega) h j (iI_rng _) (by decide)) (show d - 1 + 1 ≤ d ∧ 2 ≤ mc + 2 ∧ 12 ≤ ms + 12 from ⟨by omega, by omega, by omega⟩) (Nat.le_of_ble_eq_true rfl) ?_
    rintro v M' ⟨s1, ε1, k9, rfl, rfl, hk⟩
    refine J.istore dL_law_2390 (by decide) rfl ?_
    rcases hk with ⟨rfl, r9, hq, hε⟩ | ⟨rfl, hx⟩ | ⟨rfl, hx⟩
    · skip
      obtain ⟨hcond, rfl, e1⟩ := hq
      have hc := e1
      have m1 : MI s1 a := m.lo hc.2
      have lg : gLegal (aF a) (2 * (xs (i + 1)).toInt + (1 - 1)) := by
        obtain ⟨⟨u1, u2⟩, u3, u4⟩ := hcond
        exact Or.inr ⟨by omega, by omega, by rw [show (2 * (xs (i + 1)).toInt + (1 - 1)) / 2 = (xs (i + 1)).toInt by omega]; omega⟩
      refine J.aload_n 2 dL_law_2392 rfl rfl ?_
      refine J.aload_n 0 dL_law_2393 rfl rfl ?_
      refine J.iload dL_law_2394 rfl ?_
      refine I.iconst dL_law_2396 ?_
      refine I.add dL_law_2397 ?_
      refine I.sld (j := i + 1) hsc (by omega) (by omega) hL dL_law_2398 ?_
      refine J.aload_n 0 dL_law_2399 rfl rfl ?_
      refine J.iload dL_law_2400 rfl ?_
      refine I.iconst dL_law_2402 ?_
      refine I.add dL_law_2403 ?_
      refine I.sld (j := i + 2) hsc (by omega) (by omega) hL dL_law_2404 ?_
      refine I.if_eq 2412 dL_law_2405 (by decide) (iI_rng _) (fun hz => ?_) (fun hz => ?_)
      · exact absurd hz hb9
      refine I.iconst dL_law_2408 ?_
      refine J.goto 2413 dL_law_2409 (by decide) ?_
      refine I.callV2q (d' := d - 1) (mi' := mX9_burn) dL_law_2413 lL_341 eX9_burn rfl rfl (c_X9_burn (d := d - 1) hl (by omega) m1 j (iI_rng _) (by decide)) (show d - 1 + 1 ≤ d from by omega) (Nat.le_of_ble_eq_true rfl) ?_
      rintro w9 s2 h2
      rcases h2 with ⟨hm, rfl, e2⟩ | ⟨hm, e2⟩ | ⟨hm, e2⟩
      · skip
        have hm2 := And.intro e2.1 (And.intro e2.2.2 e2.2.1)
        refine J.istore dL_law_2416 (by decide) rfl ?_
        refine J.aload_n 2 dL_law_2418 rfl rfl ?_
        refine I.callV0i (d' := d - 1) (mi' := mX9_thrown) dL_law_2419 lL_151 eX9_thrown rfl rfl (c_X9_thrown (d := d - 1) hl (by omega)) (show d - 1 + 1 ≤ d from by omega) (Nat.le_of_ble_eq_true rfl) ?_
        refine I.sx hm2.2.2 ?_
        refine J.iload dL_law_2422 rfl ?_
        refine I.icmpS 2429 dL_law_2424 (by decide) ?_
        refine J.iload dL_law_2429 rfl ?_
        refine I.if_ne0 (tgt := 2446) dL_law_2431 (by decide) ?_
        refine J.aload_n 3 dL_law_2434 rfl rfl ?_
        refine I.iconst dL_law_2435 ?_
        refine I.lald0 hε dL_law_2436 ?_
        refine J.iload dL_law_2437 rfl ?_
        refine J.i2l dL_law_2439 ?_
        refine I.lcmpS dL_law_2440 ?_
        refine I.if_eq0 2446 dL_law_2441 (by decide) ?_
        refine J.goto 2839 dL_law_2446 (by decide) ?_
        refine J.fgt (L' := [some (.ref 2000000), some (.ref 0), some (.ref 137), some (.ref 142), some (.ref 143), some (.int (iI (i : Int))), none, none, none]) (by exact ⟨Or.inr rfl, Or.inr rfl, Or.inr rfl, Or.inr rfl, Or.inr rfl, Or.inr rfl, Or.inl rfl, Or.inl rfl, Or.inl rfl, trivial⟩) ?_
        exact J.mono (kx s2 _ _ (AI.set (AI.rec j) (gPlay_lay j.1.1 j.1.2 lg) hc.1.m.2.2.2) (hc.1.hi hm2.2.1) hm2.1) (fun _ _ h => h) (fun _ _ h => h) ⟨show d ≤ d from Nat.le_refl d, by show mc ≤ mc + 2 - 2; omega, by show ms ≤ ms + 12 - 12; omega⟩
      · exact absurd hcond.1 hm
      · exact absurd hcond.2 hm.2
    · skip
      obtain ⟨hcond, e1⟩ := hx
      have hc : CI s1 a ∧ HiE s s1 := by subst e1; exact ⟨h, fun _ _ _ => rfl⟩
      have m1 : MI s1 a := m.lo hc.2
      refine J.aload_n 2 dL_law_2392 rfl rfl ?_
      refine J.aload_n 0 dL_law_2393 rfl rfl ?_
      refine J.iload dL_law_2394 rfl ?_
      refine I.iconst dL_law_2396 ?_
      refine I.add dL_law_2397 ?_
      refine I.sld (j := i + 1) hsc (by omega) (by omega) hL dL_law_2398 ?_
      refine J.aload_n 0 dL_law_2399 rfl rfl ?_
      refine J.iload dL_law_2400 rfl ?_
      refine I.iconst dL_law_2402 ?_
      refine I.add dL_law_2403 ?_
      refine I.sld (j := i + 2) hsc (by omega) (by omega) hL dL_law_2404 ?_
      refine I.if_eq 2412 dL_law_2405 (by decide) (iI_rng _) (fun hz => ?_) (fun hz => ?_)
      · exact absurd hz hb9
      refine I.iconst dL_law_2408 ?_
      refine J.goto 2413 dL_law_2409 (by decide) ?_
      refine I.callV2q (d' := d - 1) (mi' := mX9_burn) dL_law_2413 lL_341 eX9_burn rfl rfl (c_X9_burn (d := d - 1) hl (by omega) m1 j (iI_rng _) (by decide)) (show d - 1 + 1 ≤ d from by omega) (Nat.le_of_ble_eq_true rfl) ?_
      rintro w9 s2 h2
      rcases h2 with ⟨hm, rfl, e2⟩ | ⟨hm, e2⟩ | ⟨hm, e2⟩
      · exact absurd hm.1 hcond
      · skip
        have hm2 : MI s2 a ∧ LoE s1 s2 ∧ s2 137 0 = 1 := by subst e2; exact ⟨m1.th, fun q i hq => up_ne (by omega), up_eq _ _ _ _⟩
        refine J.istore dL_law_2416 (by decide) rfl ?_
        refine J.aload_n 2 dL_law_2418 rfl rfl ?_
        refine I.callV0i (d' := d - 1) (mi' := mX9_thrown) dL_law_2419 lL_151 eX9_thrown rfl rfl (c_X9_thrown (d := d - 1) hl (by omega)) (show d - 1 + 1 ≤ d from by omega) (Nat.le_of_ble_eq_true rfl) ?_
        refine I.sx hm2.2.2 ?_
        refine J.iload dL_law_2422 rfl ?_
        refine I.icmpS 2429 dL_law_2424 (by decide) ?_
        refine J.iload dL_law_2429 rfl ?_
        refine I.if_ne1 (Or.inl rfl) 2446 dL_law_2431 (by decide) ?_
        refine J.goto 2839 dL_law_2446 (by decide) ?_
        refine J.fgt (L' := [some (.ref 2000000), some (.ref 0), some (.ref 137), some (.ref 142), some (.ref 143), some (.int (iI (i : Int))), none, none, none]) (by exact ⟨Or.inr rfl, Or.inr rfl, Or.inr rfl, Or.inr rfl, Or.inr rfl, Or.inr rfl, Or.inl rfl, Or.inl rfl, Or.inl rfl, trivial⟩) ?_
        exact J.mono (kx s2 _ _ (j) (hc.1.hi hm2.2.1) hm2.1) (fun _ _ h => h) (fun _ _ h => h) ⟨show d ≤ d from Nat.le_refl d, by show mc ≤ mc + 2 - 2; omega, by show ms ≤ ms + 12 - 12; omega⟩
      · exact absurd hm.1 hcond
    · skip
      obtain ⟨hcond, e1⟩ := hx
      have hc : CI s1 a ∧ HiE s s1 := by subst e1; exact ⟨h, fun _ _ _ => rfl⟩
      have m1 : MI s1 a := m.lo hc.2
      refine J.aload_n 2 dL_law_2392 rfl rfl ?_
      refine J.aload_n 0 dL_law_2393 rfl rfl ?_
      refine J.iload dL_law_2394 rfl ?_
      refine I.iconst dL_law_2396 ?_
      refine I.add dL_law_2397 ?_
      refine I.sld (j := i + 1) hsc (by omega) (by omega) hL dL_law_2398 ?_
      refine J.aload_n 0 dL_law_2399 rfl rfl ?_
      refine J.iload dL_law_2400 rfl ?_
      refine I.iconst dL_law_2402 ?_
      refine I.add dL_law_2403 ?_
      refine I.sld (j := i + 2) hsc (by omega) (by omega) hL dL_law_2404 ?_
      refine I.if_eq 2412 dL_law_2405 (by decide) (iI_rng _) (fun hz => ?_) (fun hz => ?_)
      · exact absurd hz hb9
      refine I.iconst dL_law_2408 ?_
      refine J.goto 2413 dL_law_2409 (by decide) ?_
      refine I.callV2q (d' := d - 1) (mi' := mX9_burn) dL_law_2413 lL_341 eX9_burn rfl rfl (c_X9_burn (d := d - 1) hl (by omega) m1 j (iI_rng _) (by decide)) (show d - 1 + 1 ≤ d from by omega) (Nat.le_of_ble_eq_true rfl) ?_
      rintro w9 s2 h2
      rcases h2 with ⟨hm, rfl, e2⟩ | ⟨hm, e2⟩ | ⟨hm, e2⟩
      · exact absurd hm.2 hcond.2
      · exact absurd hcond.1 hm
      · skip
        have hm2 : MI s2 a ∧ LoE s1 s2 ∧ s2 137 0 = 2 := by subst e2; exact ⟨m1.th, fun q i hq => up_ne (by omega), up_eq _ _ _ _⟩
        refine J.istore dL_law_2416 (by decide) rfl ?_
        refine J.aload_n 2 dL_law_2418 rfl rfl ?_
        refine I.callV0i (d' := d - 1) (mi' := mX9_thrown) dL_law_2419 lL_151 eX9_thrown rfl rfl (c_X9_thrown (d := d - 1) hl (by omega)) (show d - 1 + 1 ≤ d from by omega) (Nat.le_of_ble_eq_true rfl) ?_
        refine I.sx hm2.2.2 ?_
        refine J.iload dL_law_2422 rfl ?_
        refine I.icmpS 2429 dL_law_2424 (by decide) ?_
        refine J.iload dL_law_2429 rfl ?_
        refine I.if_ne1 (Or.inr rfl) 2446 dL_law_2431 (by decide) ?_
        refine J.goto 2839 dL_law_2446 (by decide) ?_
        refine J.fgt (L' := [some (.ref 2000000), some (.ref 0), some (.ref 137), some (.ref 142), some (.ref 143), some (.int (iI (i : Int))), none, none, none]) (by exact ⟨Or.inr rfl, Or.inr rfl, Or.inr rfl, Or.inr rfl, Or.inr rfl, Or.inr rfl, Or.inl rfl, Or.inl rfl, Or.inl rfl, trivial⟩) ?_
        exact J.mono (kx s2 _ _ (j) (hc.1.hi hm2.2.1) hm2.1) (fun _ _ h => h) (fun _ _ h => h) ⟨show d ≤ d from Nat.le_refl d, by show mc ≤ mc + 2 - 2; omega, by show ms ≤ ms + 12 - 12; omega⟩
set_option maxHeartbeats 4000000 in
theorem lc_54 {Γ : jE} (hl : Γ.1.stackTraces = false) {Ls : Nat} {xs : Nat → Int32} (hsc : Γ.2.2 = some (Ls, xs)) {s : Nat → Int → Int} {ε : jEps} {d i mc ms : Nat} {a : AS} {P : Option Value → jM → Prop} {X : String → jM → Prop} (hd : 131 ≤ d) (hi : i + 6 ≤ Ls) (hL : Ls ≤ 3072) (h : CI s a) (m : MI s a) (j : AI a) (kx : ∀ s' ε' a', AI a' → CI s' a' → MI s' a' → J Γ (d, mc, ms) mL_law 2839 [some (.ref 2000000), some (.ref 0), some (.ref 137), some (.ref 142), some (.ref 143), some (.int (iI (i : Int))), none, none, none] [] (jmem s' ε') P X) : J Γ (d, mc + 2, ms + 12) mL_law 2449 [some (.ref 2000000), some (.ref 0), some (.ref 137), some (.ref 142), some (.ref 143), some (.int (iI (i : Int))), none, none, none] [] (jmem s ε) P X := by
  refine J.aload_n 1 dL_law_2449 rfl rfl ?_
  refine J.aload_n 3 dL_law_2450 rfl rfl ?_
  refine J.callW2 (b' := (d - 1, 1, 6)) (mi' := mL_pass) dL_law_2451 lL_342 eL_pass (c_L_pass (d := d - 1) hl (by omega) h j) (show d - 1 + 1 ≤ d ∧ 1 ≤ mc + 2 ∧ 6 ≤ ms + 12 from ⟨by omega, by omega, by omega⟩) (Nat.le_of_ble_eq_true rfl) ?_
  rintro v M' ⟨s1, ε1, k9, rfl, rfl, hk⟩
  refine J.istore dL_law_2454 (by decide) rfl ?_
  rcases hk with ⟨rfl, r9, hq, hε⟩ | ⟨rfl, hx⟩ | ⟨rfl, hx⟩
  · skip
    obtain ⟨hcond, hr, e1⟩ := hq
    have hc := e1
    have m1 : MI s1 a := m.lo hc.2
    refine J.aload_n 2 dL_law_2456 rfl rfl ?_
    refine I.callV0q (d' := d - 1) (mi' := mX9_pass) dL_law_2457 lL_344 eX9_pass rfl rfl (c_X9_pass (d := d - 1) hl (by omega) m1 j) (show d - 1 + 1 ≤ d from by omega) (Nat.le_of_ble_eq_true rfl) ?_
    rintro w9 s2 h2
    rcases h2 with ⟨hm, hw, e2⟩ | ⟨hm, e2⟩
    · skip
      have hm2 := And.intro e2.1 (And.intro e2.2.2 e2.2.1)
      refine J.istore dL_law_2460 (by decide) rfl ?_
      refine J.aload_n 2 dL_law_2462 rfl rfl ?_
      refine I.callV0i (d' := d - 1) (mi' := mX9_thrown) dL_law_2463 lL_151 eX9_thrown rfl rfl (c_X9_thrown (d := d - 1) hl (by omega)) (show d - 1 + 1 ≤ d from by omega) (Nat.le_of_ble_eq_true rfl) ?_
      refine I.sx hm2.2.2 ?_
      refine J.iload dL_law_2466 rfl ?_
      refine I.icmpS 2473 dL_law_2468 (by decide) ?_
      refine J.iload dL_law_2473 rfl ?_
      refine I.if_ne0 (tgt := 2497) dL_law_2475 (by decide) ?_
      refine J.aload_n 3 dL_law_2478 rfl rfl ?_
      refine I.iconst dL_law_2479 ?_
      have hε2 : ε1.1 142 0 = (iI w9).toInt64 := hε.trans (by rw [hr.symm.trans hw])
      have hb9 : w9 = 0 ∨ w9 = 1 := by rw [← hw]; exact bI_01 _
      refine I.lald0 hε2 dL_law_2480 ?_
      refine J.iload dL_law_2481 rfl ?_
      rcases hb9 with rfl | rfl
      · skip
        refine I.if_eq0 2490 dL_law_2483 (by decide) ?_
        refine J.lconst (iI 0).toInt64 dL_law_2490 (by decide) ?_
        refine I.lcmpS dL_law_2491 ?_
        refine I.if_eq0 2497 dL_law_2492 (by decide) ?_
        refine J.goto 2839 dL_law_2497 (by decide) ?_
        refine J.fgt (L' := [some (.ref 2000000), some (.ref 0), some (.ref 137), some (.ref 142), some (.ref 143), some (.int (iI (i : Int))), none, none, none]) (by exact ⟨Or.inr rfl, Or.inr rfl, Or.inr rfl, Or.inr rfl, Or.inr rfl, Or.inr rfl, Or.inl rfl, Or.inl rfl, Or.inl rfl, trivial⟩) ?_
        exact J.mono (kx s2 _ _ (AI.set (AI.rec j) (gPlay_lay j.1.1 j.1.2 (Or.inl rfl)) hc.1.m.2.2.2) (hc.1.hi hm2.2.1) hm2.1) (fun _ _ h => h) (fun _ _ h => h) ⟨show d ≤ d from Nat.le_refl d, by show mc ≤ mc + 2 - 1; omega, by show ms ≤ ms + 12 - 6; omega⟩
      · skip
        refine J.if_eq 2490 dL_law_2483 (by decide) (fun hz => absurd hz (by decide)) (fun _ => ?_)
        refine J.lconst (iI 1).toInt64 dL_law_2486 (by decide) ?_
        refine J.goto 2491 dL_law_2487 (by decide) ?_
        refine I.lcmpS dL_law_2491 ?_
        refine I.if_eq0 2497 dL_law_2492 (by decide) ?_
        refine J.goto 2839 dL_law_2497 (by decide) ?_
        refine J.fgt (L' := [some (.ref 2000000), some (.ref 0), some (.ref 137), some (.ref 142), some (.ref 143), some (.int (iI (i : Int))), none, none, none]) (by exact ⟨Or.inr rfl, Or.inr rfl, Or.inr rfl, Or.inr rfl, Or.inr rfl, Or.inr rfl, Or.inl rfl, Or.inl rfl, Or.inl rfl, trivial⟩) ?_
        exact J.mono (kx s2 _ _ (AI.set (AI.rec j) (gPlay_lay j.1.1 j.1.2 (Or.inl rfl)) hc.1.m.2.2.2) (hc.1.hi hm2.2.1) hm2.1) (fun _ _ h => h) (fun _ _ h => h) ⟨show d ≤ d from Nat.le_refl d, by show mc ≤ mc + 2 - 1; omega, by show ms ≤ ms + 12 - 6; omega⟩
    · exact absurd hcond hm
  · skip
    obtain ⟨hcond, e1⟩ := hx
    have hc : CI s1 a ∧ HiE s s1 := by subst e1; exact ⟨h, fun _ _ _ => rfl⟩
    have m1 : MI s1 a := m.lo hc.2
    refine J.aload_n 2 dL_law_2456 rfl rfl ?_
    refine I.callV0q (d' := d - 1) (mi' := mX9_pass) dL_law_2457 lL_344 eX9_pass rfl rfl (c_X9_pass (d := d - 1) hl (by omega) m1 j) (show d - 1 + 1 ≤ d from by omega) (Nat.le_of_ble_eq_true rfl) ?_
    rintro w9 s2 h2
    rcases h2 with ⟨hm, hw, e2⟩ | ⟨hm, e2⟩
    · exact absurd hm hcond
    · skip
      have hm2 : MI s2 a ∧ LoE s1 s2 ∧ s2 137 0 = 1 := by subst e2; exact ⟨m1.th, fun q i hq => up_ne (by omega), up_eq _ _ _ _⟩
      refine J.istore dL_law_2460 (by decide) rfl ?_
      refine J.aload_n 2 dL_law_2462 rfl rfl ?_
      refine I.callV0i (d' := d - 1) (mi' := mX9_thrown) dL_law_2463 lL_151 eX9_thrown rfl rfl (c_X9_thrown (d := d - 1) hl (by omega)) (show d - 1 + 1 ≤ d from by omega) (Nat.le_of_ble_eq_true rfl) ?_
      refine I.sx hm2.2.2 ?_
      refine J.iload dL_law_2466 rfl ?_
      refine I.icmpS 2473 dL_law_2468 (by decide) ?_
      refine J.iload dL_law_2473 rfl ?_
      refine I.if_ne1 (Or.inl rfl) 2497 dL_law_2475 (by decide) ?_
      refine J.goto 2839 dL_law_2497 (by decide) ?_
      refine J.fgt (L' := [some (.ref 2000000), some (.ref 0), some (.ref 137), some (.ref 142), some (.ref 143), some (.int (iI (i : Int))), none, none, none]) (by exact ⟨Or.inr rfl, Or.inr rfl, Or.inr rfl, Or.inr rfl, Or.inr rfl, Or.inr rfl, Or.inl rfl, Or.inl rfl, Or.inl rfl, trivial⟩) ?_
      exact J.mono (kx s2 _ _ (j) (hc.1.hi hm2.2.1) hm2.1) (fun _ _ h => h) (fun _ _ h => h) ⟨show d ≤ d from Nat.le_refl d, by show mc ≤ mc + 2 - 1; omega, by show ms ≤ ms + 12 - 6; omega⟩
  · exact absurd hx id
set_option maxHeartbeats 4000000 in
theorem lc_55 {Γ : jE} (hl : Γ.1.stackTraces = false) {Ls : Nat} {xs : Nat → Int32} (hsc : Γ.2.2 = some (Ls, xs)) {s : Nat → Int → Int} {ε : jEps} {d i mc ms : Nat} {a : AS} {P : Option Value → jM → Prop} {X : String → jM → Prop} (hd : 131 ≤ d) (hi : i + 6 ≤ Ls) (hL : Ls ≤ 3072) (h : CI s a) (m : MI s a) (j : AI a) (kx : ∀ s' ε' a', AI a' → CI s' a' → MI s' a' → J Γ (d, mc, ms) mL_law 2839 [some (.ref 2000000), some (.ref 0), some (.ref 137), some (.ref 142), some (.ref 143), some (.int (iI (i : Int))), none, none, none] [] (jmem s' ε') P X) : J Γ (d, mc + 2, ms + 12) mL_law 2500 [some (.ref 2000000), some (.ref 0), some (.ref 137), some (.ref 142), some (.ref 143), some (.int (iI (i : Int))), none, none, none] [] (jmem s ε) P X := by
  refine J.aload_n 1 dL_law_2500 rfl rfl ?_
  refine J.aload_n 0 dL_law_2501 rfl rfl ?_
  refine J.iload dL_law_2502 rfl ?_
  refine I.iconst dL_law_2504 ?_
  refine I.add dL_law_2505 ?_
  refine I.sld (j := i + 1) hsc (by omega) (by omega) hL dL_law_2506 ?_
  refine J.aload_n 3 dL_law_2507 rfl rfl ?_
  refine J.callW3 (b' := (d - 1, 1, 6)) (mi' := mL_playOptimally) dL_law_2508 lL_345 eL_playOptimally (c_L_playOptimally (d := d - 1) hl (by omega) h j (iI_rng _)) (show d - 1 + 1 ≤ d ∧ 1 ≤ mc + 2 ∧ 6 ≤ ms + 12 from ⟨by omega, by omega, by omega⟩) (Nat.le_of_ble_eq_true rfl) ?_
  rintro v M' ⟨s1, ε1, k9, rfl, rfl, hk⟩
  refine J.istore dL_law_2511 (by decide) rfl ?_
  rcases hk with ⟨rfl, r9, hq, hε⟩ | ⟨rfl, hx⟩ | ⟨rfl, hx⟩
  · skip
    obtain ⟨hcond, rfl, e1⟩ := hq
    have hc := e1
    have m1 : MI s1 a := m.lo hc.2
    refine J.aload_n 2 dL_law_2513 rfl rfl ?_
    refine J.aload_n 0 dL_law_2514 rfl rfl ?_
    refine J.iload dL_law_2515 rfl ?_
    refine I.iconst dL_law_2517 ?_
    refine I.add dL_law_2518 ?_
    refine I.sld (j := i + 1) hsc (by omega) (by omega) hL dL_law_2519 ?_
    refine I.callV1q (d' := d - 1) (mi' := mX9_playOptimally) dL_law_2520 lL_347 eX9_playOptimally rfl rfl (c_X9_playOptimally (d := d - 1) hl (by omega) m1 j (iI_rng _)) (show d - 1 + 1 ≤ d from by omega) (Nat.le_of_ble_eq_true rfl) ?_
    rintro w9 s2 h2
    rcases h2 with ⟨hm, rfl, e2⟩ | ⟨hm, e2⟩
    · skip
      have hm2 := And.intro e2.1 (And.intro e2.2.2 e2.2.1)
      refine J.istore dL_law_2523 (by decide) rfl ?_
      refine J.aload_n 2 dL_law_2525 rfl rfl ?_
      refine I.callV0i (d' := d - 1) (mi' := mX9_thrown) dL_law_2526 lL_151 eX9_thrown rfl rfl (c_X9_thrown (d := d - 1) hl (by omega)) (show d - 1 + 1 ≤ d from by omega) (Nat.le_of_ble_eq_true rfl) ?_
      refine I.sx hm2.2.2 ?_
      refine J.iload dL_law_2529 rfl ?_
      refine I.icmpS 2536 dL_law_2531 (by decide) ?_
      refine J.iload dL_law_2536 rfl ?_
      refine I.if_ne0 (tgt := 2553) dL_law_2538 (by decide) ?_
      refine J.aload_n 3 dL_law_2541 rfl rfl ?_
      refine I.iconst dL_law_2542 ?_
      refine I.lald0 hε dL_law_2543 ?_
      refine J.iload dL_law_2544 rfl ?_
      refine J.i2l dL_law_2546 ?_
      refine I.lcmpS dL_law_2547 ?_
      refine I.if_eq0 2553 dL_law_2548 (by decide) ?_
      refine J.goto 2839 dL_law_2553 (by decide) ?_
      refine J.fgt (L' := [some (.ref 2000000), some (.ref 0), some (.ref 137), some (.ref 142), some (.ref 143), some (.int (iI (i : Int))), none, none, none]) (by exact ⟨Or.inr rfl, Or.inr rfl, Or.inr rfl, Or.inr rfl, Or.inr rfl, Or.inr rfl, Or.inl rfl, Or.inl rfl, Or.inl rfl, trivial⟩) ?_
      exact J.mono (kx s2 _ _ (AI.set (AI.rec j) (gRun_lv _ j.1.1 j.1.2).2.2.1 hc.1.m.2.2.2) (hc.1.hi hm2.2.1) hm2.1) (fun _ _ h => h) (fun _ _ h => h) ⟨show d ≤ d from Nat.le_refl d, by show mc ≤ mc + 2 - 1; omega, by show ms ≤ ms + 12 - 6; omega⟩
    · exact absurd hcond hm
  · skip
    obtain ⟨hcond, e1⟩ := hx
    have hc : CI s1 a ∧ HiE s s1 := by subst e1; exact ⟨h, fun _ _ _ => rfl⟩
    have m1 : MI s1 a := m.lo hc.2
    refine J.aload_n 2 dL_law_2513 rfl rfl ?_
    refine J.aload_n 0 dL_law_2514 rfl rfl ?_
    refine J.iload dL_law_2515 rfl ?_
    refine I.iconst dL_law_2517 ?_
    refine I.add dL_law_2518 ?_
    refine I.sld (j := i + 1) hsc (by omega) (by omega) hL dL_law_2519 ?_
    refine I.callV1q (d' := d - 1) (mi' := mX9_playOptimally) dL_law_2520 lL_347 eX9_playOptimally rfl rfl (c_X9_playOptimally (d := d - 1) hl (by omega) m1 j (iI_rng _)) (show d - 1 + 1 ≤ d from by omega) (Nat.le_of_ble_eq_true rfl) ?_
    rintro w9 s2 h2
    rcases h2 with ⟨hm, rfl, e2⟩ | ⟨hm, e2⟩
    · exact absurd hm hcond
    · skip
      have hm2 : MI s2 a ∧ LoE s1 s2 ∧ s2 137 0 = 1 := by subst e2; exact ⟨m1.th, fun q i hq => up_ne (by omega), up_eq _ _ _ _⟩
      refine J.istore dL_law_2523 (by decide) rfl ?_
      refine J.aload_n 2 dL_law_2525 rfl rfl ?_
      refine I.callV0i (d' := d - 1) (mi' := mX9_thrown) dL_law_2526 lL_151 eX9_thrown rfl rfl (c_X9_thrown (d := d - 1) hl (by omega)) (show d - 1 + 1 ≤ d from by omega) (Nat.le_of_ble_eq_true rfl) ?_
      refine I.sx hm2.2.2 ?_
      refine J.iload dL_law_2529 rfl ?_
      refine I.icmpS 2536 dL_law_2531 (by decide) ?_
      refine J.iload dL_law_2536 rfl ?_
      refine I.if_ne1 (Or.inl rfl) 2553 dL_law_2538 (by decide) ?_
      refine J.goto 2839 dL_law_2553 (by decide) ?_
      refine J.fgt (L' := [some (.ref 2000000), some (.ref 0), some (.ref 137), some (.ref 142), some (.ref 143), some (.int (iI (i : Int))), none, none, none]) (by exact ⟨Or.inr rfl, Or.inr rfl, Or.inr rfl, Or.inr rfl, Or.inr rfl, Or.inr rfl, Or.inl rfl, Or.inl rfl, Or.inl rfl, trivial⟩) ?_
      exact J.mono (kx s2 _ _ (j) (hc.1.hi hm2.2.1) hm2.1) (fun _ _ h => h) (fun _ _ h => h) ⟨show d ≤ d from Nat.le_refl d, by show mc ≤ mc + 2 - 1; omega, by show ms ≤ ms + 12 - 6; omega⟩
  · exact absurd hx id
set_option maxHeartbeats 4000000 in
theorem lc_56 {Γ : jE} (hl : Γ.1.stackTraces = false) {Ls : Nat} {xs : Nat → Int32} (hsc : Γ.2.2 = some (Ls, xs)) {s : Nat → Int → Int} {ε : jEps} {d i mc ms : Nat} {a : AS} {P : Option Value → jM → Prop} {X : String → jM → Prop} (hd : 131 ≤ d) (hi : i + 6 ≤ Ls) (hL : Ls ≤ 3072) (h : CI s a) (m : MI s a) (j : AI a) (kx : ∀ s' ε' a', AI a' → CI s' a' → MI s' a' → J Γ (d, mc, ms) mL_law 2839 [some (.ref 2000000), some (.ref 0), some (.ref 137), some (.ref 142), some (.ref 143), some (.int (iI (i : Int))), none, none, none] [] (jmem s' ε') P X) : J Γ (d, mc + 2, ms + 12) mL_law 2556 [some (.ref 2000000), some (.ref 0), some (.ref 137), some (.ref 142), some (.ref 143), some (.int (iI (i : Int))), none, none, none] [] (jmem s ε) P X := by
  refine J.aload_n 1 dL_law_2556 rfl rfl ?_
  refine J.aload_n 3 dL_law_2557 rfl rfl ?_
  refine J.callW2 (b' := (d - 1, 1, 6)) (mi' := mL_startNextRound) dL_law_2558 lL_348 eL_startNextRound (c_L_startNextRound (d := d - 1) hl (by omega) h j) (show d - 1 + 1 ≤ d ∧ 1 ≤ mc + 2 ∧ 6 ≤ ms + 12 from ⟨by omega, by omega, by omega⟩) (Nat.le_of_ble_eq_true rfl) ?_
  rintro v M' ⟨s1, ε1, k9, rfl, rfl, hk⟩
  refine J.istore dL_law_2561 (by decide) rfl ?_
  rcases hk with ⟨rfl, r9, hq, hε⟩ | ⟨rfl, hx⟩ | ⟨rfl, hx⟩
  · skip
    obtain ⟨hcond, rfl, e1⟩ := hq
    have hc := e1
    have m1 : MI s1 a := m.lo hc.2
    refine J.aload_n 2 dL_law_2563 rfl rfl ?_
    refine I.callV0q (d' := d - 1) (mi' := mX9_startNextRound) dL_law_2564 lL_350 eX9_startNextRound rfl rfl (c_X9_startNextRound (d := d - 1) hl (by omega) m1 j) (show d - 1 + 1 ≤ d from by omega) (Nat.le_of_ble_eq_true rfl) ?_
    rintro w9 s2 h2
    rcases h2 with ⟨hm, rfl, e2⟩ | ⟨hm, e2⟩
    · skip
      have hm2 := And.intro e2.1 (And.intro e2.2.2 e2.2.1)
      refine J.istore dL_law_2567 (by decide) rfl ?_
      refine J.aload_n 2 dL_law_2569 rfl rfl ?_
      refine I.callV0i (d' := d - 1) (mi' := mX9_thrown) dL_law_2570 lL_151 eX9_thrown rfl rfl (c_X9_thrown (d := d - 1) hl (by omega)) (show d - 1 + 1 ≤ d from by omega) (Nat.le_of_ble_eq_true rfl) ?_
      refine I.sx hm2.2.2 ?_
      refine J.iload dL_law_2573 rfl ?_
      refine I.icmpS 2580 dL_law_2575 (by decide) ?_
      refine J.iload dL_law_2580 rfl ?_
      refine I.if_ne0 (tgt := 2597) dL_law_2582 (by decide) ?_
      refine J.aload_n 3 dL_law_2585 rfl rfl ?_
      refine I.iconst dL_law_2586 ?_
      refine I.lald0 hε dL_law_2587 ?_
      refine J.iload dL_law_2588 rfl ?_
      refine J.i2l dL_law_2590 ?_
      refine I.lcmpS dL_law_2591 ?_
      refine I.if_eq0 2597 dL_law_2592 (by decide) ?_
      refine J.goto 2839 dL_law_2597 (by decide) ?_
      refine J.fgt (L' := [some (.ref 2000000), some (.ref 0), some (.ref 137), some (.ref 142), some (.ref 143), some (.int (iI (i : Int))), none, none, none]) (by exact ⟨Or.inr rfl, Or.inr rfl, Or.inr rfl, Or.inr rfl, Or.inr rfl, Or.inr rfl, Or.inl rfl, Or.inl rfl, Or.inl rfl, trivial⟩) ?_
      exact J.mono (kx s2 _ _ (AI.set (AI.rec j) gDeal_lay hc.1.m.2.2.2) (hc.1.hi hm2.2.1) hm2.1) (fun _ _ h => h) (fun _ _ h => h) ⟨show d ≤ d from Nat.le_refl d, by show mc ≤ mc + 2 - 1; omega, by show ms ≤ ms + 12 - 6; omega⟩
    · exact absurd hcond hm
  · skip
    obtain ⟨hcond, e1⟩ := hx
    have hc : CI s1 a ∧ HiE s s1 := by subst e1; exact ⟨h, fun _ _ _ => rfl⟩
    have m1 : MI s1 a := m.lo hc.2
    refine J.aload_n 2 dL_law_2563 rfl rfl ?_
    refine I.callV0q (d' := d - 1) (mi' := mX9_startNextRound) dL_law_2564 lL_350 eX9_startNextRound rfl rfl (c_X9_startNextRound (d := d - 1) hl (by omega) m1 j) (show d - 1 + 1 ≤ d from by omega) (Nat.le_of_ble_eq_true rfl) ?_
    rintro w9 s2 h2
    rcases h2 with ⟨hm, rfl, e2⟩ | ⟨hm, e2⟩
    · exact absurd hm hcond
    · skip
      have hm2 : MI s2 a ∧ LoE s1 s2 ∧ s2 137 0 = 1 := by subst e2; exact ⟨m1.th, fun q i hq => up_ne (by omega), up_eq _ _ _ _⟩
      refine J.istore dL_law_2567 (by decide) rfl ?_
      refine J.aload_n 2 dL_law_2569 rfl rfl ?_
      refine I.callV0i (d' := d - 1) (mi' := mX9_thrown) dL_law_2570 lL_151 eX9_thrown rfl rfl (c_X9_thrown (d := d - 1) hl (by omega)) (show d - 1 + 1 ≤ d from by omega) (Nat.le_of_ble_eq_true rfl) ?_
      refine I.sx hm2.2.2 ?_
      refine J.iload dL_law_2573 rfl ?_
      refine I.icmpS 2580 dL_law_2575 (by decide) ?_
      refine J.iload dL_law_2580 rfl ?_
      refine I.if_ne1 (Or.inl rfl) 2597 dL_law_2582 (by decide) ?_
      refine J.goto 2839 dL_law_2597 (by decide) ?_
      refine J.fgt (L' := [some (.ref 2000000), some (.ref 0), some (.ref 137), some (.ref 142), some (.ref 143), some (.int (iI (i : Int))), none, none, none]) (by exact ⟨Or.inr rfl, Or.inr rfl, Or.inr rfl, Or.inr rfl, Or.inr rfl, Or.inr rfl, Or.inl rfl, Or.inl rfl, Or.inl rfl, trivial⟩) ?_
      exact J.mono (kx s2 _ _ (j) (hc.1.hi hm2.2.1) hm2.1) (fun _ _ h => h) (fun _ _ h => h) ⟨show d ≤ d from Nat.le_refl d, by show mc ≤ mc + 2 - 1; omega, by show ms ≤ ms + 12 - 6; omega⟩
  · exact absurd hx id
set_option maxHeartbeats 4000000 in
theorem lc_57 {Γ : jE} (hl : Γ.1.stackTraces = false) {Ls : Nat} {xs : Nat → Int32} (hsc : Γ.2.2 = some (Ls, xs)) {s : Nat → Int → Int} {ε : jEps} {d i mc ms : Nat} {a : AS} {P : Option Value → jM → Prop} {X : String → jM → Prop} (hd : 131 ≤ d) (hi : i + 6 ≤ Ls) (hL : Ls ≤ 3072) (h : CI s a) (m : MI s a) (j : AI a) (kx : ∀ s' ε' a', AI a' → CI s' a' → MI s' a' → J Γ (d, mc, ms) mL_law 2839 [some (.ref 2000000), some (.ref 0), some (.ref 137), some (.ref 142), some (.ref 143), some (.int (iI (i : Int))), none, none, none] [] (jmem s' ε') P X) : J Γ (d, mc + 2, ms + 12) mL_law 2600 [some (.ref 2000000), some (.ref 0), some (.ref 137), some (.ref 142), some (.ref 143), some (.int (iI (i : Int))), none, none, none] [] (jmem s ε) P X := by
  refine J.aload_n 1 dL_law_2600 rfl rfl ?_
  refine J.aload_n 3 dL_law_2601 rfl rfl ?_
  refine J.callW2 (b' := (d - 1, 1, 6)) (mi' := mL_undo) dL_law_2602 lL_351 eL_undo (c_L_undo (d := d - 1) hl (by omega) h j) (show d - 1 + 1 ≤ d ∧ 1 ≤ mc + 2 ∧ 6 ≤ ms + 12 from ⟨by omega, by omega, by omega⟩) (Nat.le_of_ble_eq_true rfl) ?_
  rintro v M' ⟨s1, ε1, k9, rfl, rfl, hk⟩
  refine J.istore dL_law_2605 (by decide) rfl ?_
  rcases hk with ⟨rfl, r9, hq, hε⟩ | ⟨rfl, hx⟩ | ⟨rfl, hx⟩
  · skip
    obtain ⟨hcond, rfl, e1⟩ := hq
    have hc := e1
    have m1 : MI s1 a := m.lo hc.2
    refine J.aload_n 2 dL_law_2607 rfl rfl ?_
    refine I.callV0q (d' := d - 1) (mi' := mX9_undo) dL_law_2608 lL_353 eX9_undo rfl rfl (c_X9_undo (d := d - 1) hl (by omega) m1 j) (show d - 1 + 1 ≤ d from by omega) (Nat.le_of_ble_eq_true rfl) ?_
    rintro w9 s2 h2
    rcases h2 with ⟨hm, rfl, e2⟩ | ⟨hm, e2⟩
    · skip
      have hm2 := And.intro e2.1 (And.intro e2.2.2 e2.2.1)
      refine J.istore dL_law_2611 (by decide) rfl ?_
      refine J.aload_n 2 dL_law_2613 rfl rfl ?_
      refine I.callV0i (d' := d - 1) (mi' := mX9_thrown) dL_law_2614 lL_151 eX9_thrown rfl rfl (c_X9_thrown (d := d - 1) hl (by omega)) (show d - 1 + 1 ≤ d from by omega) (Nat.le_of_ble_eq_true rfl) ?_
      refine I.sx hm2.2.2 ?_
      refine J.iload dL_law_2617 rfl ?_
      refine I.icmpS 2624 dL_law_2619 (by decide) ?_
      refine J.iload dL_law_2624 rfl ?_
      refine I.if_ne0 (tgt := 2641) dL_law_2626 (by decide) ?_
      refine J.aload_n 3 dL_law_2629 rfl rfl ?_
      refine I.iconst dL_law_2630 ?_
      refine I.lald0 hε dL_law_2631 ?_
      refine J.iload dL_law_2632 rfl ?_
      refine J.i2l dL_law_2634 ?_
      refine I.lcmpS dL_law_2635 ?_
      refine I.if_eq0 2641 dL_law_2636 (by decide) ?_
      refine J.goto 2839 dL_law_2641 (by decide) ?_
      refine J.fgt (L' := [some (.ref 2000000), some (.ref 0), some (.ref 137), some (.ref 142), some (.ref 143), some (.int (iI (i : Int))), none, none, none]) (by exact ⟨Or.inr rfl, Or.inr rfl, Or.inr rfl, Or.inr rfl, Or.inr rfl, Or.inr rfl, Or.inl rfl, Or.inl rfl, Or.inl rfl, trivial⟩) ?_
      exact J.mono (kx s2 _ _ (AI.undo j hcond) (hc.1.hi hm2.2.1) hm2.1) (fun _ _ h => h) (fun _ _ h => h) ⟨show d ≤ d from Nat.le_refl d, by show mc ≤ mc + 2 - 1; omega, by show ms ≤ ms + 12 - 6; omega⟩
    · exact absurd hcond hm
  · skip
    obtain ⟨hcond, e1⟩ := hx
    have hc : CI s1 a ∧ HiE s s1 := by subst e1; exact ⟨h, fun _ _ _ => rfl⟩
    have m1 : MI s1 a := m.lo hc.2
    refine J.aload_n 2 dL_law_2607 rfl rfl ?_
    refine I.callV0q (d' := d - 1) (mi' := mX9_undo) dL_law_2608 lL_353 eX9_undo rfl rfl (c_X9_undo (d := d - 1) hl (by omega) m1 j) (show d - 1 + 1 ≤ d from by omega) (Nat.le_of_ble_eq_true rfl) ?_
    rintro w9 s2 h2
    rcases h2 with ⟨hm, rfl, e2⟩ | ⟨hm, e2⟩
    · exact absurd hm hcond
    · skip
      have hm2 : MI s2 a ∧ LoE s1 s2 ∧ s2 137 0 = 1 := by subst e2; exact ⟨m1.th, fun q i hq => up_ne (by omega), up_eq _ _ _ _⟩
      refine J.istore dL_law_2611 (by decide) rfl ?_
      refine J.aload_n 2 dL_law_2613 rfl rfl ?_
      refine I.callV0i (d' := d - 1) (mi' := mX9_thrown) dL_law_2614 lL_151 eX9_thrown rfl rfl (c_X9_thrown (d := d - 1) hl (by omega)) (show d - 1 + 1 ≤ d from by omega) (Nat.le_of_ble_eq_true rfl) ?_
      refine I.sx hm2.2.2 ?_
      refine J.iload dL_law_2617 rfl ?_
      refine I.icmpS 2624 dL_law_2619 (by decide) ?_
      refine J.iload dL_law_2624 rfl ?_
      refine I.if_ne1 (Or.inl rfl) 2641 dL_law_2626 (by decide) ?_
      refine J.goto 2839 dL_law_2641 (by decide) ?_
      refine J.fgt (L' := [some (.ref 2000000), some (.ref 0), some (.ref 137), some (.ref 142), some (.ref 143), some (.int (iI (i : Int))), none, none, none]) (by exact ⟨Or.inr rfl, Or.inr rfl, Or.inr rfl, Or.inr rfl, Or.inr rfl, Or.inr rfl, Or.inl rfl, Or.inl rfl, Or.inl rfl, trivial⟩) ?_
      exact J.mono (kx s2 _ _ (j) (hc.1.hi hm2.2.1) hm2.1) (fun _ _ h => h) (fun _ _ h => h) ⟨show d ≤ d from Nat.le_refl d, by show mc ≤ mc + 2 - 1; omega, by show ms ≤ ms + 12 - 6; omega⟩
  · exact absurd hx id
set_option maxHeartbeats 4000000 in
theorem lc_58 {Γ : jE} (hl : Γ.1.stackTraces = false) {Ls : Nat} {xs : Nat → Int32} (hsc : Γ.2.2 = some (Ls, xs)) {s : Nat → Int → Int} {ε : jEps} {d i mc ms : Nat} {a : AS} {P : Option Value → jM → Prop} {X : String → jM → Prop} (hd : 131 ≤ d) (hi : i + 6 ≤ Ls) (hL : Ls ≤ 3072) (h : CI s a) (m : MI s a) (j : AI a) (kx : ∀ s' ε' a', AI a' → CI s' a' → MI s' a' → J Γ (d, mc, ms) mL_law 2839 [some (.ref 2000000), some (.ref 0), some (.ref 137), some (.ref 142), some (.ref 143), some (.int (iI (i : Int))), none, none, none] [] (jmem s' ε') P X) : J Γ (d, mc + 2, ms + 12) mL_law 2644 [some (.ref 2000000), some (.ref 0), some (.ref 137), some (.ref 142), some (.ref 143), some (.int (iI (i : Int))), none, none, none] [] (jmem s ε) P X := by
  refine J.aload_n 1 dL_law_2644 rfl rfl ?_
  refine I.callV0q (d' := d - 1) (mi' := mX8_save) dL_law_2645 lL_354 eX8_save rfl rfl (c_X8_save (d := d - 1) hl (by omega) h j) (show d - 1 + 1 ≤ d from by omega) (Nat.le_of_ble_eq_true rfl) ?_
  rintro r9 s1 ⟨rfl, e1⟩
  have hc := e1
  have m1 : MI s1 a := m.lo hc.2
  refine J.aload_n 2 dL_law_2648 rfl rfl ?_
  refine I.callV0q (d' := d - 1) (mi' := mX9_save) dL_law_2649 lL_357 eX9_save rfl rfl (c_X9_save (d := d - 1) hl (by omega) m1 j) (show d - 1 + 1 ≤ d from by omega) (Nat.le_of_ble_eq_true rfl) ?_
  rintro w9 s2 ⟨rfl, e2⟩
  have hm2 := And.intro e2.1 (And.intro e2.2.2 e2.2.1)
  refine I.icmpS 2839 dL_law_2652 (by decide) ?_
  refine J.fgt (L' := [some (.ref 2000000), some (.ref 0), some (.ref 137), some (.ref 142), some (.ref 143), some (.int (iI (i : Int))), none, none, none]) (by exact ⟨Or.inr rfl, Or.inr rfl, Or.inr rfl, Or.inr rfl, Or.inr rfl, Or.inr rfl, Or.inl rfl, Or.inl rfl, Or.inl rfl, trivial⟩) ?_
  exact J.mono (kx s2 _ _ (AI.save j) (hc.1.hi hm2.2.1) hm2.1) (fun _ _ h => h) (fun _ _ h => h) ⟨show d ≤ d from Nat.le_refl d, by show mc ≤ mc + 2 - 0; omega, by show ms ≤ ms + 12 - 0; omega⟩
set_option maxHeartbeats 4000000 in
theorem lc_59 {Γ : jE} (hl : Γ.1.stackTraces = false) {Ls : Nat} {xs : Nat → Int32} (hsc : Γ.2.2 = some (Ls, xs)) {s : Nat → Int → Int} {ε : jEps} {d i mc ms : Nat} {a : AS} {P : Option Value → jM → Prop} {X : String → jM → Prop} (hd : 131 ≤ d) (hi : i + 6 ≤ Ls) (hL : Ls ≤ 3072) (h : CI s a) (m : MI s a) (j : AI a) (kx : ∀ s' ε' a', AI a' → CI s' a' → MI s' a' → J Γ (d, mc, ms) mL_law 2839 [some (.ref 2000000), some (.ref 0), some (.ref 137), some (.ref 142), some (.ref 143), some (.int (iI (i : Int))), none, none, none] [] (jmem s' ε') P X) : J Γ (d, mc + 2, ms + 12) mL_law 2657 [some (.ref 2000000), some (.ref 0), some (.ref 137), some (.ref 142), some (.ref 143), some (.int (iI (i : Int))), none, none, none] [] (jmem s ε) P X := by
  refine J.aload_n 1 dL_law_2657 rfl rfl ?_
  refine J.aload_n 3 dL_law_2658 rfl rfl ?_
  refine J.callW2 (b' := (d - 1, 1, 6)) (mi' := mL_restore) dL_law_2659 lL_358 eL_restore (c_L_restore (d := d - 1) hl (by omega) h j) (show d - 1 + 1 ≤ d ∧ 1 ≤ mc + 2 ∧ 6 ≤ ms + 12 from ⟨by omega, by omega, by omega⟩) (Nat.le_of_ble_eq_true rfl) ?_
  rintro v M' ⟨s1, ε1, k9, rfl, rfl, hk⟩
  refine J.istore dL_law_2662 (by decide) rfl ?_
  rcases hk with ⟨rfl, r9, hq, hε⟩ | ⟨rfl, hx⟩ | ⟨rfl, hx⟩
  · skip
    obtain ⟨hcond, rfl, e1⟩ := hq
    have hc := e1
    have m1 : MI s1 a := m.lo hc.2
    refine J.aload_n 2 dL_law_2664 rfl rfl ?_
    refine I.callV0q (d' := d - 1) (mi' := mX9_restore) dL_law_2665 lL_360 eX9_restore rfl rfl (c_X9_restore (d := d - 1) hl (by omega) m1 j) (show d - 1 + 1 ≤ d from by omega) (Nat.le_of_ble_eq_true rfl) ?_
    rintro w9 s2 h2
    rcases h2 with ⟨hm, rfl, e2⟩ | ⟨hm, e2⟩
    · skip
      have hm2 := And.intro e2.1 (And.intro e2.2.2 e2.2.1)
      refine J.istore dL_law_2668 (by decide) rfl ?_
      refine J.aload_n 2 dL_law_2670 rfl rfl ?_
      refine I.callV0i (d' := d - 1) (mi' := mX9_thrown) dL_law_2671 lL_151 eX9_thrown rfl rfl (c_X9_thrown (d := d - 1) hl (by omega)) (show d - 1 + 1 ≤ d from by omega) (Nat.le_of_ble_eq_true rfl) ?_
      refine I.sx hm2.2.2 ?_
      refine J.iload dL_law_2674 rfl ?_
      refine I.icmpS 2681 dL_law_2676 (by decide) ?_
      refine J.iload dL_law_2681 rfl ?_
      refine I.if_ne0 (tgt := 2698) dL_law_2683 (by decide) ?_
      refine J.aload_n 3 dL_law_2686 rfl rfl ?_
      refine I.iconst dL_law_2687 ?_
      refine I.lald0 hε dL_law_2688 ?_
      refine J.iload dL_law_2689 rfl ?_
      refine J.i2l dL_law_2691 ?_
      refine I.lcmpS dL_law_2692 ?_
      refine I.if_eq0 2698 dL_law_2693 (by decide) ?_
      refine J.goto 2839 dL_law_2698 (by decide) ?_
      refine J.fgt (L' := [some (.ref 2000000), some (.ref 0), some (.ref 137), some (.ref 142), some (.ref 143), some (.int (iI (i : Int))), none, none, none]) (by exact ⟨Or.inr rfl, Or.inr rfl, Or.inr rfl, Or.inr rfl, Or.inr rfl, Or.inr rfl, Or.inl rfl, Or.inl rfl, Or.inl rfl, trivial⟩) ?_
      exact J.mono (kx s2 _ _ (AI.set (AI.rec j) (j.2.2.2.2.1 hcond).1 (j.2.2.2.2.1 hcond).2) (hc.1.hi hm2.2.1) hm2.1) (fun _ _ h => h) (fun _ _ h => h) ⟨show d ≤ d from Nat.le_refl d, by show mc ≤ mc + 2 - 1; omega, by show ms ≤ ms + 12 - 6; omega⟩
    · exact absurd hcond hm
  · skip
    obtain ⟨hcond, e1⟩ := hx
    have hc : CI s1 a ∧ HiE s s1 := by subst e1; exact ⟨h, fun _ _ _ => rfl⟩
    have m1 : MI s1 a := m.lo hc.2
    refine J.aload_n 2 dL_law_2664 rfl rfl ?_
    refine I.callV0q (d' := d - 1) (mi' := mX9_restore) dL_law_2665 lL_360 eX9_restore rfl rfl (c_X9_restore (d := d - 1) hl (by omega) m1 j) (show d - 1 + 1 ≤ d from by omega) (Nat.le_of_ble_eq_true rfl) ?_
    rintro w9 s2 h2
    rcases h2 with ⟨hm, rfl, e2⟩ | ⟨hm, e2⟩
    · exact absurd hm hcond
    · skip
      have hm2 : MI s2 a ∧ LoE s1 s2 ∧ s2 137 0 = 1 := by subst e2; exact ⟨m1.th, fun q i hq => up_ne (by omega), up_eq _ _ _ _⟩
      refine J.istore dL_law_2668 (by decide) rfl ?_
      refine J.aload_n 2 dL_law_2670 rfl rfl ?_
      refine I.callV0i (d' := d - 1) (mi' := mX9_thrown) dL_law_2671 lL_151 eX9_thrown rfl rfl (c_X9_thrown (d := d - 1) hl (by omega)) (show d - 1 + 1 ≤ d from by omega) (Nat.le_of_ble_eq_true rfl) ?_
      refine I.sx hm2.2.2 ?_
      refine J.iload dL_law_2674 rfl ?_
      refine I.icmpS 2681 dL_law_2676 (by decide) ?_
      refine J.iload dL_law_2681 rfl ?_
      refine I.if_ne1 (Or.inl rfl) 2698 dL_law_2683 (by decide) ?_
      refine J.goto 2839 dL_law_2698 (by decide) ?_
      refine J.fgt (L' := [some (.ref 2000000), some (.ref 0), some (.ref 137), some (.ref 142), some (.ref 143), some (.int (iI (i : Int))), none, none, none]) (by exact ⟨Or.inr rfl, Or.inr rfl, Or.inr rfl, Or.inr rfl, Or.inr rfl, Or.inr rfl, Or.inl rfl, Or.inl rfl, Or.inl rfl, trivial⟩) ?_
      exact J.mono (kx s2 _ _ (j) (hc.1.hi hm2.2.1) hm2.1) (fun _ _ h => h) (fun _ _ h => h) ⟨show d ≤ d from Nat.le_refl d, by show mc ≤ mc + 2 - 1; omega, by show ms ≤ ms + 12 - 6; omega⟩
  · exact absurd hx id
set_option maxHeartbeats 4000000 in
theorem lc_60 {Γ : jE} (hl : Γ.1.stackTraces = false) {Ls : Nat} {xs : Nat → Int32} (hsc : Γ.2.2 = some (Ls, xs)) {s : Nat → Int → Int} {ε : jEps} {d i mc ms : Nat} {a : AS} {P : Option Value → jM → Prop} {X : String → jM → Prop} (hd : 131 ≤ d) (hi : i + 6 ≤ Ls) (hL : Ls ≤ 3072) (h : CI s a) (m : MI s a) (j : AI a) (kx : ∀ s' ε' a', AI a' → CI s' a' → MI s' a' → J Γ (d, mc, ms) mL_law 2839 [some (.ref 2000000), some (.ref 0), some (.ref 137), some (.ref 142), some (.ref 143), some (.int (iI (i : Int))), none, none, none] [] (jmem s' ε') P X) : J Γ (d, mc + 2, ms + 12) mL_law 2701 [some (.ref 2000000), some (.ref 0), some (.ref 137), some (.ref 142), some (.ref 143), some (.int (iI (i : Int))), none, none, none] [] (jmem s ε) P X := by
  refine J.aload_n 1 dL_law_2701 rfl rfl ?_
  refine J.aload_n 0 dL_law_2702 rfl rfl ?_
  refine J.iload dL_law_2703 rfl ?_
  refine I.iconst dL_law_2705 ?_
  refine I.add dL_law_2706 ?_
  refine I.sld (j := i + 1) hsc (by omega) (by omega) hL dL_law_2707 ?_
  refine J.aload_n 3 dL_law_2708 rfl rfl ?_
  refine J.callW3 (b' := (d - 1, 1, 6)) (mi' := mL_formatChain) dL_law_2709 lL_361 eL_formatChain (c_L_formatChain (d := d - 1) hl (by omega) h j (iI_rng _)) (show d - 1 + 1 ≤ d ∧ 1 ≤ mc + 2 ∧ 6 ≤ ms + 12 from ⟨by omega, by omega, by omega⟩) (Nat.le_of_ble_eq_true rfl) ?_
  rintro v M' ⟨s1, ε1, k9, rfl, rfl, hk⟩
  refine J.istore dL_law_2712 (by decide) rfl ?_
  rcases hk with ⟨rfl, r9, hq, hε⟩ | ⟨rfl, hx⟩ | ⟨rfl, hx⟩
  · skip
    obtain ⟨hcond, rfl, e1⟩ := hq
    have hc := e1
    have m1 : MI s1 a := m.lo hc.2
    refine J.aload_n 2 dL_law_2714 rfl rfl ?_
    refine J.aload_n 0 dL_law_2715 rfl rfl ?_
    refine J.iload dL_law_2716 rfl ?_
    refine I.iconst dL_law_2718 ?_
    refine I.add dL_law_2719 ?_
    refine I.sld (j := i + 1) hsc (by omega) (by omega) hL dL_law_2720 ?_
    refine I.callV1q (d' := d - 1) (mi' := mX9_formatChain) dL_law_2721 lL_363 eX9_formatChain rfl rfl (c_X9_formatChain (d := d - 1) hl (by omega) m1 j (iI_rng _)) (show d - 1 + 1 ≤ d from by omega) (Nat.le_of_ble_eq_true rfl) ?_
    rintro w9 s2 h2
    rcases h2 with ⟨hm, rfl, e2⟩ | ⟨hm, e2⟩
    · skip
      have hm2 := And.intro e2.1 (And.intro e2.2.2 e2.2.1)
      refine J.istore dL_law_2724 (by decide) rfl ?_
      refine J.aload_n 2 dL_law_2726 rfl rfl ?_
      refine I.callV0i (d' := d - 1) (mi' := mX9_thrown) dL_law_2727 lL_151 eX9_thrown rfl rfl (c_X9_thrown (d := d - 1) hl (by omega)) (show d - 1 + 1 ≤ d from by omega) (Nat.le_of_ble_eq_true rfl) ?_
      refine I.sx hm2.2.2 ?_
      refine J.iload dL_law_2730 rfl ?_
      refine I.icmpS 2737 dL_law_2732 (by decide) ?_
      refine J.iload dL_law_2737 rfl ?_
      refine I.if_ne0 (tgt := 2754) dL_law_2739 (by decide) ?_
      refine J.aload_n 3 dL_law_2742 rfl rfl ?_
      refine I.iconst dL_law_2743 ?_
      refine I.lald0 hε dL_law_2744 ?_
      refine J.iload dL_law_2745 rfl ?_
      refine J.i2l dL_law_2747 ?_
      refine I.lcmpS dL_law_2748 ?_
      refine I.if_eq0 2754 dL_law_2749 (by decide) ?_
      refine J.goto 2839 dL_law_2754 (by decide) ?_
      refine J.fgt (L' := [some (.ref 2000000), some (.ref 0), some (.ref 137), some (.ref 142), some (.ref 143), some (.int (iI (i : Int))), none, none, none]) (by exact ⟨Or.inr rfl, Or.inr rfl, Or.inr rfl, Or.inr rfl, Or.inr rfl, Or.inr rfl, Or.inl rfl, Or.inl rfl, Or.inl rfl, trivial⟩) ?_
      exact J.mono (kx s2 _ _ (AI.txt j (gChT_ok j.1.1 j.1.2 hcond.1 hcond.2)) (hc.1.hi hm2.2.1) hm2.1) (fun _ _ h => h) (fun _ _ h => h) ⟨show d ≤ d from Nat.le_refl d, by show mc ≤ mc + 2 - 1; omega, by show ms ≤ ms + 12 - 6; omega⟩
    · exact absurd hcond hm
  · skip
    obtain ⟨hcond, e1⟩ := hx
    have hc : CI s1 a ∧ HiE s s1 := by subst e1; exact ⟨h, fun _ _ _ => rfl⟩
    have m1 : MI s1 a := m.lo hc.2
    refine J.aload_n 2 dL_law_2714 rfl rfl ?_
    refine J.aload_n 0 dL_law_2715 rfl rfl ?_
    refine J.iload dL_law_2716 rfl ?_
    refine I.iconst dL_law_2718 ?_
    refine I.add dL_law_2719 ?_
    refine I.sld (j := i + 1) hsc (by omega) (by omega) hL dL_law_2720 ?_
    refine I.callV1q (d' := d - 1) (mi' := mX9_formatChain) dL_law_2721 lL_363 eX9_formatChain rfl rfl (c_X9_formatChain (d := d - 1) hl (by omega) m1 j (iI_rng _)) (show d - 1 + 1 ≤ d from by omega) (Nat.le_of_ble_eq_true rfl) ?_
    rintro w9 s2 h2
    rcases h2 with ⟨hm, rfl, e2⟩ | ⟨hm, e2⟩
    · exact absurd hm hcond
    · skip
      have hm2 : MI s2 a ∧ LoE s1 s2 ∧ s2 137 0 = 1 := by subst e2; exact ⟨m1.th, fun q i hq => up_ne (by omega), up_eq _ _ _ _⟩
      refine J.istore dL_law_2724 (by decide) rfl ?_
      refine J.aload_n 2 dL_law_2726 rfl rfl ?_
      refine I.callV0i (d' := d - 1) (mi' := mX9_thrown) dL_law_2727 lL_151 eX9_thrown rfl rfl (c_X9_thrown (d := d - 1) hl (by omega)) (show d - 1 + 1 ≤ d from by omega) (Nat.le_of_ble_eq_true rfl) ?_
      refine I.sx hm2.2.2 ?_
      refine J.iload dL_law_2730 rfl ?_
      refine I.icmpS 2737 dL_law_2732 (by decide) ?_
      refine J.iload dL_law_2737 rfl ?_
      refine I.if_ne1 (Or.inl rfl) 2754 dL_law_2739 (by decide) ?_
      refine J.goto 2839 dL_law_2754 (by decide) ?_
      refine J.fgt (L' := [some (.ref 2000000), some (.ref 0), some (.ref 137), some (.ref 142), some (.ref 143), some (.int (iI (i : Int))), none, none, none]) (by exact ⟨Or.inr rfl, Or.inr rfl, Or.inr rfl, Or.inr rfl, Or.inr rfl, Or.inr rfl, Or.inl rfl, Or.inl rfl, Or.inl rfl, trivial⟩) ?_
      exact J.mono (kx s2 _ _ (j) (hc.1.hi hm2.2.1) hm2.1) (fun _ _ h => h) (fun _ _ h => h) ⟨show d ≤ d from Nat.le_refl d, by show mc ≤ mc + 2 - 1; omega, by show ms ≤ ms + 12 - 6; omega⟩
  · exact absurd hx id
set_option maxHeartbeats 4000000 in
theorem lc_61 {Γ : jE} (hl : Γ.1.stackTraces = false) {Ls : Nat} {xs : Nat → Int32} (hsc : Γ.2.2 = some (Ls, xs)) {s : Nat → Int → Int} {ε : jEps} {d i mc ms : Nat} {a : AS} {P : Option Value → jM → Prop} {X : String → jM → Prop} (hd : 131 ≤ d) (hi : i + 6 ≤ Ls) (hL : Ls ≤ 3072) (h : CI s a) (m : MI s a) (j : AI a) (kx : ∀ s' ε' a', AI a' → CI s' a' → MI s' a' → J Γ (d, mc, ms) mL_law 2839 [some (.ref 2000000), some (.ref 0), some (.ref 137), some (.ref 142), some (.ref 143), some (.int (iI (i : Int))), none, none, none] [] (jmem s' ε') P X) : J Γ (d, mc + 2, ms + 12) mL_law 2757 [some (.ref 2000000), some (.ref 0), some (.ref 137), some (.ref 142), some (.ref 143), some (.int (iI (i : Int))), none, none, none] [] (jmem s ε) P X := by
  refine J.aload_n 1 dL_law_2757 rfl rfl ?_
  refine I.callV0q (d' := d - 1) (mi' := mX8_formatLog) dL_law_2758 lL_364 eX8_formatLog rfl rfl (c_X8_formatLog (d := d - 1) hl (by omega) h j) (show d - 1 + 1 ≤ d from by omega) (Nat.le_of_ble_eq_true rfl) ?_
  rintro r9 s1 ⟨rfl, e1⟩
  have hc := e1
  have m1 : MI s1 a := m.lo hc.2
  refine J.aload_n 2 dL_law_2761 rfl rfl ?_
  refine I.callV0q (d' := d - 1) (mi' := mX9_formatLog) dL_law_2762 lL_367 eX9_formatLog rfl rfl (c_X9_formatLog (d := d - 1) hl (by omega) m1 j) (show d - 1 + 1 ≤ d from by omega) (Nat.le_of_ble_eq_true rfl) ?_
  rintro w9 s2 ⟨rfl, e2⟩
  have hm2 := And.intro e2.1 (And.intro e2.2.2 e2.2.1)
  refine I.icmpS 2839 dL_law_2765 (by decide) ?_
  refine J.fgt (L' := [some (.ref 2000000), some (.ref 0), some (.ref 137), some (.ref 142), some (.ref 143), some (.int (iI (i : Int))), none, none, none]) (by exact ⟨Or.inr rfl, Or.inr rfl, Or.inr rfl, Or.inr rfl, Or.inr rfl, Or.inr rfl, Or.inl rfl, Or.inl rfl, Or.inl rfl, trivial⟩) ?_
  exact J.mono (kx s2 _ _ (AI.txt j (gLogT_ok j.1.2 (by decide))) (hc.1.hi hm2.2.1) hm2.1) (fun _ _ h => h) (fun _ _ h => h) ⟨show d ≤ d from Nat.le_refl d, by show mc ≤ mc + 2 - 0; omega, by show ms ≤ ms + 12 - 0; omega⟩
set_option maxHeartbeats 4000000 in
theorem lc_62 {Γ : jE} (hl : Γ.1.stackTraces = false) {Ls : Nat} {xs : Nat → Int32} (hsc : Γ.2.2 = some (Ls, xs)) {s : Nat → Int → Int} {ε : jEps} {d i mc ms : Nat} {a : AS} {P : Option Value → jM → Prop} {X : String → jM → Prop} (hd : 131 ≤ d) (hi : i + 6 ≤ Ls) (hL : Ls ≤ 3072) (h : CI s a) (m : MI s a) (j : AI a) (kx : ∀ s' ε' a', AI a' → CI s' a' → MI s' a' → J Γ (d, mc, ms) mL_law 2839 [some (.ref 2000000), some (.ref 0), some (.ref 137), some (.ref 142), some (.ref 143), some (.int (iI (i : Int))), none, none, none] [] (jmem s' ε') P X) : J Γ (d, mc + 2, ms + 12) mL_law 2770 [some (.ref 2000000), some (.ref 0), some (.ref 137), some (.ref 142), some (.ref 143), some (.int (iI (i : Int))), none, none, none] [] (jmem s ε) P X := by
  refine J.aload_n 1 dL_law_2770 rfl rfl ?_
  refine I.callV0q (d' := d - 1) (mi' := mX8_formatOptimalLine) dL_law_2771 lL_368 eX8_formatOptimalLine rfl rfl (c_X8_formatOptimalLine (d := d - 1) hl (by omega) h j) (show d - 1 + 1 ≤ d from by omega) (Nat.le_of_ble_eq_true rfl) ?_
  rintro r9 s1 ⟨rfl, e1⟩
  have hc := e1
  have m1 : MI s1 a := m.lo hc.2
  refine J.aload_n 2 dL_law_2774 rfl rfl ?_
  refine I.callV0q (d' := d - 1) (mi' := mX9_formatOptimalLine) dL_law_2775 lL_371 eX9_formatOptimalLine rfl rfl (c_X9_formatOptimalLine (d := d - 1) hl (by omega) m1 j) (show d - 1 + 1 ≤ d from by omega) (Nat.le_of_ble_eq_true rfl) ?_
  rintro w9 s2 ⟨rfl, e2⟩
  have hm2 := And.intro e2.1 (And.intro e2.2.2 e2.2.1)
  refine I.icmpS 2839 dL_law_2778 (by decide) ?_
  refine J.fgt (L' := [some (.ref 2000000), some (.ref 0), some (.ref 137), some (.ref 142), some (.ref 143), some (.int (iI (i : Int))), none, none, none]) (by exact ⟨Or.inr rfl, Or.inr rfl, Or.inr rfl, Or.inr rfl, Or.inr rfl, Or.inr rfl, Or.inl rfl, Or.inl rfl, Or.inl rfl, trivial⟩) ?_
  exact J.mono (kx s2 _ _ (AI.txt j (gLogT_ok (gRun_lv 42 j.1.1 j.1.2).2.1 (by have f5 := j.1.2.moves; omega))) (hc.1.hi hm2.2.1) hm2.1) (fun _ _ h => h) (fun _ _ h => h) ⟨show d ≤ d from Nat.le_refl d, by show mc ≤ mc + 2 - 0; omega, by show ms ≤ ms + 12 - 0; omega⟩
set_option maxHeartbeats 4000000 in
theorem lc_63 {Γ : jE} (hl : Γ.1.stackTraces = false) {Ls : Nat} {xs : Nat → Int32} (hsc : Γ.2.2 = some (Ls, xs)) {s : Nat → Int → Int} {ε : jEps} {d i mc ms : Nat} {a : AS} {P : Option Value → jM → Prop} {X : String → jM → Prop} (hd : 131 ≤ d) (hi : i + 6 ≤ Ls) (hL : Ls ≤ 3072) (h : CI s a) (m : MI s a) (j : AI a) (kx : ∀ s' ε' a', AI a' → CI s' a' → MI s' a' → J Γ (d, mc, ms) mL_law 2839 [some (.ref 2000000), some (.ref 0), some (.ref 137), some (.ref 142), some (.ref 143), some (.int (iI (i : Int))), none, none, none] [] (jmem s' ε') P X) : J Γ (d, mc + 2, ms + 12) mL_law 2783 [some (.ref 2000000), some (.ref 0), some (.ref 137), some (.ref 142), some (.ref 143), some (.int (iI (i : Int))), none, none, none] [] (jmem s ε) P X := by
  refine J.aload_n 1 dL_law_2783 rfl rfl ?_
  refine J.aload_n 0 dL_law_2784 rfl rfl ?_
  refine J.iload dL_law_2785 rfl ?_
  refine I.iconst dL_law_2787 ?_
  refine I.add dL_law_2788 ?_
  refine I.sld (j := i + 1) hsc (by omega) (by omega) hL dL_law_2789 ?_
  refine J.aload_n 3 dL_law_2790 rfl rfl ?_
  refine J.callW3 (b' := (d - 1, 1, 6)) (mi' := mL_formattedCharacter) dL_law_2791 lL_372 eL_formattedCharacter (c_L_formattedCharacter (d := d - 1) hl (by omega) h j (iI_rng _)) (show d - 1 + 1 ≤ d ∧ 1 ≤ mc + 2 ∧ 6 ≤ ms + 12 from ⟨by omega, by omega, by omega⟩) (Nat.le_of_ble_eq_true rfl) ?_
  rintro v M' ⟨s1, ε1, k9, rfl, rfl, hk⟩
  refine J.istore dL_law_2794 (by decide) rfl ?_
  rcases hk with ⟨rfl, r9, hq, hε⟩ | ⟨rfl, hx⟩ | ⟨rfl, hx⟩
  · skip
    obtain ⟨hcond, rfl, e1⟩ := hq
    have hc : CI s1 a ∧ HiE s s1 := by subst e1; exact ⟨h, fun _ _ _ => rfl⟩
    have m1 : MI s1 a := m.lo hc.2
    refine J.aload_n 2 dL_law_2796 rfl rfl ?_
    refine J.aload_n 0 dL_law_2797 rfl rfl ?_
    refine J.iload dL_law_2798 rfl ?_
    refine I.iconst dL_law_2800 ?_
    refine I.add dL_law_2801 ?_
    refine I.sld (j := i + 1) hsc (by omega) (by omega) hL dL_law_2802 ?_
    refine I.callV1q (d' := d - 1) (mi' := mX9_formattedCharacter) dL_law_2803 lL_374 eX9_formattedCharacter rfl rfl (c_X9_formattedCharacter (d := d - 1) hl (by omega) m1 j (iI_rng _)) (show d - 1 + 1 ≤ d from by omega) (Nat.le_of_ble_eq_true rfl) ?_
    rintro w9 s2 h2
    rcases h2 with ⟨hm, rfl, e2⟩ | ⟨hm, e2⟩
    · skip
      have hm2 : MI s2 a ∧ LoE s1 s2 ∧ s2 137 0 = 0 := by subst e2; exact ⟨m1.th, fun q i hq => up_ne (by omega), up_eq _ _ _ _⟩
      refine J.istore dL_law_2806 (by decide) rfl ?_
      refine J.aload_n 2 dL_law_2808 rfl rfl ?_
      refine I.callV0i (d' := d - 1) (mi' := mX9_thrown) dL_law_2809 lL_151 eX9_thrown rfl rfl (c_X9_thrown (d := d - 1) hl (by omega)) (show d - 1 + 1 ≤ d from by omega) (Nat.le_of_ble_eq_true rfl) ?_
      refine I.sx hm2.2.2 ?_
      refine J.iload dL_law_2812 rfl ?_
      refine I.icmpS 2819 dL_law_2814 (by decide) ?_
      refine J.iload dL_law_2819 rfl ?_
      refine I.if_ne0 (tgt := 2836) dL_law_2821 (by decide) ?_
      refine J.aload_n 3 dL_law_2824 rfl rfl ?_
      refine I.iconst dL_law_2825 ?_
      refine I.lald0 hε dL_law_2826 ?_
      refine J.iload dL_law_2827 rfl ?_
      refine J.i2l dL_law_2829 ?_
      refine I.lcmpS dL_law_2830 ?_
      refine I.if_eq0 2836 dL_law_2831 (by decide) ?_
      refine J.goto 2839 dL_law_2836 (by decide) ?_
      refine J.fgt (L' := [some (.ref 2000000), some (.ref 0), some (.ref 137), some (.ref 142), some (.ref 143), some (.int (iI (i : Int))), none, none, none]) (by exact ⟨Or.inr rfl, Or.inr rfl, Or.inr rfl, Or.inr rfl, Or.inr rfl, Or.inr rfl, Or.inl rfl, Or.inl rfl, Or.inl rfl, trivial⟩) ?_
      exact J.mono (kx s2 _ _ (j) (hc.1.hi hm2.2.1) hm2.1) (fun _ _ h => h) (fun _ _ h => h) ⟨show d ≤ d from Nat.le_refl d, by show mc ≤ mc + 2 - 1; omega, by show ms ≤ ms + 12 - 6; omega⟩
    · exact absurd hcond hm
  · skip
    obtain ⟨hcond, e1⟩ := hx
    have hc : CI s1 a ∧ HiE s s1 := by subst e1; exact ⟨h, fun _ _ _ => rfl⟩
    have m1 : MI s1 a := m.lo hc.2
    refine J.aload_n 2 dL_law_2796 rfl rfl ?_
    refine J.aload_n 0 dL_law_2797 rfl rfl ?_
    refine J.iload dL_law_2798 rfl ?_
    refine I.iconst dL_law_2800 ?_
    refine I.add dL_law_2801 ?_
    refine I.sld (j := i + 1) hsc (by omega) (by omega) hL dL_law_2802 ?_
    refine I.callV1q (d' := d - 1) (mi' := mX9_formattedCharacter) dL_law_2803 lL_374 eX9_formattedCharacter rfl rfl (c_X9_formattedCharacter (d := d - 1) hl (by omega) m1 j (iI_rng _)) (show d - 1 + 1 ≤ d from by omega) (Nat.le_of_ble_eq_true rfl) ?_
    rintro w9 s2 h2
    rcases h2 with ⟨hm, rfl, e2⟩ | ⟨hm, e2⟩
    · exact absurd hm hcond
    · skip
      have hm2 : MI s2 a ∧ LoE s1 s2 ∧ s2 137 0 = 1 := by subst e2; exact ⟨m1.th, fun q i hq => up_ne (by omega), up_eq _ _ _ _⟩
      refine J.istore dL_law_2806 (by decide) rfl ?_
      refine J.aload_n 2 dL_law_2808 rfl rfl ?_
      refine I.callV0i (d' := d - 1) (mi' := mX9_thrown) dL_law_2809 lL_151 eX9_thrown rfl rfl (c_X9_thrown (d := d - 1) hl (by omega)) (show d - 1 + 1 ≤ d from by omega) (Nat.le_of_ble_eq_true rfl) ?_
      refine I.sx hm2.2.2 ?_
      refine J.iload dL_law_2812 rfl ?_
      refine I.icmpS 2819 dL_law_2814 (by decide) ?_
      refine J.iload dL_law_2819 rfl ?_
      refine I.if_ne1 (Or.inl rfl) 2836 dL_law_2821 (by decide) ?_
      refine J.goto 2839 dL_law_2836 (by decide) ?_
      refine J.fgt (L' := [some (.ref 2000000), some (.ref 0), some (.ref 137), some (.ref 142), some (.ref 143), some (.int (iI (i : Int))), none, none, none]) (by exact ⟨Or.inr rfl, Or.inr rfl, Or.inr rfl, Or.inr rfl, Or.inr rfl, Or.inr rfl, Or.inl rfl, Or.inl rfl, Or.inl rfl, trivial⟩) ?_
      exact J.mono (kx s2 _ _ (j) (hc.1.hi hm2.2.1) hm2.1) (fun _ _ h => h) (fun _ _ h => h) ⟨show d ≤ d from Nat.le_refl d, by show mc ≤ mc + 2 - 1; omega, by show ms ≤ ms + 12 - 6; omega⟩
  · exact absurd hx id
