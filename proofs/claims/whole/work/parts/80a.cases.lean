theorem I.callV1d {Γ : jE} {b : Nat × Nat × Nat} {mi : jMI} {pc : Nat} {L : List (Option Value)} {S : List Value} {P : Option Value → jM → Prop} {X : String → jM → Prop} {s : Nat → Int → Int} {ε : jEps} {q : Nat} {idx d' : Nat} {mi' : jMI} {a0 : Value} {Q : UInt64 → (Nat → Int → Int) → Prop} (d : decode mi.2.1 pc = .ok (.invokevirtual idx, 3)) (hl : Cond.methodLink mi.1.cls idx mi'.1 ∈ jG) (hs : jVE mi' 1) {ci n : Nat} (hq : jsh[q]? = some (ci, n)) (hqc : (vwCl[ci]?).map (fun z => z.1) = some mi'.1.cls) (hc : Con Γ (d', 0, 0) mi' [.ref q, a0] (jmem s ε) (RD Q ε) X0) (hb : d' + 1 ≤ b.1) (hcat : (S.map fun v => v.category).sum ≤ 8) (k : ∀ r s', Q r s' → J Γ b mi (pc + 3) L (.double r :: S) (jmem s' ε) P X) : J Γ b mi pc L (a0 :: .ref q :: S) (jmem s ε) P X :=
  J.callV [a0] d hl hs hq hqc ⟨hb, Nat.zero_le _, Nat.zero_le _⟩ hc hXX hcat (by rintro v M' ⟨r, s', rfl, rfl, hq⟩; exact k r s' hq)
set_option maxHeartbeats 4000000 in
theorem lc_0 {Γ : jE} (hl : Γ.1.stackTraces = false) {Ls : Nat} {xs : Nat → Int32} (hsc : Γ.2.2 = some (Ls, xs)) {s : Nat → Int → Int} {ε : jEps} {d i mc ms : Nat} {a : AS} {P : Option Value → jM → Prop} {X : String → jM → Prop} (hd : 131 ≤ d) (hi : i + 6 ≤ Ls) (hL : Ls ≤ 3072) (h : CI s a) (m : MI s a) (j : AI a) (kx : ∀ s' ε' a', AI a' → CI s' a' → MI s' a' → J Γ (d, mc, ms) mL_law 2839 [some (.ref 2000000), some (.ref 0), some (.ref 137), some (.ref 142), some (.ref 143), some (.int (iI (i : Int))), none, none, none] [] (jmem s' ε') P X) : J Γ (d, mc + 2, ms + 12) mL_law 316 [some (.ref 2000000), some (.ref 0), some (.ref 137), some (.ref 142), some (.ref 143), some (.int (iI (i : Int))), none, none, none] [] (jmem s ε) P X := by
  refine J.aload_n 1 dL_law_316 rfl rfl ?_
  refine J.aload_n 0 dL_law_317 rfl rfl ?_
  refine J.iload dL_law_318 rfl ?_
  refine I.iconst dL_law_320 ?_
  refine I.add dL_law_321 ?_
  refine I.sld (j := i + 1) hsc (by omega) (by omega) hL dL_law_322 ?_
  refine J.aload_n 0 dL_law_323 rfl rfl ?_
  refine J.iload dL_law_324 rfl ?_
  refine I.iconst dL_law_326 ?_
  refine I.add dL_law_327 ?_
  refine I.sld (j := i + 2) hsc (by omega) (by omega) hL dL_law_328 ?_
  refine J.aload_n 0 dL_law_329 rfl rfl ?_
  refine J.iload dL_law_330 rfl ?_
  refine I.iconst dL_law_332 ?_
  refine I.add dL_law_333 ?_
  refine I.sld (j := i + 3) hsc (by omega) (by omega) hL dL_law_334 ?_
  refine J.aload_n 0 dL_law_335 rfl rfl ?_
  refine J.iload dL_law_336 rfl ?_
  refine I.iconst dL_law_338 ?_
  refine I.add dL_law_339 ?_
  refine I.sld (j := i + 4) hsc (by omega) (by omega) hL dL_law_340 ?_
  refine J.aload_n 0 dL_law_341 rfl rfl ?_
  refine J.iload dL_law_342 rfl ?_
  refine I.iconst dL_law_344 ?_
  refine I.add dL_law_345 ?_
  refine I.sld (j := i + 5) hsc (by omega) (by omega) hL dL_law_346 ?_
  refine J.aload_n 3 dL_law_347 rfl rfl ?_
  refine J.callW7 (b' := (d - 1, 1, 6)) (mi' := mL_append) dL_law_348 lL_145 eL_append (c_L_append (d := d - 1) hl (by omega) h j (iI_rng _) (iI_rng _) (iI_rng _) (iI_rng _) (iI_rng _)) (show d - 1 + 1 ≤ d ∧ 1 ≤ mc + 2 ∧ 6 ≤ ms + 12 from ⟨by omega, by omega, by omega⟩) (Nat.le_of_ble_eq_true rfl) ?_
  rintro v M' ⟨s1, ε1, k9, rfl, rfl, hk⟩
  refine J.istore dL_law_351 (by decide) rfl ?_
  rcases hk with ⟨rfl, r9, hq, hε⟩ | ⟨rfl, hx⟩ | ⟨rfl, hx⟩
  · skip
    obtain ⟨hcond, rfl, e1⟩ := hq
    have hc := e1
    have m1 : MI s1 a := m.lo hc.2
    refine J.aload_n 2 dL_law_353 rfl rfl ?_
    refine J.aload_n 0 dL_law_354 rfl rfl ?_
    refine J.iload dL_law_355 rfl ?_
    refine I.iconst dL_law_357 ?_
    refine I.add dL_law_358 ?_
    refine I.sld (j := i + 1) hsc (by omega) (by omega) hL dL_law_359 ?_
    refine J.aload_n 0 dL_law_360 rfl rfl ?_
    refine J.iload dL_law_361 rfl ?_
    refine I.iconst dL_law_363 ?_
    refine I.add dL_law_364 ?_
    refine I.sld (j := i + 2) hsc (by omega) (by omega) hL dL_law_365 ?_
    refine J.aload_n 0 dL_law_366 rfl rfl ?_
    refine J.iload dL_law_367 rfl ?_
    refine I.iconst dL_law_369 ?_
    refine I.add dL_law_370 ?_
    refine I.sld (j := i + 3) hsc (by omega) (by omega) hL dL_law_371 ?_
    refine J.aload_n 0 dL_law_372 rfl rfl ?_
    refine J.iload dL_law_373 rfl ?_
    refine I.iconst dL_law_375 ?_
    refine I.add dL_law_376 ?_
    refine I.sld (j := i + 4) hsc (by omega) (by omega) hL dL_law_377 ?_
    refine J.aload_n 0 dL_law_378 rfl rfl ?_
    refine J.iload dL_law_379 rfl ?_
    refine I.iconst dL_law_381 ?_
    refine I.add dL_law_382 ?_
    refine I.sld (j := i + 5) hsc (by omega) (by omega) hL dL_law_383 ?_
    refine I.callV5q (d' := d - 1) (mi' := mX9_append) dL_law_384 lL_150 eX9_append rfl rfl (c_X9_append (d := d - 1) hl (by omega) m1 j (iI_rng _) (iI_rng _) (iI_rng _) (iI_rng _) (iI_rng _)) (show d - 1 + 1 ≤ d from by omega) (Nat.le_of_ble_eq_true rfl) ?_
    rintro w9 s2 h2
    rcases h2 with ⟨hm, rfl, e2⟩ | ⟨hm, e2⟩
    · skip
      have hm2 := And.intro e2.1 (And.intro e2.2.2 e2.2.1)
      refine J.istore dL_law_387 (by decide) rfl ?_
      refine J.aload_n 2 dL_law_389 rfl rfl ?_
      refine I.callV0i (d' := d - 1) (mi' := mX9_thrown) dL_law_390 lL_151 eX9_thrown rfl rfl (c_X9_thrown (d := d - 1) hl (by omega)) (show d - 1 + 1 ≤ d from by omega) (Nat.le_of_ble_eq_true rfl) ?_
      refine I.sx hm2.2.2 ?_
      refine J.iload dL_law_393 rfl ?_
      refine I.icmpS 400 dL_law_395 (by decide) ?_
      refine J.iload dL_law_400 rfl ?_
      refine I.if_ne0 (tgt := 417) dL_law_402 (by decide) ?_
      refine J.aload_n 3 dL_law_405 rfl rfl ?_
      refine I.iconst dL_law_406 ?_
      refine I.lald0 hε dL_law_407 ?_
      refine J.iload dL_law_408 rfl ?_
      refine J.i2l dL_law_410 ?_
      refine I.lcmpS dL_law_411 ?_
      refine I.if_eq0 417 dL_law_412 (by decide) ?_
      refine J.goto 2839 dL_law_417 (by decide) ?_
      refine J.fgt (L' := [some (.ref 2000000), some (.ref 0), some (.ref 137), some (.ref 142), some (.ref 143), some (.int (iI (i : Int))), none, none, none]) (by exact ⟨Or.inr rfl, Or.inr rfl, Or.inr rfl, Or.inr rfl, Or.inr rfl, Or.inr rfl, Or.inl rfl, Or.inl rfl, Or.inl rfl, trivial⟩) ?_
      exact J.mono (kx s2 _ _ (AI.app j hcond) (hc.1.hi hm2.2.1) hm2.1) (fun _ _ h => h) (fun _ _ h => h) ⟨show d ≤ d from Nat.le_refl d, by show mc ≤ mc + 2 - 1; omega, by show ms ≤ ms + 12 - 6; omega⟩
    · exact absurd hcond hm
  · skip
    obtain ⟨hcond, e1⟩ := hx
    have hc : CI s1 a ∧ HiE s s1 := by subst e1; exact ⟨h, fun _ _ _ => rfl⟩
    have m1 : MI s1 a := m.lo hc.2
    refine J.aload_n 2 dL_law_353 rfl rfl ?_
    refine J.aload_n 0 dL_law_354 rfl rfl ?_
    refine J.iload dL_law_355 rfl ?_
    refine I.iconst dL_law_357 ?_
    refine I.add dL_law_358 ?_
    refine I.sld (j := i + 1) hsc (by omega) (by omega) hL dL_law_359 ?_
    refine J.aload_n 0 dL_law_360 rfl rfl ?_
    refine J.iload dL_law_361 rfl ?_
    refine I.iconst dL_law_363 ?_
    refine I.add dL_law_364 ?_
    refine I.sld (j := i + 2) hsc (by omega) (by omega) hL dL_law_365 ?_
    refine J.aload_n 0 dL_law_366 rfl rfl ?_
    refine J.iload dL_law_367 rfl ?_
    refine I.iconst dL_law_369 ?_
    refine I.add dL_law_370 ?_
    refine I.sld (j := i + 3) hsc (by omega) (by omega) hL dL_law_371 ?_
    refine J.aload_n 0 dL_law_372 rfl rfl ?_
    refine J.iload dL_law_373 rfl ?_
    refine I.iconst dL_law_375 ?_
    refine I.add dL_law_376 ?_
    refine I.sld (j := i + 4) hsc (by omega) (by omega) hL dL_law_377 ?_
    refine J.aload_n 0 dL_law_378 rfl rfl ?_
    refine J.iload dL_law_379 rfl ?_
    refine I.iconst dL_law_381 ?_
    refine I.add dL_law_382 ?_
    refine I.sld (j := i + 5) hsc (by omega) (by omega) hL dL_law_383 ?_
    refine I.callV5q (d' := d - 1) (mi' := mX9_append) dL_law_384 lL_150 eX9_append rfl rfl (c_X9_append (d := d - 1) hl (by omega) m1 j (iI_rng _) (iI_rng _) (iI_rng _) (iI_rng _) (iI_rng _)) (show d - 1 + 1 ≤ d from by omega) (Nat.le_of_ble_eq_true rfl) ?_
    rintro w9 s2 h2
    rcases h2 with ⟨hm, rfl, e2⟩ | ⟨hm, e2⟩
    · exact absurd hm hcond
    · skip
      have hm2 : MI s2 a ∧ LoE s1 s2 ∧ s2 137 0 = 1 := by subst e2; exact ⟨m1.th, fun q i hq => up_ne (by omega), up_eq _ _ _ _⟩
      refine J.istore dL_law_387 (by decide) rfl ?_
      refine J.aload_n 2 dL_law_389 rfl rfl ?_
      refine I.callV0i (d' := d - 1) (mi' := mX9_thrown) dL_law_390 lL_151 eX9_thrown rfl rfl (c_X9_thrown (d := d - 1) hl (by omega)) (show d - 1 + 1 ≤ d from by omega) (Nat.le_of_ble_eq_true rfl) ?_
      refine I.sx hm2.2.2 ?_
      refine J.iload dL_law_393 rfl ?_
      refine I.icmpS 400 dL_law_395 (by decide) ?_
      refine J.iload dL_law_400 rfl ?_
      refine I.if_ne1 (Or.inl rfl) 417 dL_law_402 (by decide) ?_
      refine J.goto 2839 dL_law_417 (by decide) ?_
      refine J.fgt (L' := [some (.ref 2000000), some (.ref 0), some (.ref 137), some (.ref 142), some (.ref 143), some (.int (iI (i : Int))), none, none, none]) (by exact ⟨Or.inr rfl, Or.inr rfl, Or.inr rfl, Or.inr rfl, Or.inr rfl, Or.inr rfl, Or.inl rfl, Or.inl rfl, Or.inl rfl, trivial⟩) ?_
      exact J.mono (kx s2 _ _ (j) (hc.1.hi hm2.2.1) hm2.1) (fun _ _ h => h) (fun _ _ h => h) ⟨show d ≤ d from Nat.le_refl d, by show mc ≤ mc + 2 - 1; omega, by show ms ≤ ms + 12 - 6; omega⟩
  · exact absurd hx id
set_option maxHeartbeats 4000000 in
theorem lc_1 {Γ : jE} (hl : Γ.1.stackTraces = false) {Ls : Nat} {xs : Nat → Int32} (hsc : Γ.2.2 = some (Ls, xs)) {s : Nat → Int → Int} {ε : jEps} {d i mc ms : Nat} {a : AS} {P : Option Value → jM → Prop} {X : String → jM → Prop} (hd : 131 ≤ d) (hi : i + 6 ≤ Ls) (hL : Ls ≤ 3072) (h : CI s a) (m : MI s a) (j : AI a) (kx : ∀ s' ε' a', AI a' → CI s' a' → MI s' a' → J Γ (d, mc, ms) mL_law 2839 [some (.ref 2000000), some (.ref 0), some (.ref 137), some (.ref 142), some (.ref 143), some (.int (iI (i : Int))), none, none, none] [] (jmem s' ε') P X) : J Γ (d, mc + 2, ms + 12) mL_law 420 [some (.ref 2000000), some (.ref 0), some (.ref 137), some (.ref 142), some (.ref 143), some (.int (iI (i : Int))), none, none, none] [] (jmem s ε) P X := by
  refine J.aload_n 1 dL_law_420 rfl rfl ?_
  refine J.aload_n 0 dL_law_421 rfl rfl ?_
  refine J.iload dL_law_422 rfl ?_
  refine I.iconst dL_law_424 ?_
  refine I.add dL_law_425 ?_
  refine I.sld (j := i + 1) hsc (by omega) (by omega) hL dL_law_426 ?_
  refine J.callW2 (b' := (d - 1, 1, 6)) (mi' := mL_truncate) dL_law_427 lL_154 eL_truncate (c_L_truncate (d := d - 1) hl (by omega) h j (iI_rng _)) (show d - 1 + 1 ≤ d ∧ 1 ≤ mc + 2 ∧ 6 ≤ ms + 12 from ⟨by omega, by omega, by omega⟩) (Nat.le_of_ble_eq_true rfl) ?_
  rintro v M' ⟨s1, ε1, k9, rfl, rfl, hk⟩
  refine J.istore dL_law_430 (by decide) rfl ?_
  rcases hk with ⟨rfl, hq⟩ | ⟨rfl, hx⟩
  · skip
    obtain ⟨hcond, e1⟩ := hq
    have hc := e1
    have m1 : MI s1 a := m.lo hc.2
    refine J.aload_n 2 dL_law_432 rfl rfl ?_
    refine J.aload_n 0 dL_law_433 rfl rfl ?_
    refine J.iload dL_law_434 rfl ?_
    refine I.iconst dL_law_436 ?_
    refine I.add dL_law_437 ?_
    refine I.sld (j := i + 1) hsc (by omega) (by omega) hL dL_law_438 ?_
    refine I.callV1w (d' := d - 1) (mi' := mX9_truncate) dL_law_439 lL_157 eX9_truncate rfl rfl (c_X9_truncate (d := d - 1) hl (by omega) m1 j (iI_rng _)) (show d - 1 + 1 ≤ d from by omega) (Nat.le_of_ble_eq_true rfl) ?_
    rintro s2 h2
    rcases h2 with ⟨hm, e2⟩ | ⟨hm, e2⟩
    · skip
      have hm2 := And.intro e2.1 (And.intro e2.2.2 e2.2.1)
      refine J.aload_n 2 dL_law_442 rfl rfl ?_
      refine I.callV0i (d' := d - 1) (mi' := mX9_thrown) dL_law_443 lL_151 eX9_thrown rfl rfl (c_X9_thrown (d := d - 1) hl (by omega)) (show d - 1 + 1 ≤ d from by omega) (Nat.le_of_ble_eq_true rfl) ?_
      refine I.sx hm2.2.2 ?_
      refine J.iload dL_law_446 rfl ?_
      refine I.icmpS 453 dL_law_448 (by decide) ?_
      refine J.goto 2839 dL_law_453 (by decide) ?_
      refine J.fgt (L' := [some (.ref 2000000), some (.ref 0), some (.ref 137), some (.ref 142), some (.ref 143), some (.int (iI (i : Int))), none, none, none]) (by exact ⟨Or.inr rfl, Or.inr rfl, Or.inr rfl, Or.inr rfl, Or.inr rfl, Or.inr rfl, Or.inl rfl, Or.inl rfl, Or.inl rfl, trivial⟩) ?_
      exact J.mono (kx s2 _ _ (AI.inp j ⟨hcond.1, by have := j.2.2.2.2.2.2.1; omega⟩ (fun z z0 z1 => j.2.2.2.2.2.2.2.1 z z0 (by omega))) (hc.1.hi hm2.2.1) hm2.1) (fun _ _ h => h) (fun _ _ h => h) ⟨show d ≤ d from Nat.le_refl d, by show mc ≤ mc + 2 - 1; omega, by show ms ≤ ms + 12 - 6; omega⟩
    · exact absurd hcond hm
  · skip
    obtain ⟨hcond, e1⟩ := hx
    have hc : CI s1 a ∧ HiE s s1 := by subst e1; exact ⟨h, fun _ _ _ => rfl⟩
    have m1 : MI s1 a := m.lo hc.2
    refine J.aload_n 2 dL_law_432 rfl rfl ?_
    refine J.aload_n 0 dL_law_433 rfl rfl ?_
    refine J.iload dL_law_434 rfl ?_
    refine I.iconst dL_law_436 ?_
    refine I.add dL_law_437 ?_
    refine I.sld (j := i + 1) hsc (by omega) (by omega) hL dL_law_438 ?_
    refine I.callV1w (d' := d - 1) (mi' := mX9_truncate) dL_law_439 lL_157 eX9_truncate rfl rfl (c_X9_truncate (d := d - 1) hl (by omega) m1 j (iI_rng _)) (show d - 1 + 1 ≤ d from by omega) (Nat.le_of_ble_eq_true rfl) ?_
    rintro s2 h2
    rcases h2 with ⟨hm, e2⟩ | ⟨hm, e2⟩
    · exact absurd hm hcond
    · skip
      have hm2 : MI s2 a ∧ LoE s1 s2 ∧ s2 137 0 = 1 := by subst e2; exact ⟨m1.th, fun q i hq => up_ne (by omega), up_eq _ _ _ _⟩
      refine J.aload_n 2 dL_law_442 rfl rfl ?_
      refine I.callV0i (d' := d - 1) (mi' := mX9_thrown) dL_law_443 lL_151 eX9_thrown rfl rfl (c_X9_thrown (d := d - 1) hl (by omega)) (show d - 1 + 1 ≤ d from by omega) (Nat.le_of_ble_eq_true rfl) ?_
      refine I.sx hm2.2.2 ?_
      refine J.iload dL_law_446 rfl ?_
      refine I.icmpS 453 dL_law_448 (by decide) ?_
      refine J.goto 2839 dL_law_453 (by decide) ?_
      refine J.fgt (L' := [some (.ref 2000000), some (.ref 0), some (.ref 137), some (.ref 142), some (.ref 143), some (.int (iI (i : Int))), none, none, none]) (by exact ⟨Or.inr rfl, Or.inr rfl, Or.inr rfl, Or.inr rfl, Or.inr rfl, Or.inr rfl, Or.inl rfl, Or.inl rfl, Or.inl rfl, trivial⟩) ?_
      exact J.mono (kx s2 _ _ (j) (hc.1.hi hm2.2.1) hm2.1) (fun _ _ h => h) (fun _ _ h => h) ⟨show d ≤ d from Nat.le_refl d, by show mc ≤ mc + 2 - 1; omega, by show ms ≤ ms + 12 - 6; omega⟩
set_option maxHeartbeats 4000000 in
theorem lc_2 {Γ : jE} (hl : Γ.1.stackTraces = false) {Ls : Nat} {xs : Nat → Int32} (hsc : Γ.2.2 = some (Ls, xs)) {s : Nat → Int → Int} {ε : jEps} {d i mc ms : Nat} {a : AS} {P : Option Value → jM → Prop} {X : String → jM → Prop} (hd : 131 ≤ d) (hi : i + 6 ≤ Ls) (hL : Ls ≤ 3072) (h : CI s a) (m : MI s a) (j : AI a) (kx : ∀ s' ε' a', AI a' → CI s' a' → MI s' a' → J Γ (d, mc, ms) mL_law 2839 [some (.ref 2000000), some (.ref 0), some (.ref 137), some (.ref 142), some (.ref 143), some (.int (iI (i : Int))), none, none, none] [] (jmem s' ε') P X) : J Γ (d, mc + 2, ms + 12) mL_law 456 [some (.ref 2000000), some (.ref 0), some (.ref 137), some (.ref 142), some (.ref 143), some (.int (iI (i : Int))), none, none, none] [] (jmem s ε) P X := by
  refine J.aload_n 1 dL_law_456 rfl rfl ?_
  refine J.aload_n 3 dL_law_457 rfl rfl ?_
  refine J.callW2 (b' := (d - 1, 1, 6)) (mi' := mL_load) dL_law_458 lL_158 eL_load (c_L_load (d := d - 1) hl (by omega) h j) (show d - 1 + 1 ≤ d ∧ 1 ≤ mc + 2 ∧ 6 ≤ ms + 12 from ⟨by omega, by omega, by omega⟩) (Nat.le_of_ble_eq_true rfl) ?_
  rintro v M' ⟨s1, ε1, k9, rfl, rfl, hk⟩
  refine J.istore dL_law_461 (by decide) rfl ?_
  rcases hk with ⟨rfl, r9, hq, hε⟩ | ⟨rfl, hx⟩ | ⟨rfl, hx⟩
  · skip
    obtain ⟨hcond, rfl, e1⟩ := hq
    have hai := e1.2.1
    have hc := And.intro e1.1 e1.2.2
    have m1 : MI s1 a := m.lo hc.2
    refine J.aload_n 2 dL_law_463 rfl rfl ?_
    refine I.callV0q (d' := d - 1) (mi' := mX9_load) dL_law_464 lL_161 eX9_load rfl rfl (c_X9_load (d := d - 1) hl (by omega) m1 j) (show d - 1 + 1 ≤ d from by omega) (Nat.le_of_ble_eq_true rfl) ?_
    rintro w9 s2 h2
    rcases h2 with ⟨hm, rfl, e2⟩ | ⟨hm, e2⟩
    · skip
      have hm2 := And.intro e2.1 (And.intro e2.2.2 e2.2.1)
      refine J.istore dL_law_467 (by decide) rfl ?_
      refine J.aload_n 2 dL_law_469 rfl rfl ?_
      refine I.callV0i (d' := d - 1) (mi' := mX9_thrown) dL_law_470 lL_151 eX9_thrown rfl rfl (c_X9_thrown (d := d - 1) hl (by omega)) (show d - 1 + 1 ≤ d from by omega) (Nat.le_of_ble_eq_true rfl) ?_
      refine I.sx hm2.2.2 ?_
      refine J.iload dL_law_473 rfl ?_
      refine I.icmpS 480 dL_law_475 (by decide) ?_
      refine J.iload dL_law_480 rfl ?_
      refine I.if_ne0 (tgt := 497) dL_law_482 (by decide) ?_
      refine J.aload_n 3 dL_law_485 rfl rfl ?_
      refine I.iconst dL_law_486 ?_
      refine I.lald0 hε dL_law_487 ?_
      refine J.iload dL_law_488 rfl ?_
      refine J.i2l dL_law_490 ?_
      refine I.lcmpS dL_law_491 ?_
      refine I.if_eq0 497 dL_law_492 (by decide) ?_
      refine J.goto 2839 dL_law_497 (by decide) ?_
      refine J.fgt (L' := [some (.ref 2000000), some (.ref 0), some (.ref 137), some (.ref 142), some (.ref 143), some (.int (iI (i : Int))), none, none, none]) (by exact ⟨Or.inr rfl, Or.inr rfl, Or.inr rfl, Or.inr rfl, Or.inr rfl, Or.inr rfl, Or.inl rfl, Or.inl rfl, Or.inl rfl, trivial⟩) ?_
      exact J.mono (kx s2 _ _ (hai) (hc.1.hi hm2.2.1) hm2.1) (fun _ _ h => h) (fun _ _ h => h) ⟨show d ≤ d from Nat.le_refl d, by show mc ≤ mc + 2 - 1; omega, by show ms ≤ ms + 12 - 6; omega⟩
    · exact absurd hcond hm
  · skip
    obtain ⟨hcond, e1⟩ := hx
    have hc := e1
    have m1 : MI s1 a := m.lo hc.2
    refine J.aload_n 2 dL_law_463 rfl rfl ?_
    refine I.callV0q (d' := d - 1) (mi' := mX9_load) dL_law_464 lL_161 eX9_load rfl rfl (c_X9_load (d := d - 1) hl (by omega) m1 j) (show d - 1 + 1 ≤ d from by omega) (Nat.le_of_ble_eq_true rfl) ?_
    rintro w9 s2 h2
    rcases h2 with ⟨hm, rfl, e2⟩ | ⟨hm, e2⟩
    · exact absurd hm hcond
    · skip
      have hm2 := And.intro e2.1 (And.intro e2.2.2 e2.2.1)
      refine J.istore dL_law_467 (by decide) rfl ?_
      refine J.aload_n 2 dL_law_469 rfl rfl ?_
      refine I.callV0i (d' := d - 1) (mi' := mX9_thrown) dL_law_470 lL_151 eX9_thrown rfl rfl (c_X9_thrown (d := d - 1) hl (by omega)) (show d - 1 + 1 ≤ d from by omega) (Nat.le_of_ble_eq_true rfl) ?_
      refine I.sx hm2.2.2 ?_
      refine J.iload dL_law_473 rfl ?_
      refine I.icmpS 480 dL_law_475 (by decide) ?_
      refine J.iload dL_law_480 rfl ?_
      refine I.if_ne1 (Or.inl rfl) 497 dL_law_482 (by decide) ?_
      refine J.goto 2839 dL_law_497 (by decide) ?_
      refine J.fgt (L' := [some (.ref 2000000), some (.ref 0), some (.ref 137), some (.ref 142), some (.ref 143), some (.int (iI (i : Int))), none, none, none]) (by exact ⟨Or.inr rfl, Or.inr rfl, Or.inr rfl, Or.inr rfl, Or.inr rfl, Or.inr rfl, Or.inl rfl, Or.inl rfl, Or.inl rfl, trivial⟩) ?_
      exact J.mono (kx s2 _ _ (AI.badp j) (hc.1.hi hm2.2.1) hm2.1) (fun _ _ h => h) (fun _ _ h => h) ⟨show d ≤ d from Nat.le_refl d, by show mc ≤ mc + 2 - 1; omega, by show ms ≤ ms + 12 - 6; omega⟩
  · exact absurd hx id
set_option maxHeartbeats 4000000 in
theorem lc_3 {Γ : jE} (hl : Γ.1.stackTraces = false) {Ls : Nat} {xs : Nat → Int32} (hsc : Γ.2.2 = some (Ls, xs)) {s : Nat → Int → Int} {ε : jEps} {d i mc ms : Nat} {a : AS} {P : Option Value → jM → Prop} {X : String → jM → Prop} (hd : 131 ≤ d) (hi : i + 6 ≤ Ls) (hL : Ls ≤ 3072) (h : CI s a) (m : MI s a) (j : AI a) (kx : ∀ s' ε' a', AI a' → CI s' a' → MI s' a' → J Γ (d, mc, ms) mL_law 2839 [some (.ref 2000000), some (.ref 0), some (.ref 137), some (.ref 142), some (.ref 143), some (.int (iI (i : Int))), none, none, none] [] (jmem s' ε') P X) : J Γ (d, mc + 2, ms + 12) mL_law 500 [some (.ref 2000000), some (.ref 0), some (.ref 137), some (.ref 142), some (.ref 143), some (.int (iI (i : Int))), none, none, none] [] (jmem s ε) P X := by
  refine J.aload_n 1 dL_law_500 rfl rfl ?_
  refine I.callV0i (d' := d - 1) (mi' := mX8_errorKind) dL_law_501 lL_162 eX8_errorKind rfl rfl (c_X8_errorKind (d := d - 1) hl (by omega) h) (show d - 1 + 1 ≤ d from by omega) (Nat.le_of_ble_eq_true rfl) ?_
  obtain ⟨s1, hs1⟩ : ∃ s1, s1 = s := ⟨s, rfl⟩
  rw [← hs1]
  have e1 := hs1.symm
  have hc : CI s1 a ∧ HiE s s1 := by subst e1; exact ⟨h, fun _ _ _ => rfl⟩
  have m1 : MI s1 a := m.lo hc.2
  refine J.aload_n 2 dL_law_504 rfl rfl ?_
  refine I.callV0i (d' := d - 1) (mi' := mX9_errorKind) dL_law_505 lL_165 eX9_errorKind rfl rfl (c_X9_errorKind (d := d - 1) hl (by omega) m1) (show d - 1 + 1 ≤ d from by omega) (Nat.le_of_ble_eq_true rfl) ?_
  obtain ⟨s2, e2⟩ : ∃ s2, s2 = up s1 137 0 0 := ⟨_, rfl⟩
  rw [← e2]
  have hm2 : MI s2 a ∧ LoE s1 s2 ∧ s2 137 0 = 0 := by subst e2; exact ⟨m1.th, fun q i hq => up_ne (by omega), up_eq _ _ _ _⟩
  refine I.icmpS 2839 dL_law_508 (by decide) ?_
  refine J.fgt (L' := [some (.ref 2000000), some (.ref 0), some (.ref 137), some (.ref 142), some (.ref 143), some (.int (iI (i : Int))), none, none, none]) (by exact ⟨Or.inr rfl, Or.inr rfl, Or.inr rfl, Or.inr rfl, Or.inr rfl, Or.inr rfl, Or.inl rfl, Or.inl rfl, Or.inl rfl, trivial⟩) ?_
  exact J.mono (kx s2 _ _ (j) (hc.1.hi hm2.2.1) hm2.1) (fun _ _ h => h) (fun _ _ h => h) ⟨show d ≤ d from Nat.le_refl d, by show mc ≤ mc + 2 - 0; omega, by show ms ≤ ms + 12 - 0; omega⟩
set_option maxHeartbeats 4000000 in
theorem lc_4 {Γ : jE} (hl : Γ.1.stackTraces = false) {Ls : Nat} {xs : Nat → Int32} (hsc : Γ.2.2 = some (Ls, xs)) {s : Nat → Int → Int} {ε : jEps} {d i mc ms : Nat} {a : AS} {P : Option Value → jM → Prop} {X : String → jM → Prop} (hd : 131 ≤ d) (hi : i + 6 ≤ Ls) (hL : Ls ≤ 3072) (h : CI s a) (m : MI s a) (j : AI a) (kx : ∀ s' ε' a', AI a' → CI s' a' → MI s' a' → J Γ (d, mc, ms) mL_law 2839 [some (.ref 2000000), some (.ref 0), some (.ref 137), some (.ref 142), some (.ref 143), some (.int (iI (i : Int))), none, none, none] [] (jmem s' ε') P X) : J Γ (d, mc + 2, ms + 12) mL_law 513 [some (.ref 2000000), some (.ref 0), some (.ref 137), some (.ref 142), some (.ref 143), some (.int (iI (i : Int))), none, none, none] [] (jmem s ε) P X := by
  refine J.aload_n 1 dL_law_513 rfl rfl ?_
  refine I.callV0i (d' := d - 1) (mi' := mX8_errorPosition) dL_law_514 lL_166 eX8_errorPosition rfl rfl (c_X8_errorPosition (d := d - 1) hl (by omega) h) (show d - 1 + 1 ≤ d from by omega) (Nat.le_of_ble_eq_true rfl) ?_
  obtain ⟨s1, hs1⟩ : ∃ s1, s1 = s := ⟨s, rfl⟩
  rw [← hs1]
  have e1 := hs1.symm
  have hc : CI s1 a ∧ HiE s s1 := by subst e1; exact ⟨h, fun _ _ _ => rfl⟩
  have m1 : MI s1 a := m.lo hc.2
  refine J.aload_n 2 dL_law_517 rfl rfl ?_
  refine I.callV0i (d' := d - 1) (mi' := mX9_errorPosition) dL_law_518 lL_169 eX9_errorPosition rfl rfl (c_X9_errorPosition (d := d - 1) hl (by omega) m1) (show d - 1 + 1 ≤ d from by omega) (Nat.le_of_ble_eq_true rfl) ?_
  obtain ⟨s2, e2⟩ : ∃ s2, s2 = up s1 137 0 0 := ⟨_, rfl⟩
  rw [← e2]
  have hm2 : MI s2 a ∧ LoE s1 s2 ∧ s2 137 0 = 0 := by subst e2; exact ⟨m1.th, fun q i hq => up_ne (by omega), up_eq _ _ _ _⟩
  refine I.icmpS 2839 dL_law_521 (by decide) ?_
  refine J.fgt (L' := [some (.ref 2000000), some (.ref 0), some (.ref 137), some (.ref 142), some (.ref 143), some (.int (iI (i : Int))), none, none, none]) (by exact ⟨Or.inr rfl, Or.inr rfl, Or.inr rfl, Or.inr rfl, Or.inr rfl, Or.inr rfl, Or.inl rfl, Or.inl rfl, Or.inl rfl, trivial⟩) ?_
  exact J.mono (kx s2 _ _ (j) (hc.1.hi hm2.2.1) hm2.1) (fun _ _ h => h) (fun _ _ h => h) ⟨show d ≤ d from Nat.le_refl d, by show mc ≤ mc + 2 - 0; omega, by show ms ≤ ms + 12 - 0; omega⟩
set_option maxHeartbeats 4000000 in
theorem lc_5 {Γ : jE} (hl : Γ.1.stackTraces = false) {Ls : Nat} {xs : Nat → Int32} (hsc : Γ.2.2 = some (Ls, xs)) {s : Nat → Int → Int} {ε : jEps} {d i mc ms : Nat} {a : AS} {P : Option Value → jM → Prop} {X : String → jM → Prop} (hd : 131 ≤ d) (hi : i + 6 ≤ Ls) (hL : Ls ≤ 3072) (h : CI s a) (m : MI s a) (j : AI a) (kx : ∀ s' ε' a', AI a' → CI s' a' → MI s' a' → J Γ (d, mc, ms) mL_law 2839 [some (.ref 2000000), some (.ref 0), some (.ref 137), some (.ref 142), some (.ref 143), some (.int (iI (i : Int))), none, none, none] [] (jmem s' ε') P X) : J Γ (d, mc + 2, ms + 12) mL_law 526 [some (.ref 2000000), some (.ref 0), some (.ref 137), some (.ref 142), some (.ref 143), some (.int (iI (i : Int))), none, none, none] [] (jmem s ε) P X := by
  refine J.aload_n 1 dL_law_526 rfl rfl ?_
  refine I.callV0i (d' := d - 1) (mi' := mX8_roundCount) dL_law_527 lL_170 eX8_roundCount rfl rfl (c_X8_roundCount (d := d - 1) hl (by omega) h.m) (show d - 1 + 1 ≤ d from by omega) (Nat.le_of_ble_eq_true rfl) ?_
  obtain ⟨s1, hs1⟩ : ∃ s1, s1 = s := ⟨s, rfl⟩
  rw [← hs1]
  have e1 := hs1.symm
  have hc : CI s1 a ∧ HiE s s1 := by subst e1; exact ⟨h, fun _ _ _ => rfl⟩
  have m1 : MI s1 a := m.lo hc.2
  refine J.aload_n 2 dL_law_530 rfl rfl ?_
  refine I.callV0i (d' := d - 1) (mi' := mX9_roundCount) dL_law_531 lL_173 eX9_roundCount rfl rfl (c_X9_roundCount (d := d - 1) hl (by omega) (m1.w j)) (show d - 1 + 1 ≤ d from by omega) (Nat.le_of_ble_eq_true rfl) ?_
  obtain ⟨s2, e2⟩ : ∃ s2, s2 = up s1 137 0 0 := ⟨_, rfl⟩
  rw [← e2]
  have hm2 : MI s2 a ∧ LoE s1 s2 ∧ s2 137 0 = 0 := by subst e2; exact ⟨m1.th, fun q i hq => up_ne (by omega), up_eq _ _ _ _⟩
  refine I.icmpS 2839 dL_law_534 (by decide) ?_
  refine J.fgt (L' := [some (.ref 2000000), some (.ref 0), some (.ref 137), some (.ref 142), some (.ref 143), some (.int (iI (i : Int))), none, none, none]) (by exact ⟨Or.inr rfl, Or.inr rfl, Or.inr rfl, Or.inr rfl, Or.inr rfl, Or.inr rfl, Or.inl rfl, Or.inl rfl, Or.inl rfl, trivial⟩) ?_
  exact J.mono (kx s2 _ _ (j) (hc.1.hi hm2.2.1) hm2.1) (fun _ _ h => h) (fun _ _ h => h) ⟨show d ≤ d from Nat.le_refl d, by show mc ≤ mc + 2 - 0; omega, by show ms ≤ ms + 12 - 0; omega⟩
set_option maxHeartbeats 4000000 in
theorem lc_6 {Γ : jE} (hl : Γ.1.stackTraces = false) {Ls : Nat} {xs : Nat → Int32} (hsc : Γ.2.2 = some (Ls, xs)) {s : Nat → Int → Int} {ε : jEps} {d i mc ms : Nat} {a : AS} {P : Option Value → jM → Prop} {X : String → jM → Prop} (hd : 131 ≤ d) (hi : i + 6 ≤ Ls) (hL : Ls ≤ 3072) (h : CI s a) (m : MI s a) (j : AI a) (kx : ∀ s' ε' a', AI a' → CI s' a' → MI s' a' → J Γ (d, mc, ms) mL_law 2839 [some (.ref 2000000), some (.ref 0), some (.ref 137), some (.ref 142), some (.ref 143), some (.int (iI (i : Int))), none, none, none] [] (jmem s' ε') P X) : J Γ (d, mc + 2, ms + 12) mL_law 539 [some (.ref 2000000), some (.ref 0), some (.ref 137), some (.ref 142), some (.ref 143), some (.int (iI (i : Int))), none, none, none] [] (jmem s ε) P X := by
  refine J.aload_n 1 dL_law_539 rfl rfl ?_
  refine I.callV0i (d' := d - 1) (mi' := mX8_currentRound) dL_law_540 lL_174 eX8_currentRound rfl rfl (c_X8_currentRound (d := d - 1) hl (by omega) h.m) (show d - 1 + 1 ≤ d from by omega) (Nat.le_of_ble_eq_true rfl) ?_
  obtain ⟨s1, hs1⟩ : ∃ s1, s1 = s := ⟨s, rfl⟩
  rw [← hs1]
  have e1 := hs1.symm
  have hc : CI s1 a ∧ HiE s s1 := by subst e1; exact ⟨h, fun _ _ _ => rfl⟩
  have m1 : MI s1 a := m.lo hc.2
  refine J.aload_n 2 dL_law_543 rfl rfl ?_
  refine I.callV0i (d' := d - 1) (mi' := mX9_currentRound) dL_law_544 lL_177 eX9_currentRound rfl rfl (c_X9_currentRound (d := d - 1) hl (by omega) (m1.w j)) (show d - 1 + 1 ≤ d from by omega) (Nat.le_of_ble_eq_true rfl) ?_
  obtain ⟨s2, e2⟩ : ∃ s2, s2 = up s1 137 0 0 := ⟨_, rfl⟩
  rw [← e2]
  have hm2 : MI s2 a ∧ LoE s1 s2 ∧ s2 137 0 = 0 := by subst e2; exact ⟨m1.th, fun q i hq => up_ne (by omega), up_eq _ _ _ _⟩
  refine I.icmpS 2839 dL_law_547 (by decide) ?_
  refine J.fgt (L' := [some (.ref 2000000), some (.ref 0), some (.ref 137), some (.ref 142), some (.ref 143), some (.int (iI (i : Int))), none, none, none]) (by exact ⟨Or.inr rfl, Or.inr rfl, Or.inr rfl, Or.inr rfl, Or.inr rfl, Or.inr rfl, Or.inl rfl, Or.inl rfl, Or.inl rfl, trivial⟩) ?_
  exact J.mono (kx s2 _ _ (j) (hc.1.hi hm2.2.1) hm2.1) (fun _ _ h => h) (fun _ _ h => h) ⟨show d ≤ d from Nat.le_refl d, by show mc ≤ mc + 2 - 0; omega, by show ms ≤ ms + 12 - 0; omega⟩
set_option maxHeartbeats 4000000 in
theorem lc_7 {Γ : jE} (hl : Γ.1.stackTraces = false) {Ls : Nat} {xs : Nat → Int32} (hsc : Γ.2.2 = some (Ls, xs)) {s : Nat → Int → Int} {ε : jEps} {d i mc ms : Nat} {a : AS} {P : Option Value → jM → Prop} {X : String → jM → Prop} (hd : 131 ≤ d) (hi : i + 6 ≤ Ls) (hL : Ls ≤ 3072) (h : CI s a) (m : MI s a) (j : AI a) (kx : ∀ s' ε' a', AI a' → CI s' a' → MI s' a' → J Γ (d, mc, ms) mL_law 2839 [some (.ref 2000000), some (.ref 0), some (.ref 137), some (.ref 142), some (.ref 143), some (.int (iI (i : Int))), none, none, none] [] (jmem s' ε') P X) : J Γ (d, mc + 2, ms + 12) mL_law 552 [some (.ref 2000000), some (.ref 0), some (.ref 137), some (.ref 142), some (.ref 143), some (.int (iI (i : Int))), none, none, none] [] (jmem s ε) P X := by
  refine J.aload_n 1 dL_law_552 rfl rfl ?_
  refine I.callV0i (d' := d - 1) (mi' := mX8_isRoundOver) dL_law_553 lL_178 eX8_isRoundOver rfl rfl (c_X8_isRoundOver (d := d - 1) hl (by omega) h.m) (show d - 1 + 1 ≤ d from by omega) (Nat.le_of_ble_eq_true rfl) ?_
  obtain ⟨s1, hs1⟩ : ∃ s1, s1 = s := ⟨s, rfl⟩
  rw [← hs1]
  have e1 := hs1.symm
  have hc : CI s1 a ∧ HiE s s1 := by subst e1; exact ⟨h, fun _ _ _ => rfl⟩
  have m1 : MI s1 a := m.lo hc.2
  refine J.aload_n 2 dL_law_556 rfl rfl ?_
  refine I.callV0i (d' := d - 1) (mi' := mX9_isRoundOver) dL_law_557 lL_181 eX9_isRoundOver rfl rfl (c_X9_isRoundOver (d := d - 1) hl (by omega) (m1.w j)) (show d - 1 + 1 ≤ d from by omega) (Nat.le_of_ble_eq_true rfl) ?_
  obtain ⟨s2, e2⟩ : ∃ s2, s2 = up s1 137 0 0 := ⟨_, rfl⟩
  rw [← e2]
  have hm2 : MI s2 a ∧ LoE s1 s2 ∧ s2 137 0 = 0 := by subst e2; exact ⟨m1.th, fun q i hq => up_ne (by omega), up_eq _ _ _ _⟩
  refine I.icmpS 2839 dL_law_560 (by decide) ?_
  refine J.fgt (L' := [some (.ref 2000000), some (.ref 0), some (.ref 137), some (.ref 142), some (.ref 143), some (.int (iI (i : Int))), none, none, none]) (by exact ⟨Or.inr rfl, Or.inr rfl, Or.inr rfl, Or.inr rfl, Or.inr rfl, Or.inr rfl, Or.inl rfl, Or.inl rfl, Or.inl rfl, trivial⟩) ?_
  exact J.mono (kx s2 _ _ (j) (hc.1.hi hm2.2.1) hm2.1) (fun _ _ h => h) (fun _ _ h => h) ⟨show d ≤ d from Nat.le_refl d, by show mc ≤ mc + 2 - 0; omega, by show ms ≤ ms + 12 - 0; omega⟩
set_option maxHeartbeats 4000000 in
theorem lc_8 {Γ : jE} (hl : Γ.1.stackTraces = false) {Ls : Nat} {xs : Nat → Int32} (hsc : Γ.2.2 = some (Ls, xs)) {s : Nat → Int → Int} {ε : jEps} {d i mc ms : Nat} {a : AS} {P : Option Value → jM → Prop} {X : String → jM → Prop} (hd : 131 ≤ d) (hi : i + 6 ≤ Ls) (hL : Ls ≤ 3072) (h : CI s a) (m : MI s a) (j : AI a) (kx : ∀ s' ε' a', AI a' → CI s' a' → MI s' a' → J Γ (d, mc, ms) mL_law 2839 [some (.ref 2000000), some (.ref 0), some (.ref 137), some (.ref 142), some (.ref 143), some (.int (iI (i : Int))), none, none, none] [] (jmem s' ε') P X) : J Γ (d, mc + 2, ms + 12) mL_law 565 [some (.ref 2000000), some (.ref 0), some (.ref 137), some (.ref 142), some (.ref 143), some (.int (iI (i : Int))), none, none, none] [] (jmem s ε) P X := by
  refine J.aload_n 1 dL_law_565 rfl rfl ?_
  refine I.callV0i (d' := d - 1) (mi' := mX8_isMatchOver) dL_law_566 lL_182 eX8_isMatchOver rfl rfl (c_X8_isMatchOver (d := d - 1) hl (by omega) h.m) (show d - 1 + 1 ≤ d from by omega) (Nat.le_of_ble_eq_true rfl) ?_
  obtain ⟨s1, hs1⟩ : ∃ s1, s1 = s := ⟨s, rfl⟩
  rw [← hs1]
  have e1 := hs1.symm
  have hc : CI s1 a ∧ HiE s s1 := by subst e1; exact ⟨h, fun _ _ _ => rfl⟩
  have m1 : MI s1 a := m.lo hc.2
  refine J.aload_n 2 dL_law_569 rfl rfl ?_
  refine I.callV0i (d' := d - 1) (mi' := mX9_isMatchOver) dL_law_570 lL_185 eX9_isMatchOver rfl rfl (c_X9_isMatchOver (d := d - 1) hl (by omega) (m1.w j)) (show d - 1 + 1 ≤ d from by omega) (Nat.le_of_ble_eq_true rfl) ?_
  obtain ⟨s2, e2⟩ : ∃ s2, s2 = up s1 137 0 0 := ⟨_, rfl⟩
  rw [← e2]
  have hm2 : MI s2 a ∧ LoE s1 s2 ∧ s2 137 0 = 0 := by subst e2; exact ⟨m1.th, fun q i hq => up_ne (by omega), up_eq _ _ _ _⟩
  refine I.icmpS 2839 dL_law_573 (by decide) ?_
  refine J.fgt (L' := [some (.ref 2000000), some (.ref 0), some (.ref 137), some (.ref 142), some (.ref 143), some (.int (iI (i : Int))), none, none, none]) (by exact ⟨Or.inr rfl, Or.inr rfl, Or.inr rfl, Or.inr rfl, Or.inr rfl, Or.inr rfl, Or.inl rfl, Or.inl rfl, Or.inl rfl, trivial⟩) ?_
  exact J.mono (kx s2 _ _ (j) (hc.1.hi hm2.2.1) hm2.1) (fun _ _ h => h) (fun _ _ h => h) ⟨show d ≤ d from Nat.le_refl d, by show mc ≤ mc + 2 - 0; omega, by show ms ≤ ms + 12 - 0; omega⟩
set_option maxHeartbeats 4000000 in
theorem lc_9 {Γ : jE} (hl : Γ.1.stackTraces = false) {Ls : Nat} {xs : Nat → Int32} (hsc : Γ.2.2 = some (Ls, xs)) {s : Nat → Int → Int} {ε : jEps} {d i mc ms : Nat} {a : AS} {P : Option Value → jM → Prop} {X : String → jM → Prop} (hd : 131 ≤ d) (hi : i + 6 ≤ Ls) (hL : Ls ≤ 3072) (h : CI s a) (m : MI s a) (j : AI a) (kx : ∀ s' ε' a', AI a' → CI s' a' → MI s' a' → J Γ (d, mc, ms) mL_law 2839 [some (.ref 2000000), some (.ref 0), some (.ref 137), some (.ref 142), some (.ref 143), some (.int (iI (i : Int))), none, none, none] [] (jmem s' ε') P X) : J Γ (d, mc + 2, ms + 12) mL_law 578 [some (.ref 2000000), some (.ref 0), some (.ref 137), some (.ref 142), some (.ref 143), some (.int (iI (i : Int))), none, none, none] [] (jmem s ε) P X := by
  refine J.aload_n 1 dL_law_578 rfl rfl ?_
  refine J.aload_n 0 dL_law_579 rfl rfl ?_
  refine J.iload dL_law_580 rfl ?_
  refine I.iconst dL_law_582 ?_
  refine I.add dL_law_583 ?_
  refine I.sld (j := i + 1) hsc (by omega) (by omega) hL dL_law_584 ?_
  refine J.aload_n 3 dL_law_585 rfl rfl ?_
  refine J.callW3 (b' := (d - 1, 1, 6)) (mi' := mL_roundWinner) dL_law_586 lL_186 eL_roundWinner (c_L_roundWinner (d := d - 1) hl (by omega) h.m (iI_rng _)) (show d - 1 + 1 ≤ d ∧ 1 ≤ mc + 2 ∧ 6 ≤ ms + 12 from ⟨by omega, by omega, by omega⟩) (Nat.le_of_ble_eq_true rfl) ?_
  rintro v M' ⟨s1, ε1, k9, rfl, rfl, hk⟩
  refine J.istore dL_law_589 (by decide) rfl ?_
  rcases hk with ⟨rfl, r9, hq, hε⟩ | ⟨rfl, hx⟩ | ⟨rfl, hx⟩
  · skip
    obtain ⟨hcond, rfl, e1⟩ := hq
    have hc : CI s1 a ∧ HiE s s1 := by subst e1; exact ⟨h, fun _ _ _ => rfl⟩
    have m1 : MI s1 a := m.lo hc.2
    refine J.aload_n 2 dL_law_591 rfl rfl ?_
    refine J.aload_n 0 dL_law_592 rfl rfl ?_
    refine J.iload dL_law_593 rfl ?_
    refine I.iconst dL_law_595 ?_
    refine I.add dL_law_596 ?_
    refine I.sld (j := i + 1) hsc (by omega) (by omega) hL dL_law_597 ?_
    refine I.callV1q (d' := d - 1) (mi' := mX9_roundWinner) dL_law_598 lL_189 eX9_roundWinner rfl rfl (c_X9_roundWinner (d := d - 1) hl (by omega) (m1.w j) (iI_rng _)) (show d - 1 + 1 ≤ d from by omega) (Nat.le_of_ble_eq_true rfl) ?_
    rintro w9 s2 h2
    rcases h2 with ⟨hm, rfl, e2⟩ | ⟨hm, e2⟩
    · skip
      have hm2 : MI s2 a ∧ LoE s1 s2 ∧ s2 137 0 = 0 := by subst e2; exact ⟨m1.th, fun q i hq => up_ne (by omega), up_eq _ _ _ _⟩
      refine J.istore dL_law_601 (by decide) rfl ?_
      refine J.aload_n 2 dL_law_603 rfl rfl ?_
      refine I.callV0i (d' := d - 1) (mi' := mX9_thrown) dL_law_604 lL_151 eX9_thrown rfl rfl (c_X9_thrown (d := d - 1) hl (by omega)) (show d - 1 + 1 ≤ d from by omega) (Nat.le_of_ble_eq_true rfl) ?_
      refine I.sx hm2.2.2 ?_
      refine J.iload dL_law_607 rfl ?_
      refine I.icmpS 614 dL_law_609 (by decide) ?_
      refine J.iload dL_law_614 rfl ?_
      refine I.if_ne0 (tgt := 631) dL_law_616 (by decide) ?_
      refine J.aload_n 3 dL_law_619 rfl rfl ?_
      refine I.iconst dL_law_620 ?_
      refine I.lald0 hε dL_law_621 ?_
      refine J.iload dL_law_622 rfl ?_
      refine J.i2l dL_law_624 ?_
      refine I.lcmpS dL_law_625 ?_
      refine I.if_eq0 631 dL_law_626 (by decide) ?_
      refine J.goto 2839 dL_law_631 (by decide) ?_
      refine J.fgt (L' := [some (.ref 2000000), some (.ref 0), some (.ref 137), some (.ref 142), some (.ref 143), some (.int (iI (i : Int))), none, none, none]) (by exact ⟨Or.inr rfl, Or.inr rfl, Or.inr rfl, Or.inr rfl, Or.inr rfl, Or.inr rfl, Or.inl rfl, Or.inl rfl, Or.inl rfl, trivial⟩) ?_
      exact J.mono (kx s2 _ _ (j) (hc.1.hi hm2.2.1) hm2.1) (fun _ _ h => h) (fun _ _ h => h) ⟨show d ≤ d from Nat.le_refl d, by show mc ≤ mc + 2 - 1; omega, by show ms ≤ ms + 12 - 6; omega⟩
    · exact absurd hcond hm
  · skip
    obtain ⟨hcond, e1⟩ := hx
    have hc : CI s1 a ∧ HiE s s1 := by subst e1; exact ⟨h, fun _ _ _ => rfl⟩
    have m1 : MI s1 a := m.lo hc.2
    refine J.aload_n 2 dL_law_591 rfl rfl ?_
    refine J.aload_n 0 dL_law_592 rfl rfl ?_
    refine J.iload dL_law_593 rfl ?_
    refine I.iconst dL_law_595 ?_
    refine I.add dL_law_596 ?_
    refine I.sld (j := i + 1) hsc (by omega) (by omega) hL dL_law_597 ?_
    refine I.callV1q (d' := d - 1) (mi' := mX9_roundWinner) dL_law_598 lL_189 eX9_roundWinner rfl rfl (c_X9_roundWinner (d := d - 1) hl (by omega) (m1.w j) (iI_rng _)) (show d - 1 + 1 ≤ d from by omega) (Nat.le_of_ble_eq_true rfl) ?_
    rintro w9 s2 h2
    rcases h2 with ⟨hm, rfl, e2⟩ | ⟨hm, e2⟩
    · exact absurd hm hcond
    · skip
      have hm2 : MI s2 a ∧ LoE s1 s2 ∧ s2 137 0 = 1 := by subst e2; exact ⟨m1.th, fun q i hq => up_ne (by omega), up_eq _ _ _ _⟩
      refine J.istore dL_law_601 (by decide) rfl ?_
      refine J.aload_n 2 dL_law_603 rfl rfl ?_
      refine I.callV0i (d' := d - 1) (mi' := mX9_thrown) dL_law_604 lL_151 eX9_thrown rfl rfl (c_X9_thrown (d := d - 1) hl (by omega)) (show d - 1 + 1 ≤ d from by omega) (Nat.le_of_ble_eq_true rfl) ?_
      refine I.sx hm2.2.2 ?_
      refine J.iload dL_law_607 rfl ?_
      refine I.icmpS 614 dL_law_609 (by decide) ?_
      refine J.iload dL_law_614 rfl ?_
      refine I.if_ne1 (Or.inl rfl) 631 dL_law_616 (by decide) ?_
      refine J.goto 2839 dL_law_631 (by decide) ?_
      refine J.fgt (L' := [some (.ref 2000000), some (.ref 0), some (.ref 137), some (.ref 142), some (.ref 143), some (.int (iI (i : Int))), none, none, none]) (by exact ⟨Or.inr rfl, Or.inr rfl, Or.inr rfl, Or.inr rfl, Or.inr rfl, Or.inr rfl, Or.inl rfl, Or.inl rfl, Or.inl rfl, trivial⟩) ?_
      exact J.mono (kx s2 _ _ (j) (hc.1.hi hm2.2.1) hm2.1) (fun _ _ h => h) (fun _ _ h => h) ⟨show d ≤ d from Nat.le_refl d, by show mc ≤ mc + 2 - 1; omega, by show ms ≤ ms + 12 - 6; omega⟩
  · exact absurd hx id
set_option maxHeartbeats 4000000 in
theorem lc_10 {Γ : jE} (hl : Γ.1.stackTraces = false) {Ls : Nat} {xs : Nat → Int32} (hsc : Γ.2.2 = some (Ls, xs)) {s : Nat → Int → Int} {ε : jEps} {d i mc ms : Nat} {a : AS} {P : Option Value → jM → Prop} {X : String → jM → Prop} (hd : 131 ≤ d) (hi : i + 6 ≤ Ls) (hL : Ls ≤ 3072) (h : CI s a) (m : MI s a) (j : AI a) (kx : ∀ s' ε' a', AI a' → CI s' a' → MI s' a' → J Γ (d, mc, ms) mL_law 2839 [some (.ref 2000000), some (.ref 0), some (.ref 137), some (.ref 142), some (.ref 143), some (.int (iI (i : Int))), none, none, none] [] (jmem s' ε') P X) : J Γ (d, mc + 2, ms + 12) mL_law 634 [some (.ref 2000000), some (.ref 0), some (.ref 137), some (.ref 142), some (.ref 143), some (.int (iI (i : Int))), none, none, none] [] (jmem s ε) P X := by
  refine J.aload_n 1 dL_law_634 rfl rfl ?_
  refine J.aload_n 0 dL_law_635 rfl rfl ?_
  refine J.iload dL_law_636 rfl ?_
  refine I.iconst dL_law_638 ?_
  refine I.add dL_law_639 ?_
  refine I.sld (j := i + 1) hsc (by omega) (by omega) hL dL_law_640 ?_
  refine J.aload_n 3 dL_law_641 rfl rfl ?_
  refine J.callW3 (b' := (d - 1, 1, 6)) (mi' := mL_roundsWon) dL_law_642 lL_190 eL_roundsWon (c_L_roundsWon (d := d - 1) hl (by omega) h.m (iI_rng _)) (show d - 1 + 1 ≤ d ∧ 1 ≤ mc + 2 ∧ 6 ≤ ms + 12 from ⟨by omega, by omega, by omega⟩) (Nat.le_of_ble_eq_true rfl) ?_
  rintro v M' ⟨s1, ε1, k9, rfl, rfl, hk⟩
  refine J.istore dL_law_645 (by decide) rfl ?_
  rcases hk with ⟨rfl, r9, hq, hε⟩ | ⟨rfl, hx⟩ | ⟨rfl, hx⟩
  · skip
    obtain ⟨hcond, rfl, e1⟩ := hq
    have hc : CI s1 a ∧ HiE s s1 := by subst e1; exact ⟨h, fun _ _ _ => rfl⟩
    have m1 : MI s1 a := m.lo hc.2
    refine J.aload_n 2 dL_law_647 rfl rfl ?_
    refine J.aload_n 0 dL_law_648 rfl rfl ?_
    refine J.iload dL_law_649 rfl ?_
    refine I.iconst dL_law_651 ?_
    refine I.add dL_law_652 ?_
    refine I.sld (j := i + 1) hsc (by omega) (by omega) hL dL_law_653 ?_
    refine I.callV1q (d' := d - 1) (mi' := mX9_roundsWon) dL_law_654 lL_192 eX9_roundsWon rfl rfl (c_X9_roundsWon (d := d - 1) hl (by omega) (m1.w j) (iI_rng _)) (show d - 1 + 1 ≤ d from by omega) (Nat.le_of_ble_eq_true rfl) ?_
    rintro w9 s2 h2
    rcases h2 with ⟨hm, rfl, e2⟩ | ⟨hm, e2⟩
    · skip
      have hm2 : MI s2 a ∧ LoE s1 s2 ∧ s2 137 0 = 0 := by subst e2; exact ⟨m1.th, fun q i hq => up_ne (by omega), up_eq _ _ _ _⟩
      refine J.istore dL_law_657 (by decide) rfl ?_
      refine J.aload_n 2 dL_law_659 rfl rfl ?_
      refine I.callV0i (d' := d - 1) (mi' := mX9_thrown) dL_law_660 lL_151 eX9_thrown rfl rfl (c_X9_thrown (d := d - 1) hl (by omega)) (show d - 1 + 1 ≤ d from by omega) (Nat.le_of_ble_eq_true rfl) ?_
      refine I.sx hm2.2.2 ?_
      refine J.iload dL_law_663 rfl ?_
      refine I.icmpS 670 dL_law_665 (by decide) ?_
      refine J.iload dL_law_670 rfl ?_
      refine I.if_ne0 (tgt := 687) dL_law_672 (by decide) ?_
      refine J.aload_n 3 dL_law_675 rfl rfl ?_
      refine I.iconst dL_law_676 ?_
      refine I.lald0 hε dL_law_677 ?_
      refine J.iload dL_law_678 rfl ?_
      refine J.i2l dL_law_680 ?_
      refine I.lcmpS dL_law_681 ?_
      refine I.if_eq0 687 dL_law_682 (by decide) ?_
      refine J.goto 2839 dL_law_687 (by decide) ?_
      refine J.fgt (L' := [some (.ref 2000000), some (.ref 0), some (.ref 137), some (.ref 142), some (.ref 143), some (.int (iI (i : Int))), none, none, none]) (by exact ⟨Or.inr rfl, Or.inr rfl, Or.inr rfl, Or.inr rfl, Or.inr rfl, Or.inr rfl, Or.inl rfl, Or.inl rfl, Or.inl rfl, trivial⟩) ?_
      exact J.mono (kx s2 _ _ (j) (hc.1.hi hm2.2.1) hm2.1) (fun _ _ h => h) (fun _ _ h => h) ⟨show d ≤ d from Nat.le_refl d, by show mc ≤ mc + 2 - 1; omega, by show ms ≤ ms + 12 - 6; omega⟩
    · exact absurd hcond hm
  · skip
    obtain ⟨hcond, e1⟩ := hx
    have hc : CI s1 a ∧ HiE s s1 := by subst e1; exact ⟨h, fun _ _ _ => rfl⟩
    have m1 : MI s1 a := m.lo hc.2
    refine J.aload_n 2 dL_law_647 rfl rfl ?_
    refine J.aload_n 0 dL_law_648 rfl rfl ?_
    refine J.iload dL_law_649 rfl ?_
    refine I.iconst dL_law_651 ?_
    refine I.add dL_law_652 ?_
    refine I.sld (j := i + 1) hsc (by omega) (by omega) hL dL_law_653 ?_
    refine I.callV1q (d' := d - 1) (mi' := mX9_roundsWon) dL_law_654 lL_192 eX9_roundsWon rfl rfl (c_X9_roundsWon (d := d - 1) hl (by omega) (m1.w j) (iI_rng _)) (show d - 1 + 1 ≤ d from by omega) (Nat.le_of_ble_eq_true rfl) ?_
    rintro w9 s2 h2
    rcases h2 with ⟨hm, rfl, e2⟩ | ⟨hm, e2⟩
    · exact absurd hm hcond
    · skip
      have hm2 : MI s2 a ∧ LoE s1 s2 ∧ s2 137 0 = 1 := by subst e2; exact ⟨m1.th, fun q i hq => up_ne (by omega), up_eq _ _ _ _⟩
      refine J.istore dL_law_657 (by decide) rfl ?_
      refine J.aload_n 2 dL_law_659 rfl rfl ?_
      refine I.callV0i (d' := d - 1) (mi' := mX9_thrown) dL_law_660 lL_151 eX9_thrown rfl rfl (c_X9_thrown (d := d - 1) hl (by omega)) (show d - 1 + 1 ≤ d from by omega) (Nat.le_of_ble_eq_true rfl) ?_
      refine I.sx hm2.2.2 ?_
      refine J.iload dL_law_663 rfl ?_
      refine I.icmpS 670 dL_law_665 (by decide) ?_
      refine J.iload dL_law_670 rfl ?_
      refine I.if_ne1 (Or.inl rfl) 687 dL_law_672 (by decide) ?_
      refine J.goto 2839 dL_law_687 (by decide) ?_
      refine J.fgt (L' := [some (.ref 2000000), some (.ref 0), some (.ref 137), some (.ref 142), some (.ref 143), some (.int (iI (i : Int))), none, none, none]) (by exact ⟨Or.inr rfl, Or.inr rfl, Or.inr rfl, Or.inr rfl, Or.inr rfl, Or.inr rfl, Or.inl rfl, Or.inl rfl, Or.inl rfl, trivial⟩) ?_
      exact J.mono (kx s2 _ _ (j) (hc.1.hi hm2.2.1) hm2.1) (fun _ _ h => h) (fun _ _ h => h) ⟨show d ≤ d from Nat.le_refl d, by show mc ≤ mc + 2 - 1; omega, by show ms ≤ ms + 12 - 6; omega⟩
  · exact absurd hx id
set_option maxHeartbeats 4000000 in
theorem lc_11 {Γ : jE} (hl : Γ.1.stackTraces = false) {Ls : Nat} {xs : Nat → Int32} (hsc : Γ.2.2 = some (Ls, xs)) {s : Nat → Int → Int} {ε : jEps} {d i mc ms : Nat} {a : AS} {P : Option Value → jM → Prop} {X : String → jM → Prop} (hd : 131 ≤ d) (hi : i + 6 ≤ Ls) (hL : Ls ≤ 3072) (h : CI s a) (m : MI s a) (j : AI a) (kx : ∀ s' ε' a', AI a' → CI s' a' → MI s' a' → J Γ (d, mc, ms) mL_law 2839 [some (.ref 2000000), some (.ref 0), some (.ref 137), some (.ref 142), some (.ref 143), some (.int (iI (i : Int))), none, none, none] [] (jmem s' ε') P X) : J Γ (d, mc + 2, ms + 12) mL_law 690 [some (.ref 2000000), some (.ref 0), some (.ref 137), some (.ref 142), some (.ref 143), some (.int (iI (i : Int))), none, none, none] [] (jmem s ε) P X := by
  refine J.aload_n 1 dL_law_690 rfl rfl ?_
  refine I.callV0i (d' := d - 1) (mi' := mX8_matchWinner) dL_law_691 lL_193 eX8_matchWinner rfl rfl (c_X8_matchWinner (d := d - 1) hl (by omega) h.m) (show d - 1 + 1 ≤ d from by omega) (Nat.le_of_ble_eq_true rfl) ?_
  obtain ⟨s1, hs1⟩ : ∃ s1, s1 = s := ⟨s, rfl⟩
  rw [← hs1]
  have e1 := hs1.symm
  have hc : CI s1 a ∧ HiE s s1 := by subst e1; exact ⟨h, fun _ _ _ => rfl⟩
  have m1 : MI s1 a := m.lo hc.2
  refine J.aload_n 2 dL_law_694 rfl rfl ?_
  refine I.callV0i (d' := d - 1) (mi' := mX9_matchWinner) dL_law_695 lL_196 eX9_matchWinner rfl rfl (c_X9_matchWinner (d := d - 1) hl (by omega) (m1.w j)) (show d - 1 + 1 ≤ d from by omega) (Nat.le_of_ble_eq_true rfl) ?_
  obtain ⟨s2, e2⟩ : ∃ s2, s2 = up s1 137 0 0 := ⟨_, rfl⟩
  rw [← e2]
  have hm2 : MI s2 a ∧ LoE s1 s2 ∧ s2 137 0 = 0 := by subst e2; exact ⟨m1.th, fun q i hq => up_ne (by omega), up_eq _ _ _ _⟩
  refine I.icmpS 2839 dL_law_698 (by decide) ?_
  refine J.fgt (L' := [some (.ref 2000000), some (.ref 0), some (.ref 137), some (.ref 142), some (.ref 143), some (.int (iI (i : Int))), none, none, none]) (by exact ⟨Or.inr rfl, Or.inr rfl, Or.inr rfl, Or.inr rfl, Or.inr rfl, Or.inr rfl, Or.inl rfl, Or.inl rfl, Or.inl rfl, trivial⟩) ?_
  exact J.mono (kx s2 _ _ (j) (hc.1.hi hm2.2.1) hm2.1) (fun _ _ h => h) (fun _ _ h => h) ⟨show d ≤ d from Nat.le_refl d, by show mc ≤ mc + 2 - 0; omega, by show ms ≤ ms + 12 - 0; omega⟩
set_option maxHeartbeats 4000000 in
theorem lc_12 {Γ : jE} (hl : Γ.1.stackTraces = false) {Ls : Nat} {xs : Nat → Int32} (hsc : Γ.2.2 = some (Ls, xs)) {s : Nat → Int → Int} {ε : jEps} {d i mc ms : Nat} {a : AS} {P : Option Value → jM → Prop} {X : String → jM → Prop} (hd : 131 ≤ d) (hi : i + 6 ≤ Ls) (hL : Ls ≤ 3072) (h : CI s a) (m : MI s a) (j : AI a) (kx : ∀ s' ε' a', AI a' → CI s' a' → MI s' a' → J Γ (d, mc, ms) mL_law 2839 [some (.ref 2000000), some (.ref 0), some (.ref 137), some (.ref 142), some (.ref 143), some (.int (iI (i : Int))), none, none, none] [] (jmem s' ε') P X) : J Γ (d, mc + 2, ms + 12) mL_law 703 [some (.ref 2000000), some (.ref 0), some (.ref 137), some (.ref 142), some (.ref 143), some (.int (iI (i : Int))), none, none, none] [] (jmem s ε) P X := by
  refine J.aload_n 1 dL_law_703 rfl rfl ?_
  refine I.callV0i (d' := d - 1) (mi' := mX8_playerToMove) dL_law_704 lL_197 eX8_playerToMove rfl rfl (c_X8_playerToMove (d := d - 1) hl (by omega) h.m) (show d - 1 + 1 ≤ d from by omega) (Nat.le_of_ble_eq_true rfl) ?_
  obtain ⟨s1, hs1⟩ : ∃ s1, s1 = s := ⟨s, rfl⟩
  rw [← hs1]
  have e1 := hs1.symm
  have hc : CI s1 a ∧ HiE s s1 := by subst e1; exact ⟨h, fun _ _ _ => rfl⟩
  have m1 : MI s1 a := m.lo hc.2
  refine J.aload_n 2 dL_law_707 rfl rfl ?_
  refine I.callV0i (d' := d - 1) (mi' := mX9_playerToMove) dL_law_708 lL_200 eX9_playerToMove rfl rfl (c_X9_playerToMove (d := d - 1) hl (by omega) (m1.w j)) (show d - 1 + 1 ≤ d from by omega) (Nat.le_of_ble_eq_true rfl) ?_
  obtain ⟨s2, e2⟩ : ∃ s2, s2 = up s1 137 0 0 := ⟨_, rfl⟩
  rw [← e2]
  have hm2 : MI s2 a ∧ LoE s1 s2 ∧ s2 137 0 = 0 := by subst e2; exact ⟨m1.th, fun q i hq => up_ne (by omega), up_eq _ _ _ _⟩
  refine I.icmpS 2839 dL_law_711 (by decide) ?_
  refine J.fgt (L' := [some (.ref 2000000), some (.ref 0), some (.ref 137), some (.ref 142), some (.ref 143), some (.int (iI (i : Int))), none, none, none]) (by exact ⟨Or.inr rfl, Or.inr rfl, Or.inr rfl, Or.inr rfl, Or.inr rfl, Or.inr rfl, Or.inl rfl, Or.inl rfl, Or.inl rfl, trivial⟩) ?_
  exact J.mono (kx s2 _ _ (j) (hc.1.hi hm2.2.1) hm2.1) (fun _ _ h => h) (fun _ _ h => h) ⟨show d ≤ d from Nat.le_refl d, by show mc ≤ mc + 2 - 0; omega, by show ms ≤ ms + 12 - 0; omega⟩
set_option maxHeartbeats 4000000 in
theorem lc_13 {Γ : jE} (hl : Γ.1.stackTraces = false) {Ls : Nat} {xs : Nat → Int32} (hsc : Γ.2.2 = some (Ls, xs)) {s : Nat → Int → Int} {ε : jEps} {d i mc ms : Nat} {a : AS} {P : Option Value → jM → Prop} {X : String → jM → Prop} (hd : 131 ≤ d) (hi : i + 6 ≤ Ls) (hL : Ls ≤ 3072) (h : CI s a) (m : MI s a) (j : AI a) (kx : ∀ s' ε' a', AI a' → CI s' a' → MI s' a' → J Γ (d, mc, ms) mL_law 2839 [some (.ref 2000000), some (.ref 0), some (.ref 137), some (.ref 142), some (.ref 143), some (.int (iI (i : Int))), none, none, none] [] (jmem s' ε') P X) : J Γ (d, mc + 2, ms + 12) mL_law 716 [some (.ref 2000000), some (.ref 0), some (.ref 137), some (.ref 142), some (.ref 143), some (.int (iI (i : Int))), none, none, none] [] (jmem s ε) P X := by
  refine J.aload_n 1 dL_law_716 rfl rfl ?_
  refine J.aload_n 0 dL_law_717 rfl rfl ?_
  refine J.iload dL_law_718 rfl ?_
  refine I.iconst dL_law_720 ?_
  refine I.add dL_law_721 ?_
  refine I.sld (j := i + 1) hsc (by omega) (by omega) hL dL_law_722 ?_
  refine J.aload_n 0 dL_law_723 rfl rfl ?_
  refine J.iload dL_law_724 rfl ?_
  refine I.iconst dL_law_726 ?_
  refine I.add dL_law_727 ?_
  refine I.sld (j := i + 2) hsc (by omega) (by omega) hL dL_law_728 ?_
  refine J.aload_n 3 dL_law_729 rfl rfl ?_
  refine J.callW4 (b' := (d - 1, 2, 12)) (mi' := mL_roundScore) dL_law_730 lL_201 eL_roundScore (c_L_roundScore (d := d - 1) hl (by omega) h.m (iI_rng _) (iI_rng _)) (show d - 1 + 1 ≤ d ∧ 2 ≤ mc + 2 ∧ 12 ≤ ms + 12 from ⟨by omega, by omega, by omega⟩) (Nat.le_of_ble_eq_true rfl) ?_
  rintro v M' ⟨s1, ε1, k9, rfl, rfl, hk⟩
  refine J.istore dL_law_733 (by decide) rfl ?_
  rcases hk with ⟨rfl, r9, hq, hε⟩ | ⟨rfl, hx⟩ | ⟨rfl, hx⟩
  · skip
    obtain ⟨hcond, rfl, e1⟩ := hq
    have hc : CI s1 a ∧ HiE s s1 := by subst e1; exact ⟨h, fun _ _ _ => rfl⟩
    have m1 : MI s1 a := m.lo hc.2
    refine J.aload_n 2 dL_law_735 rfl rfl ?_
    refine J.aload_n 0 dL_law_736 rfl rfl ?_
    refine J.iload dL_law_737 rfl ?_
    refine I.iconst dL_law_739 ?_
    refine I.add dL_law_740 ?_
    refine I.sld (j := i + 1) hsc (by omega) (by omega) hL dL_law_741 ?_
    refine J.aload_n 0 dL_law_742 rfl rfl ?_
    refine J.iload dL_law_743 rfl ?_
    refine I.iconst dL_law_745 ?_
    refine I.add dL_law_746 ?_
    refine I.sld (j := i + 2) hsc (by omega) (by omega) hL dL_law_747 ?_
    refine I.callV2q (d' := d - 1) (mi' := mX9_roundScore) dL_law_748 lL_204 eX9_roundScore rfl rfl (c_X9_roundScore (d := d - 1) hl (by omega) (m1.w j) (iI_rng _) (iI_rng _)) (show d - 1 + 1 ≤ d from by omega) (Nat.le_of_ble_eq_true rfl) ?_
    rintro w9 s2 h2
    rcases h2 with ⟨hm, rfl, e2⟩ | ⟨hm, e2⟩
    · skip
      have hm2 : MI s2 a ∧ LoE s1 s2 ∧ s2 137 0 = 0 := by subst e2; exact ⟨m1.th, fun q i hq => up_ne (by omega), up_eq _ _ _ _⟩
      refine J.istore dL_law_751 (by decide) rfl ?_
      refine J.aload_n 2 dL_law_753 rfl rfl ?_
      refine I.callV0i (d' := d - 1) (mi' := mX9_thrown) dL_law_754 lL_151 eX9_thrown rfl rfl (c_X9_thrown (d := d - 1) hl (by omega)) (show d - 1 + 1 ≤ d from by omega) (Nat.le_of_ble_eq_true rfl) ?_
      refine I.sx hm2.2.2 ?_
      refine J.iload dL_law_757 rfl ?_
      refine I.icmpS 764 dL_law_759 (by decide) ?_
      refine J.iload dL_law_764 rfl ?_
      refine I.if_ne0 (tgt := 781) dL_law_766 (by decide) ?_
      refine J.aload_n 3 dL_law_769 rfl rfl ?_
      refine I.iconst dL_law_770 ?_
      refine I.lald0 hε dL_law_771 ?_
      refine J.iload dL_law_772 rfl ?_
      refine J.i2l dL_law_774 ?_
      refine I.lcmpS dL_law_775 ?_
      refine I.if_eq0 781 dL_law_776 (by decide) ?_
      refine J.goto 2839 dL_law_781 (by decide) ?_
      refine J.fgt (L' := [some (.ref 2000000), some (.ref 0), some (.ref 137), some (.ref 142), some (.ref 143), some (.int (iI (i : Int))), none, none, none]) (by exact ⟨Or.inr rfl, Or.inr rfl, Or.inr rfl, Or.inr rfl, Or.inr rfl, Or.inr rfl, Or.inl rfl, Or.inl rfl, Or.inl rfl, trivial⟩) ?_
      exact J.mono (kx s2 _ _ (j) (hc.1.hi hm2.2.1) hm2.1) (fun _ _ h => h) (fun _ _ h => h) ⟨show d ≤ d from Nat.le_refl d, by show mc ≤ mc + 2 - 2; omega, by show ms ≤ ms + 12 - 12; omega⟩
    · exact absurd hcond hm
  · skip
    obtain ⟨hcond, e1⟩ := hx
    have hc : CI s1 a ∧ HiE s s1 := by subst e1; exact ⟨h, fun _ _ _ => rfl⟩
    have m1 : MI s1 a := m.lo hc.2
    refine J.aload_n 2 dL_law_735 rfl rfl ?_
    refine J.aload_n 0 dL_law_736 rfl rfl ?_
    refine J.iload dL_law_737 rfl ?_
    refine I.iconst dL_law_739 ?_
    refine I.add dL_law_740 ?_
    refine I.sld (j := i + 1) hsc (by omega) (by omega) hL dL_law_741 ?_
    refine J.aload_n 0 dL_law_742 rfl rfl ?_
    refine J.iload dL_law_743 rfl ?_
    refine I.iconst dL_law_745 ?_
    refine I.add dL_law_746 ?_
    refine I.sld (j := i + 2) hsc (by omega) (by omega) hL dL_law_747 ?_
    refine I.callV2q (d' := d - 1) (mi' := mX9_roundScore) dL_law_748 lL_204 eX9_roundScore rfl rfl (c_X9_roundScore (d := d - 1) hl (by omega) (m1.w j) (iI_rng _) (iI_rng _)) (show d - 1 + 1 ≤ d from by omega) (Nat.le_of_ble_eq_true rfl) ?_
    rintro w9 s2 h2
    rcases h2 with ⟨hm, rfl, e2⟩ | ⟨hm, e2⟩
    · exact absurd hm hcond
    · skip
      have hm2 : MI s2 a ∧ LoE s1 s2 ∧ s2 137 0 = 1 := by subst e2; exact ⟨m1.th, fun q i hq => up_ne (by omega), up_eq _ _ _ _⟩
      refine J.istore dL_law_751 (by decide) rfl ?_
      refine J.aload_n 2 dL_law_753 rfl rfl ?_
      refine I.callV0i (d' := d - 1) (mi' := mX9_thrown) dL_law_754 lL_151 eX9_thrown rfl rfl (c_X9_thrown (d := d - 1) hl (by omega)) (show d - 1 + 1 ≤ d from by omega) (Nat.le_of_ble_eq_true rfl) ?_
      refine I.sx hm2.2.2 ?_
      refine J.iload dL_law_757 rfl ?_
      refine I.icmpS 764 dL_law_759 (by decide) ?_
      refine J.iload dL_law_764 rfl ?_
      refine I.if_ne1 (Or.inl rfl) 781 dL_law_766 (by decide) ?_
      refine J.goto 2839 dL_law_781 (by decide) ?_
      refine J.fgt (L' := [some (.ref 2000000), some (.ref 0), some (.ref 137), some (.ref 142), some (.ref 143), some (.int (iI (i : Int))), none, none, none]) (by exact ⟨Or.inr rfl, Or.inr rfl, Or.inr rfl, Or.inr rfl, Or.inr rfl, Or.inr rfl, Or.inl rfl, Or.inl rfl, Or.inl rfl, trivial⟩) ?_
      exact J.mono (kx s2 _ _ (j) (hc.1.hi hm2.2.1) hm2.1) (fun _ _ h => h) (fun _ _ h => h) ⟨show d ≤ d from Nat.le_refl d, by show mc ≤ mc + 2 - 2; omega, by show ms ≤ ms + 12 - 12; omega⟩
  · exact absurd hx id
set_option maxHeartbeats 4000000 in
theorem lc_14 {Γ : jE} (hl : Γ.1.stackTraces = false) {Ls : Nat} {xs : Nat → Int32} (hsc : Γ.2.2 = some (Ls, xs)) {s : Nat → Int → Int} {ε : jEps} {d i mc ms : Nat} {a : AS} {P : Option Value → jM → Prop} {X : String → jM → Prop} (hd : 131 ≤ d) (hi : i + 6 ≤ Ls) (hL : Ls ≤ 3072) (h : CI s a) (m : MI s a) (j : AI a) (kx : ∀ s' ε' a', AI a' → CI s' a' → MI s' a' → J Γ (d, mc, ms) mL_law 2839 [some (.ref 2000000), some (.ref 0), some (.ref 137), some (.ref 142), some (.ref 143), some (.int (iI (i : Int))), none, none, none] [] (jmem s' ε') P X) : J Γ (d, mc + 2, ms + 12) mL_law 784 [some (.ref 2000000), some (.ref 0), some (.ref 137), some (.ref 142), some (.ref 143), some (.int (iI (i : Int))), none, none, none] [] (jmem s ε) P X := by
  refine J.aload_n 1 dL_law_784 rfl rfl ?_
  refine J.aload_n 0 dL_law_785 rfl rfl ?_
  refine J.iload dL_law_786 rfl ?_
  refine I.iconst dL_law_788 ?_
  refine I.add dL_law_789 ?_
  refine I.sld (j := i + 1) hsc (by omega) (by omega) hL dL_law_790 ?_
  refine J.aload_n 3 dL_law_791 rfl rfl ?_
  refine J.callW3 (b' := (d - 1, 1, 6)) (mi' := mL_totalScore) dL_law_792 lL_205 eL_totalScore (c_L_totalScore (d := d - 1) hl (by omega) h.m (iI_rng _)) (show d - 1 + 1 ≤ d ∧ 1 ≤ mc + 2 ∧ 6 ≤ ms + 12 from ⟨by omega, by omega, by omega⟩) (Nat.le_of_ble_eq_true rfl) ?_
  rintro v M' ⟨s1, ε1, k9, rfl, rfl, hk⟩
  refine J.istore dL_law_795 (by decide) rfl ?_
  rcases hk with ⟨rfl, r9, hq, hε⟩ | ⟨rfl, hx⟩ | ⟨rfl, hx⟩
  · skip
    obtain ⟨hcond, rfl, e1⟩ := hq
    have hc : CI s1 a ∧ HiE s s1 := by subst e1; exact ⟨h, fun _ _ _ => rfl⟩
    have m1 : MI s1 a := m.lo hc.2
    refine J.aload_n 2 dL_law_797 rfl rfl ?_
    refine J.aload_n 0 dL_law_798 rfl rfl ?_
    refine J.iload dL_law_799 rfl ?_
    refine I.iconst dL_law_801 ?_
    refine I.add dL_law_802 ?_
    refine I.sld (j := i + 1) hsc (by omega) (by omega) hL dL_law_803 ?_
    refine I.callV1q (d' := d - 1) (mi' := mX9_totalScore) dL_law_804 lL_207 eX9_totalScore rfl rfl (c_X9_totalScore (d := d - 1) hl (by omega) (m1.w j) (iI_rng _)) (show d - 1 + 1 ≤ d from by omega) (Nat.le_of_ble_eq_true rfl) ?_
    rintro w9 s2 h2
    rcases h2 with ⟨hm, rfl, e2⟩ | ⟨hm, e2⟩
    · skip
      have hm2 : MI s2 a ∧ LoE s1 s2 ∧ s2 137 0 = 0 := by subst e2; exact ⟨m1.th, fun q i hq => up_ne (by omega), up_eq _ _ _ _⟩
      refine J.istore dL_law_807 (by decide) rfl ?_
      refine J.aload_n 2 dL_law_809 rfl rfl ?_
      refine I.callV0i (d' := d - 1) (mi' := mX9_thrown) dL_law_810 lL_151 eX9_thrown rfl rfl (c_X9_thrown (d := d - 1) hl (by omega)) (show d - 1 + 1 ≤ d from by omega) (Nat.le_of_ble_eq_true rfl) ?_
      refine I.sx hm2.2.2 ?_
      refine J.iload dL_law_813 rfl ?_
      refine I.icmpS 820 dL_law_815 (by decide) ?_
      refine J.iload dL_law_820 rfl ?_
      refine I.if_ne0 (tgt := 837) dL_law_822 (by decide) ?_
      refine J.aload_n 3 dL_law_825 rfl rfl ?_
      refine I.iconst dL_law_826 ?_
      refine I.lald0 hε dL_law_827 ?_
      refine J.iload dL_law_828 rfl ?_
      refine J.i2l dL_law_830 ?_
      refine I.lcmpS dL_law_831 ?_
      refine I.if_eq0 837 dL_law_832 (by decide) ?_
      refine J.goto 2839 dL_law_837 (by decide) ?_
      refine J.fgt (L' := [some (.ref 2000000), some (.ref 0), some (.ref 137), some (.ref 142), some (.ref 143), some (.int (iI (i : Int))), none, none, none]) (by exact ⟨Or.inr rfl, Or.inr rfl, Or.inr rfl, Or.inr rfl, Or.inr rfl, Or.inr rfl, Or.inl rfl, Or.inl rfl, Or.inl rfl, trivial⟩) ?_
      exact J.mono (kx s2 _ _ (j) (hc.1.hi hm2.2.1) hm2.1) (fun _ _ h => h) (fun _ _ h => h) ⟨show d ≤ d from Nat.le_refl d, by show mc ≤ mc + 2 - 1; omega, by show ms ≤ ms + 12 - 6; omega⟩
    · exact absurd hcond hm
  · skip
    obtain ⟨hcond, e1⟩ := hx
    have hc : CI s1 a ∧ HiE s s1 := by subst e1; exact ⟨h, fun _ _ _ => rfl⟩
    have m1 : MI s1 a := m.lo hc.2
    refine J.aload_n 2 dL_law_797 rfl rfl ?_
    refine J.aload_n 0 dL_law_798 rfl rfl ?_
    refine J.iload dL_law_799 rfl ?_
    refine I.iconst dL_law_801 ?_
    refine I.add dL_law_802 ?_
    refine I.sld (j := i + 1) hsc (by omega) (by omega) hL dL_law_803 ?_
    refine I.callV1q (d' := d - 1) (mi' := mX9_totalScore) dL_law_804 lL_207 eX9_totalScore rfl rfl (c_X9_totalScore (d := d - 1) hl (by omega) (m1.w j) (iI_rng _)) (show d - 1 + 1 ≤ d from by omega) (Nat.le_of_ble_eq_true rfl) ?_
    rintro w9 s2 h2
    rcases h2 with ⟨hm, rfl, e2⟩ | ⟨hm, e2⟩
    · exact absurd hm hcond
    · skip
      have hm2 : MI s2 a ∧ LoE s1 s2 ∧ s2 137 0 = 1 := by subst e2; exact ⟨m1.th, fun q i hq => up_ne (by omega), up_eq _ _ _ _⟩
      refine J.istore dL_law_807 (by decide) rfl ?_
      refine J.aload_n 2 dL_law_809 rfl rfl ?_
      refine I.callV0i (d' := d - 1) (mi' := mX9_thrown) dL_law_810 lL_151 eX9_thrown rfl rfl (c_X9_thrown (d := d - 1) hl (by omega)) (show d - 1 + 1 ≤ d from by omega) (Nat.le_of_ble_eq_true rfl) ?_
      refine I.sx hm2.2.2 ?_
      refine J.iload dL_law_813 rfl ?_
      refine I.icmpS 820 dL_law_815 (by decide) ?_
      refine J.iload dL_law_820 rfl ?_
      refine I.if_ne1 (Or.inl rfl) 837 dL_law_822 (by decide) ?_
      refine J.goto 2839 dL_law_837 (by decide) ?_
      refine J.fgt (L' := [some (.ref 2000000), some (.ref 0), some (.ref 137), some (.ref 142), some (.ref 143), some (.int (iI (i : Int))), none, none, none]) (by exact ⟨Or.inr rfl, Or.inr rfl, Or.inr rfl, Or.inr rfl, Or.inr rfl, Or.inr rfl, Or.inl rfl, Or.inl rfl, Or.inl rfl, trivial⟩) ?_
      exact J.mono (kx s2 _ _ (j) (hc.1.hi hm2.2.1) hm2.1) (fun _ _ h => h) (fun _ _ h => h) ⟨show d ≤ d from Nat.le_refl d, by show mc ≤ mc + 2 - 1; omega, by show ms ≤ ms + 12 - 6; omega⟩
  · exact absurd hx id
set_option maxHeartbeats 4000000 in
theorem lc_15 {Γ : jE} (hl : Γ.1.stackTraces = false) {Ls : Nat} {xs : Nat → Int32} (hsc : Γ.2.2 = some (Ls, xs)) {s : Nat → Int → Int} {ε : jEps} {d i mc ms : Nat} {a : AS} {P : Option Value → jM → Prop} {X : String → jM → Prop} (hd : 131 ≤ d) (hi : i + 6 ≤ Ls) (hL : Ls ≤ 3072) (h : CI s a) (m : MI s a) (j : AI a) (kx : ∀ s' ε' a', AI a' → CI s' a' → MI s' a' → J Γ (d, mc, ms) mL_law 2839 [some (.ref 2000000), some (.ref 0), some (.ref 137), some (.ref 142), some (.ref 143), some (.int (iI (i : Int))), none, none, none] [] (jmem s' ε') P X) : J Γ (d, mc + 2, ms + 12) mL_law 840 [some (.ref 2000000), some (.ref 0), some (.ref 137), some (.ref 142), some (.ref 143), some (.int (iI (i : Int))), none, none, none] [] (jmem s ε) P X := by
  refine J.aload_n 1 dL_law_840 rfl rfl ?_
  refine J.aload_n 0 dL_law_841 rfl rfl ?_
  refine J.iload dL_law_842 rfl ?_
  refine I.iconst dL_law_844 ?_
  refine I.add dL_law_845 ?_
  refine I.sld (j := i + 1) hsc (by omega) (by omega) hL dL_law_846 ?_
  refine J.aload_n 3 dL_law_847 rfl rfl ?_
  refine J.callW3 (b' := (d - 1, 1, 6)) (mi' := mL_tilesBurnt) dL_law_848 lL_208 eL_tilesBurnt (c_L_tilesBurnt (d := d - 1) hl (by omega) h.m (iI_rng _)) (show d - 1 + 1 ≤ d ∧ 1 ≤ mc + 2 ∧ 6 ≤ ms + 12 from ⟨by omega, by omega, by omega⟩) (Nat.le_of_ble_eq_true rfl) ?_
  rintro v M' ⟨s1, ε1, k9, rfl, rfl, hk⟩
  refine J.istore dL_law_851 (by decide) rfl ?_
  rcases hk with ⟨rfl, r9, hq, hε⟩ | ⟨rfl, hx⟩ | ⟨rfl, hx⟩
  · skip
    obtain ⟨hcond, rfl, e1⟩ := hq
    have hc : CI s1 a ∧ HiE s s1 := by subst e1; exact ⟨h, fun _ _ _ => rfl⟩
    have m1 : MI s1 a := m.lo hc.2
    refine J.aload_n 2 dL_law_853 rfl rfl ?_
    refine J.aload_n 0 dL_law_854 rfl rfl ?_
    refine J.iload dL_law_855 rfl ?_
    refine I.iconst dL_law_857 ?_
    refine I.add dL_law_858 ?_
    refine I.sld (j := i + 1) hsc (by omega) (by omega) hL dL_law_859 ?_
    refine I.callV1q (d' := d - 1) (mi' := mX9_tilesBurnt) dL_law_860 lL_210 eX9_tilesBurnt rfl rfl (c_X9_tilesBurnt (d := d - 1) hl (by omega) (m1.w j) (iI_rng _)) (show d - 1 + 1 ≤ d from by omega) (Nat.le_of_ble_eq_true rfl) ?_
    rintro w9 s2 h2
    rcases h2 with ⟨hm, rfl, e2⟩ | ⟨hm, e2⟩
    · skip
      have hm2 : MI s2 a ∧ LoE s1 s2 ∧ s2 137 0 = 0 := by subst e2; exact ⟨m1.th, fun q i hq => up_ne (by omega), up_eq _ _ _ _⟩
      refine J.istore dL_law_863 (by decide) rfl ?_
      refine J.aload_n 2 dL_law_865 rfl rfl ?_
      refine I.callV0i (d' := d - 1) (mi' := mX9_thrown) dL_law_866 lL_151 eX9_thrown rfl rfl (c_X9_thrown (d := d - 1) hl (by omega)) (show d - 1 + 1 ≤ d from by omega) (Nat.le_of_ble_eq_true rfl) ?_
      refine I.sx hm2.2.2 ?_
      refine J.iload dL_law_869 rfl ?_
      refine I.icmpS 876 dL_law_871 (by decide) ?_
      refine J.iload dL_law_876 rfl ?_
      refine I.if_ne0 (tgt := 893) dL_law_878 (by decide) ?_
      refine J.aload_n 3 dL_law_881 rfl rfl ?_
      refine I.iconst dL_law_882 ?_
      refine I.lald0 hε dL_law_883 ?_
      refine J.iload dL_law_884 rfl ?_
      refine J.i2l dL_law_886 ?_
      refine I.lcmpS dL_law_887 ?_
      refine I.if_eq0 893 dL_law_888 (by decide) ?_
      refine J.goto 2839 dL_law_893 (by decide) ?_
      refine J.fgt (L' := [some (.ref 2000000), some (.ref 0), some (.ref 137), some (.ref 142), some (.ref 143), some (.int (iI (i : Int))), none, none, none]) (by exact ⟨Or.inr rfl, Or.inr rfl, Or.inr rfl, Or.inr rfl, Or.inr rfl, Or.inr rfl, Or.inl rfl, Or.inl rfl, Or.inl rfl, trivial⟩) ?_
      exact J.mono (kx s2 _ _ (j) (hc.1.hi hm2.2.1) hm2.1) (fun _ _ h => h) (fun _ _ h => h) ⟨show d ≤ d from Nat.le_refl d, by show mc ≤ mc + 2 - 1; omega, by show ms ≤ ms + 12 - 6; omega⟩
    · exact absurd hcond hm
  · skip
    obtain ⟨hcond, e1⟩ := hx
    have hc : CI s1 a ∧ HiE s s1 := by subst e1; exact ⟨h, fun _ _ _ => rfl⟩
    have m1 : MI s1 a := m.lo hc.2
    refine J.aload_n 2 dL_law_853 rfl rfl ?_
    refine J.aload_n 0 dL_law_854 rfl rfl ?_
    refine J.iload dL_law_855 rfl ?_
    refine I.iconst dL_law_857 ?_
    refine I.add dL_law_858 ?_
    refine I.sld (j := i + 1) hsc (by omega) (by omega) hL dL_law_859 ?_
    refine I.callV1q (d' := d - 1) (mi' := mX9_tilesBurnt) dL_law_860 lL_210 eX9_tilesBurnt rfl rfl (c_X9_tilesBurnt (d := d - 1) hl (by omega) (m1.w j) (iI_rng _)) (show d - 1 + 1 ≤ d from by omega) (Nat.le_of_ble_eq_true rfl) ?_
    rintro w9 s2 h2
    rcases h2 with ⟨hm, rfl, e2⟩ | ⟨hm, e2⟩
    · exact absurd hm hcond
    · skip
      have hm2 : MI s2 a ∧ LoE s1 s2 ∧ s2 137 0 = 1 := by subst e2; exact ⟨m1.th, fun q i hq => up_ne (by omega), up_eq _ _ _ _⟩
      refine J.istore dL_law_863 (by decide) rfl ?_
      refine J.aload_n 2 dL_law_865 rfl rfl ?_
      refine I.callV0i (d' := d - 1) (mi' := mX9_thrown) dL_law_866 lL_151 eX9_thrown rfl rfl (c_X9_thrown (d := d - 1) hl (by omega)) (show d - 1 + 1 ≤ d from by omega) (Nat.le_of_ble_eq_true rfl) ?_
      refine I.sx hm2.2.2 ?_
      refine J.iload dL_law_869 rfl ?_
      refine I.icmpS 876 dL_law_871 (by decide) ?_
      refine J.iload dL_law_876 rfl ?_
      refine I.if_ne1 (Or.inl rfl) 893 dL_law_878 (by decide) ?_
      refine J.goto 2839 dL_law_893 (by decide) ?_
      refine J.fgt (L' := [some (.ref 2000000), some (.ref 0), some (.ref 137), some (.ref 142), some (.ref 143), some (.int (iI (i : Int))), none, none, none]) (by exact ⟨Or.inr rfl, Or.inr rfl, Or.inr rfl, Or.inr rfl, Or.inr rfl, Or.inr rfl, Or.inl rfl, Or.inl rfl, Or.inl rfl, trivial⟩) ?_
      exact J.mono (kx s2 _ _ (j) (hc.1.hi hm2.2.1) hm2.1) (fun _ _ h => h) (fun _ _ h => h) ⟨show d ≤ d from Nat.le_refl d, by show mc ≤ mc + 2 - 1; omega, by show ms ≤ ms + 12 - 6; omega⟩
  · exact absurd hx id
