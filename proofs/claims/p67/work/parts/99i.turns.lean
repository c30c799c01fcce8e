/-! the law's turns -/
set_option maxHeartbeats 4000000 in
theorem k_mv {Γ : jE} (hl : Γ.1.stackTraces = false) {dd B C : Nat} {b tn : Int} {n sc en : Nat} {a : AS} {P : Option Value → jM → Prop} (hd : 60 ≤ dd) (p1 : AI a) (ho : ¬ gOver (aF a)) {sh : List (Nat × Nat)} {t : Nat → Nat → Option Nat} (hp : PF sh t)
    (kx : ∀ s i ct wo mn fo, AC (aF a) i ct wo mn fo → EN (aF a) n n i → XB sh t s → CI s a → LR sh t s sc en n (aF a) → J Γ (dd, B, C) mLw 625 [some (.ref 2000000), some (.ref 0), some (.int (iI b)), some (.int (iI tn)), some (.int (iI (n : Int))), some (.ref sc), some (.ref en), some (.int (iI (gWf (aF a)))), none, some (.int (iI (gMoves (aF a)))), some (.int (iI ct)), some (.int (iI wo)), some (.int (iI mn)), some (.int (iI fo)), some (.int (iI i)), some (.int (iI 0)), none, none, none, none, none, none, none, none, none] [] (jmx sh t s) P X0) :
    ∀ (k : Nat) {c : Nat} {i ct wo mn fo : Int} {s : Nat → Int → Int}, k + c = n → AC (aF a) i ct wo mn fo → EN (aF a) n c i → XB sh t s → CI s a → LR sh t s sc en n (aF a) →
      J Γ (dd, B + 8 * k, C + 48 * k) mLw 413 [some (.ref 2000000), some (.ref 0), some (.int (iI b)), some (.int (iI tn)), some (.int (iI (n : Int))), some (.ref sc), some (.ref en), some (.int (iI (gWf (aF a)))), none, some (.int (iI (gMoves (aF a)))), some (.int (iI ct)), some (.int (iI wo)), some (.int (iI mn)), some (.int (iI fo)), some (.int (iI i)), some (.int (iI 0)), some (.int (iI (c : Int))), none, none, none, none, none, none, none, none] [] (jmx sh t s) P X0 := by
  intro k
  induction k with
  | zero =>
    intro c i ct wo mn fo s hk hAC hEN hx p0 hR
    have hl' := p1.1.1
    have hv' := p1.1.2
    have hc := hl'.ch _ hv'.cur.1 hv'.cur.2
    have hmr := gMoves_rng hc
    have hmp := gMoves_pos hc ho
    have hW := gWf_rng hl' hv'
    have hnw := gNow_n ho
    have hnf := hR.2.2.2.2.1
    have hsc := hR.2.2.1
    have hen := hR.2.2.2.1
    have hbr := hR.br hl' hv'
    have r4 := hv'.2.2.2.1
    have f42 : (aF a) 4 ≠ 2 := fun h => ho (Or.inl h)
    refine J.iload dL_law_413 rfl ?_
    refine J.iload dL_law_415 rfl ?_
    refine I.icmp_ge 625 dL_law_417 (by decide) (by omega) (by omega) (fun h417 => ?_) (fun h417 => ?_)
    · skip
      obtain rfl : c = n := by omega
      exact J.slack rfl ⟨by show B ≤ B + 8 * 0; omega, by show C ≤ C + 48 * 0; omega⟩ (J.fgt (by exact ⟨Or.inr rfl, Or.inr rfl, Or.inr rfl, Or.inr rfl, Or.inr rfl, Or.inr rfl, Or.inr rfl, Or.inr rfl, Or.inl rfl, Or.inr rfl, Or.inr rfl, Or.inr rfl, Or.inr rfl, Or.inr rfl, Or.inr rfl, Or.inr rfl, Or.inl rfl, Or.inl rfl, Or.inl rfl, Or.inl rfl, Or.inl rfl, Or.inl rfl, Or.inl rfl, Or.inl rfl, Or.inl rfl, trivial⟩) (kx s _ _ _ _ _ hAC hEN hx p0 hR))
    · exact absurd h417 (by omega)
  | succ k ih =>
    intro c i ct wo mn fo s hk hAC hEN hx p0 hR
    have hl' := p1.1.1
    have hv' := p1.1.2
    have hc := hl'.ch _ hv'.cur.1 hv'.cur.2
    have hmr := gMoves_rng hc
    have hmp := gMoves_pos hc ho
    have hW := gWf_rng hl' hv'
    have hnw := gNow_n ho
    have hnf := hR.2.2.2.2.1
    have hsc := hR.2.2.1
    have hen := hR.2.2.2.1
    have hbr := hR.br hl' hv'
    have r4 := hv'.2.2.2.1
    have f42 : (aF a) 4 ≠ 2 := fun h => ho (Or.inl h)
    have hcn : c < n := by omega
    obtain ⟨g1, g2, r, g3, g4, g5, g6, g7⟩ := hR.2.2.2.2.2 c hcn
    have hτ : t sc (c : Int).toNat = some r := by rw [Int.toNat_natCast]; exact g3
    have hen' := hv'.ends (c : Int) (by omega) (by omega)
    have h8 : (aF a) (37 + (c : Int)) < 8 := by have := hl'.len ((aF a) 1) (c : Int) hv'.cur.1 hv'.cur.2 (by omega) (by omega); omega
    have hle0 := hEN.le
    have i0 := hAC.1
    rw [show B + 8 * (k + 1) = B + 8 * k + 4 + 4 by omega, show C + 48 * (k + 1) = C + 48 * k + 24 + 24 by omega]
    refine J.iload dL_law_413 rfl ?_
    refine J.iload dL_law_415 rfl ?_
    refine I.icmp_ge 625 dL_law_417 (by decide) (by omega) (by omega) (fun h417 => ?_) (fun h417 => ?_)
    · exact absurd h417 (by omega)
    · skip
      refine J.aload dL_law_420 rfl ?_
      refine J.iload dL_law_422 rfl ?_
      refine Y.raald dL_law_424 hsc (by omega) (by omega) hτ ?_
      refine Y.alen dL_law_425 g6 (by decide) ?_
      refine I.iconst dL_law_426 ?_
      refine I.icmp_ge 433 dL_law_427 (by decide) (by omega) (by omega) (fun h427 => ?_) (fun h427 => ?_)
      · skip
        obtain ⟨m1, m2, hE2⟩ := hEN.long (by omega) (by omega)
        have hle := hE2.le
        refine I.iconst dL_law_433 ?_
        refine J.istore dL_law_434 (by decide) rfl ?_
        refine J.iload dL_law_436 rfl ?_
        refine I.iconst dL_law_438 ?_
        refine I.icmp_ge 619 dL_law_439 (by decide) (by omega) (by omega) (fun h439 => ?_) (fun h439 => ?_)
        · exact absurd h439 (by omega)
        · skip
          refine J.fgt (by exact ⟨Or.inr rfl, Or.inr rfl, Or.inr rfl, Or.inr rfl, Or.inr rfl, Or.inr rfl, Or.inr rfl, Or.inr rfl, Or.inl rfl, Or.inr rfl, Or.inr rfl, Or.inr rfl, Or.inr rfl, Or.inr rfl, Or.inr rfl, Or.inr rfl, Or.inr rfl, Or.inr rfl, Or.inl rfl, Or.inl rfl, Or.inl rfl, Or.inl rfl, Or.inl rfl, Or.inl rfl, Or.inl rfl, trivial⟩) (k_burn (B := B + 8 * k + 4) (C := C + 48 * k + 24) hl hd p1 ho hp hx p0 hR (j := 0) (by decide) hcn (by omega) hAC (by omega) (by rw [m1, Int.add_zero]) (fun s ct wo mn fo hAC hx p0 hR => ?_))
          refine J.iload dL_law_436 rfl ?_
          refine I.iconst dL_law_438 ?_
          refine I.icmp_ge 619 dL_law_439 (by decide) (by omega) (by omega) (fun h439 => ?_) (fun h439 => ?_)
          · exact absurd h439 (by omega)
          · skip
            refine J.fgt (by exact ⟨Or.inr rfl, Or.inr rfl, Or.inr rfl, Or.inr rfl, Or.inr rfl, Or.inr rfl, Or.inr rfl, Or.inr rfl, Or.inl rfl, Or.inr rfl, Or.inr rfl, Or.inr rfl, Or.inr rfl, Or.inr rfl, Or.inr rfl, Or.inr rfl, Or.inr rfl, Or.inr rfl, Or.inl rfl, Or.inl rfl, Or.inl rfl, Or.inl rfl, Or.inl rfl, Or.inl rfl, Or.inl rfl, trivial⟩) (k_burn (B := B + 8 * k) (C := C + 48 * k) hl hd p1 ho hp hx p0 hR (j := (0 + 1)) (by decide) hcn (by omega) hAC (by omega) (by rw [m2]; omega) (fun s ct wo mn fo hAC hx p0 hR => ?_))
            refine J.iload dL_law_436 rfl ?_
            refine I.iconst dL_law_438 ?_
            refine I.icmp_ge 619 dL_law_439 (by decide) (by omega) (by omega) (fun h439 => ?_) (fun h439 => ?_)
            · skip
              refine I.iinc dL_law_619 rfl rfl ?_
              refine J.goto 413 dL_law_622 (by decide) ?_
              rw [show ((c : Int) + 1) = ((c + 1 : Nat) : Int) by omega]
              rw [show i + 1 + 1 = i + 2 by omega] at hAC ⊢
              exact J.slack rfl ⟨by show B + 8 * k ≤ B + 8 * k; omega, by show C + 48 * k ≤ C + 48 * k; omega⟩ (J.fgt (by exact ⟨Or.inr rfl, Or.inr rfl, Or.inr rfl, Or.inr rfl, Or.inr rfl, Or.inr rfl, Or.inr rfl, Or.inr rfl, Or.inl rfl, Or.inr rfl, Or.inr rfl, Or.inr rfl, Or.inr rfl, Or.inr rfl, Or.inr rfl, Or.inr rfl, Or.inr rfl, Or.inl rfl, Or.inl rfl, Or.inl rfl, Or.inl rfl, Or.inl rfl, Or.inl rfl, Or.inl rfl, Or.inl rfl, trivial⟩) (ih (c := c + 1) (by omega) hAC hE2 hx p0 hR))
            · exact absurd h439 (by omega)
      · skip
        refine J.goto 619 dL_law_430 (by decide) ?_
        refine I.iinc dL_law_619 rfl rfl ?_
        refine J.goto 413 dL_law_622 (by decide) ?_
        rw [show ((c : Int) + 1) = ((c + 1 : Nat) : Int) by omega]
        exact J.slack rfl ⟨by show B + 8 * k ≤ B + 8 * k + 4 + 4; omega, by show C + 48 * k ≤ C + 48 * k + 24 + 24; omega⟩ (J.fgt (by exact ⟨Or.inr rfl, Or.inr rfl, Or.inr rfl, Or.inr rfl, Or.inr rfl, Or.inr rfl, Or.inr rfl, Or.inr rfl, Or.inl rfl, Or.inr rfl, Or.inr rfl, Or.inr rfl, Or.inr rfl, Or.inr rfl, Or.inr rfl, Or.inr rfl, Or.inr rfl, Or.inl rfl, Or.inl rfl, Or.inl rfl, Or.inl rfl, Or.inl rfl, Or.inl rfl, Or.inl rfl, Or.inl rfl, trivial⟩) (ih (c := c + 1) (by omega) hAC (hEN.short (by omega) (by omega)) hx p0 hR))
set_option maxHeartbeats 4000000 in
theorem k_main {Γ : jE} (hl : Γ.1.stackTraces = false) {dd B C : Nat} {b tn : Int} {n sc en : Nat} {a : AS} {P : Option Value → jM → Prop} {Ls : Nat} {xs : Nat → Int32} (hsx : Γ.2.2 = some (Ls, xs)) (hLs : Ls ≤ 3072) (htn : 0 ≤ tn ∧ tn < 5) (hb : 0 ≤ b ∧ b ≤ 1) (hd : 60 ≤ dd) (p1 : AI a) (ho : ¬ gOver (aF a)) {sh : List (Nat × Nat)} {t : Nat → Nat → Option Nat} {s : Nat → Int → Int} (hp : PF sh t) (hx : XB sh t s) (p0 : CI s a) (hR : LR sh t s sc en n (aF a)) (hb4 : b = 1 ↔ (aF a) 4 = 1) (kx : ∀ s' a' b', CI s' a' → AI a' → 0 ≤ b' ∧ b' ≤ 1 → (¬ gOver (aF a') → (b' = 1 ↔ aF a' 4 = 1)) → XB sh t s' → J Γ (dd, B, C) mLw 52 [some (.ref 2000000), some (.ref 0), some (.int (iI b')), some (.int (iI (tn + 1))), none, none, none, none, none, none, none, none, none, none, none, none, none, none, none, none, none, none, none, none, none] [] (jmx sh t s') P X0) :
    J Γ (dd, B + 110, C + 640) mLw 298 [some (.ref 2000000), some (.ref 0), some (.int (iI b)), some (.int (iI tn)), some (.int (iI (n : Int))), some (.ref sc), some (.ref en), none, none, none, none, none, none, none, none, none, none, none, none, none, none, none, none, none, none] [] (jmx sh t s) P X0 := by
  have hl' := p1.1.1
  have hv' := p1.1.2
  have hc := hl'.ch _ hv'.cur.1 hv'.cur.2
  have hmr := gMoves_rng hc
  have hmp := gMoves_pos hc ho
  have hW := gWf_rng hl' hv'
  have hnw := gNow_n ho
  have hnf := hR.2.2.2.2.1
  have hsc := hR.2.2.1
  have hen := hR.2.2.2.1
  have hbr := hR.br hl' hv'
  have r4 := hv'.2.2.2.1
  have f42 : (aF a) 4 ≠ 2 := fun h => ho (Or.inl h)
  have hcr := hv'.cur
  have hrn := hl'.rn
  have h2 := hv'.2.1
  have rBt := gBt_rng hl' hv'
  have s1 : 0 ≤ (aF a) (6 + 2 * (aF a) 1 + (aF a) 2) ∧ (aF a) (6 + 2 * (aF a) 1 + (aF a) 2) ≤ 504 := by
    have h := hv'.sc ((aF a) 1) ((aF a) 2) (by omega) (by omega) (by omega) (by omega)
    exact ⟨h.1, Int.le_trans h.2 (by (repeat' split) <;> omega)⟩
  have s2 : 0 ≤ (aF a) (6 + 2 * (aF a) 1 + (1 - (aF a) 2)) ∧ (aF a) (6 + 2 * (aF a) 1 + (1 - (aF a) 2)) ≤ 504 := by
    have h := hv'.sc ((aF a) 1) (1 - (aF a) 2) (by omega) (by omega) (by omega) (by omega)
    exact ⟨h.1, Int.le_trans h.2 (by (repeat' split) <;> omega)⟩
  have eD : gDag (aF a) = gAg b (aF a) := by
    by_cases h4 : (aF a) 4 = 1
    · rw [gDag_n1 ho h4, hb4.mpr h4]
    · rw [gDag_n0 ho h4, show b = 0 by have : b ≠ 1 := (fun h => h4 (hb4.mp h)); omega]
  have rA := gAg_rng hl' hv' (b := b)
  have gA : gWf (aF a) ≤ gAg b (aF a) := by
    obtain ⟨-, a0, a1⟩ := gAg_ge 21 hl' hv' (gBurns_rng hl' hv').2
    rcases (by omega : b = 0 ∨ b = 1) with h | h
    · rw [h]; exact a0
    · rw [h]; exact a1
  refine J.aload dL_law_298 rfl ?_
  refine J.aload dL_law_300 rfl ?_
  refine J.iload_n 2 dL_law_302 rfl rfl ?_
  refine Y.callS (d' := 40) (mi' := mL_best) [.ref sc, .ref en, .int (iI b)] dL_law_303 lL_190 eL_best rfl (by show 40 + 1 ≤ dd; omega) (c_best hl 21 40 (by decide) (And.intro hl' hv').1 (And.intro hl' hv').2 (gBurns_rng (And.intro hl' hv').1 (And.intro hl' hv').2).2 hbr (by omega)) (Nat.le_of_ble_eq_true rfl) ?_
  refine J.istore dL_law_306 (by decide) rfl ?_
  refine J.aload_n 1 dL_law_308 rfl rfl ?_
  refine J.aload_n 1 dL_law_309 rfl rfl ?_
  refine Z.pub (d' := 40) (β := 0) (γ := 0) (mi' := mX8_currentRound) hp [] dL_law_310 lL_138 eX8_currentRound rfl (by omega) (RI.rq (c_X8_currentRound hl (by decide) p0.m)) (fun _ _ h => h) (fun v h => absurd h List.not_mem_nil) (fun w s' h => by rw [h.2]; exact HiE.refl) (Nat.le_of_ble_eq_true rfl) ?_
  rintro w s' ⟨rfl, ee⟩
  have ee := ee.symm
  subst ee
  refine J.aload_n 1 dL_law_313 rfl rfl ?_
  refine Z.pub (d' := 40) (β := 0) (γ := 0) (mi' := mX8_playerToMove) hp [] dL_law_314 lL_147 eX8_playerToMove rfl (by omega) (RI.rq (c_X8_playerToMove hl (by decide) p0.m)) (fun _ _ h => h) (fun v h => absurd h List.not_mem_nil) (fun w s' h => by rw [h.2]; exact HiE.refl) (Nat.le_of_ble_eq_true rfl) ?_
  rintro w s' ⟨rfl, ee⟩
  have ee := ee.symm
  subst ee
  refine Z.wrap (d' := 40) (β := 2) (γ := 12) (mi' := mL_score) hp [.int (iI ((aF a) 1)), .int (iI ((aF a) 2))] dL_law_317 lL_169 eL_score (by omega) (w_score hl p0.m (by decide) (by omega) (by omega) ⟨by omega, by omega⟩) (fun v h => by simp only [List.mem_cons, List.not_mem_nil, or_false] at h; rcases h with rfl | rfl <;> exact ⟨_, rfl⟩) (fun w s' h => by rw [h.2]; exact HiE.refl) (Nat.le_of_ble_eq_true rfl) ?_
  rintro w s' ⟨rfl, ee⟩
  have ee := ee.symm
  subst ee
  refine J.aload_n 1 dL_law_320 rfl rfl ?_
  refine J.aload_n 1 dL_law_321 rfl rfl ?_
  refine Z.pub (d' := 40) (β := 0) (γ := 0) (mi' := mX8_currentRound) hp [] dL_law_322 lL_138 eX8_currentRound rfl (by omega) (RI.rq (c_X8_currentRound hl (by decide) p0.m)) (fun _ _ h => h) (fun v h => absurd h List.not_mem_nil) (fun w s' h => by rw [h.2]; exact HiE.refl) (Nat.le_of_ble_eq_true rfl) ?_
  rintro w s' ⟨rfl, ee⟩
  have ee := ee.symm
  subst ee
  refine I.iconst dL_law_325 ?_
  refine J.aload_n 1 dL_law_326 rfl rfl ?_
  refine Z.pub (d' := 40) (β := 0) (γ := 0) (mi' := mX8_playerToMove) hp [] dL_law_327 lL_147 eX8_playerToMove rfl (by omega) (RI.rq (c_X8_playerToMove hl (by decide) p0.m)) (fun _ _ h => h) (fun v h => absurd h List.not_mem_nil) (fun w s' h => by rw [h.2]; exact HiE.refl) (Nat.le_of_ble_eq_true rfl) ?_
  rintro w s' ⟨rfl, ee⟩
  have ee := ee.symm
  subst ee
  refine I.sub dL_law_330 ?_
  refine Z.wrap (d' := 40) (β := 2) (γ := 12) (mi' := mL_score) hp [.int (iI ((aF a) 1)), .int (iI (1 - (aF a) 2))] dL_law_331 lL_169 eL_score (by omega) (w_score hl p0.m (by decide) (by omega) (by omega) ⟨by omega, by omega⟩) (fun v h => by simp only [List.mem_cons, List.not_mem_nil, or_false] at h; rcases h with rfl | rfl <;> exact ⟨_, rfl⟩) (fun w s' h => by rw [h.2]; exact HiE.refl) (Nat.le_of_ble_eq_true rfl) ?_
  rintro w s' ⟨rfl, ee⟩
  have ee := ee.symm
  subst ee
  refine I.sub dL_law_334 ?_
  refine J.istore dL_law_335 (by decide) rfl ?_
  refine J.aload_n 1 dL_law_337 rfl rfl ?_
  refine Z.pub (d' := 40) (β := 0) (γ := 0) (mi' := mX8_optimalDifference) hp [] dL_law_338 lL_226 eX8_optimalDifference rfl (by omega) (c_X8_optimalDifference hl (by decide) p0.m p0.so) (fun _ _ h => h) (fun v h => absurd h List.not_mem_nil) (fun w s' h => (p0.cfr h.2).2) (Nat.le_of_ble_eq_true rfl) ?_
  rintro w s' ⟨rfl, hF⟩
  obtain ⟨p9, hh⟩ := p0.cfr hF
  replace p0 := p9
  replace hx := hx.hi hp hh
  replace hR := hR.hi hh
  rw [hnw]
  refine J.iload dL_law_341 rfl ?_
  refine I.icmp_ne 382 dL_law_343 (by decide) (by omega) (by omega) (fun h343 => ?_) (fun h343 => ?_)
  · exact absurd h343 (by omega)
  · skip
    refine J.aload_n 1 dL_law_346 rfl rfl ?_
    refine Z.pub (d' := 40) (β := 0) (γ := 0) (mi' := mX8_expectedLead) hp [] dL_law_347 lL_259 eX8_expectedLead rfl (by omega) (c_X8_expectedLead hl (by decide) p0.m p0.so) (fun _ _ h => h) (fun v h => absurd h List.not_mem_nil) (fun w s' h => (p0.cfr h.2).2) (Nat.le_of_ble_eq_true rfl) ?_
    rintro w s' ⟨rfl, hF⟩
    obtain ⟨p9, hh⟩ := p0.cfr hF
    replace p0 := p9
    replace hx := hx.hi hp hh
    replace hR := hR.hi hh
    rw [hnw]
    refine J.iload dL_law_350 rfl ?_
    refine J.iload dL_law_352 rfl ?_
    refine I.add dL_law_354 ?_
    refine I.icmp_ne 382 dL_law_355 (by decide) (by omega) (by omega) (fun h355 => ?_) (fun h355 => ?_)
    · exact absurd h355 (by omega)
    · skip
      refine J.aload_n 1 dL_law_358 rfl rfl ?_
      refine Z.pub (d' := 40) (β := 0) (γ := 0) (mi' := mX8_differenceAgainstGreedy) hp [] dL_law_359 lL_247 eX8_differenceAgainstGreedy rfl (by omega) (c_X8_differenceAgainstGreedy hl (by decide) p0.m p0.so) (fun _ _ h => h) (fun v h => absurd h List.not_mem_nil) (fun w s' h => (p0.cfr h.2).2) (Nat.le_of_ble_eq_true rfl) ?_
      rintro w s' ⟨rfl, hF⟩
      obtain ⟨p9, hh⟩ := p0.cfr hF
      replace p0 := p9
      replace hx := hx.hi hp hh
      replace hR := hR.hi hh
      rw [eD]
      replace hbr := hR.br hl' hv'
      refine J.aload dL_law_362 rfl ?_
      refine J.aload dL_law_364 rfl ?_
      refine J.iload_n 2 dL_law_366 rfl rfl ?_
      refine Y.callS (d' := 46) (mi' := mL_against) [.ref sc, .ref en, .int (iI b)] dL_law_367 lL_206 eL_against rfl (by show 46 + 1 ≤ dd; omega) ((c_bhag hl 21).2 46 (by decide) (And.intro hl' hv').1 (And.intro hl' hv').2 (gBurns_rng (And.intro hl' hv').1 (And.intro hl' hv').2).2 hbr (by omega)) (Nat.le_of_ble_eq_true rfl) ?_
      refine I.icmp_ne 382 dL_law_370 (by decide) (by omega) (by omega) (fun h370 => ?_) (fun h370 => ?_)
      · exact absurd h370 (by omega)
      · skip
        refine J.aload_n 1 dL_law_373 rfl rfl ?_
        refine Z.pub (d' := 40) (β := 0) (γ := 0) (mi' := mX8_differenceAgainstGreedy) hp [] dL_law_374 lL_247 eX8_differenceAgainstGreedy rfl (by omega) (c_X8_differenceAgainstGreedy hl (by decide) p0.m p0.so) (fun _ _ h => h) (fun v h => absurd h List.not_mem_nil) (fun w s' h => (p0.cfr h.2).2) (Nat.le_of_ble_eq_true rfl) ?_
        rintro w s' ⟨rfl, hF⟩
        obtain ⟨p9, hh⟩ := p0.cfr hF
        replace p0 := p9
        replace hx := hx.hi hp hh
        replace hR := hR.hi hh
        rw [eD]
        refine J.iload dL_law_377 rfl ?_
        refine I.icmp_ge 384 dL_law_379 (by decide) (by omega) (by omega) (fun h379 => ?_) (fun h379 => ?_)
        · skip
          refine J.aload_n 1 dL_law_384 rfl rfl ?_
          refine Z.pub (d' := 40) (β := 0) (γ := 0) (mi' := mX8_moveCount) hp [] dL_law_385 lL_153 eX8_moveCount rfl (by omega) (RI.rq (c_X8_moveCount hl (by decide) p0.m)) (fun _ _ h => h) (fun v h => absurd h List.not_mem_nil) (fun w s' h => by rw [h.2]; exact HiE.refl) (Nat.le_of_ble_eq_true rfl) ?_
          rintro w s' ⟨rfl, ee⟩
          have ee := ee.symm
          subst ee
          refine J.istore dL_law_388 (by decide) rfl ?_
          refine I.iconst dL_law_390 ?_
          refine J.istore dL_law_391 (by decide) rfl ?_
          refine I.iconst dL_law_393 ?_
          refine J.istore dL_law_394 (by decide) rfl ?_
          refine J.ldcw (iI (100000)) dL_law_396 qL_262 ?_
          refine J.istore dL_law_399 (by decide) rfl ?_
          refine I.iconst dL_law_401 ?_
          refine J.istore dL_law_402 (by decide) rfl ?_
          refine I.iconst dL_law_404 ?_
          refine J.istore dL_law_405 (by decide) rfl ?_
          refine I.iconst dL_law_407 ?_
          refine J.istore dL_law_408 (by decide) rfl ?_
          refine I.iconst dL_law_410 ?_
          refine J.istore dL_law_411 (by decide) rfl ?_
          refine J.slack (b' := (dd, B + 74 + 8 * n, C + 444 + 48 * n)) rfl ⟨by show B + 74 + 8 * n ≤ B + 106; omega, by show C + 444 + 48 * n ≤ C + 616; omega⟩ ?_
          refine J.fgt (by exact ⟨Or.inr rfl, Or.inr rfl, Or.inr rfl, Or.inr rfl, Or.inr rfl, Or.inr rfl, Or.inr rfl, Or.inr rfl, Or.inl rfl, Or.inr rfl, Or.inr rfl, Or.inr rfl, Or.inr rfl, Or.inr rfl, Or.inr rfl, Or.inr rfl, Or.inr rfl, Or.inl rfl, Or.inl rfl, Or.inl rfl, Or.inl rfl, Or.inl rfl, Or.inl rfl, Or.inl rfl, Or.inl rfl, trivial⟩) (k_mv (B := B + 74) (C := C + 444) hl hd p1 ho hp (fun s i ct wo mn fo hAC hEN hx p0 hR => ?_) n (c := 0) (by omega) AC.zero (by rw [hnf]; exact EN.zero ho) hx p0 hR)
          refine k_passes (B := B + 69) (C := C + 414) hl hd p1 ho hp hx p0 hR hb hb4 hAC hEN (fun s hx p0 hR => ?_)
          refine k_gre (B := B + 66) (C := C + 396) hl hd p1 ho hp hx p0 hR (fun s hx p0 hR => ?_)
          refine k_lines (B := B + 6) (C := C + 36) hl hd p1 ho hp hx p0 hR (fun s hx p0 hR => ?_)
          exact k_play hl hsx hLs htn hd p1 ho hp hx p0 hR kx
        · exact absurd h379 (by omega)
theorem k_206 {Γ : jE} (hl : Γ.1.stackTraces = false) {dd B C : Nat} {b tn : Int} {n sc en : Nat} {a : AS} {P : Option Value → jM → Prop} {Ls : Nat} {xs : Nat → Int32} (hsx : Γ.2.2 = some (Ls, xs)) (hLs : Ls ≤ 3072) (htn : 0 ≤ tn ∧ tn < 5) (hb : 0 ≤ b ∧ b ≤ 1) (hd : 60 ≤ dd) (hP : ∀ M, P (some (.int (iI 1))) M) (p1 : AI a) {sh : List (Nat × Nat)} {t : Nat → Nat → Option Nat} {s : Nat → Int → Int} (hp : PF sh t) (hx : XB sh t s) (p0 : CI s a) (hR : LR sh t s sc en n (aF a)) (hb4 : ¬ gOver (aF a) → (b = 1 ↔ (aF a) 4 = 1)) (kx : ∀ s' a' b', CI s' a' → AI a' → 0 ≤ b' ∧ b' ≤ 1 → (¬ gOver (aF a') → (b' = 1 ↔ aF a' 4 = 1)) → XB sh t s' → J Γ (dd, B, C) mLw 52 [some (.ref 2000000), some (.ref 0), some (.int (iI b')), some (.int (iI (tn + 1))), none, none, none, none, none, none, none, none, none, none, none, none, none, none, none, none, none, none, none, none, none] [] (jmx sh t s') P X0) :
    J Γ (dd, B + 110, C + 640) mLw 206 [some (.ref 2000000), some (.ref 0), some (.int (iI b)), some (.int (iI tn)), some (.int (iI (n : Int))), some (.ref sc), some (.ref en), none, none, none, none, none, none, none, none, none, none, none, none, none, none, none, none, none, none] [] (jmx sh t s) P X0 := by
  refine J.aload_n 1 dL_law_206 rfl rfl ?_
  refine Z.pub (d' := 40) (β := 0) (γ := 0) (mi' := mX8_isRoundOver) hp [] dL_law_207 lL_141 eX8_isRoundOver rfl (by omega) (RI.rq (c_X8_isRoundOver hl (by decide) p0.m)) (fun _ _ h => h) (fun v h => absurd h List.not_mem_nil) (fun w s' h => by rw [h.2]; exact HiE.refl) (Nat.le_of_ble_eq_true rfl) ?_
  rintro w s' ⟨rfl, ee⟩
  have ee := ee.symm
  subst ee
  refine I.if_eqB 298 dL_law_210 (by decide) (fun h210 => ?_) (fun h210 => ?_)
  · skip
    exact k_main hl hsx hLs htn hb hd p1 h210 hp hx p0 hR (hb4 h210) kx
  · skip
    exact J.slack rfl ⟨by show 0 + 40 ≤ B + 110; omega, by show 0 + 400 ≤ C + 640; omega⟩ (k_over hl hd hP p1 hp p0 h210)
set_option maxHeartbeats 4000000 in
theorem k_turns {Γ : jE} (hl : Γ.1.stackTraces = false) {dd N : Nat} {P : Option Value → jM → Prop} {Ls : Nat} {xs : Nat → Int32} (hsx : Γ.2.2 = some (Ls, xs)) (hLs : Ls ≤ 3072) (hd : 60 ≤ dd) (hN : N ≤ 800000) (hP : ∀ M, P (some (.int (iI 1))) M) :
    ∀ (k : Nat) {tn b : Int} {a : AS} {sh : List (Nat × Nat)} {t : Nat → Nat → Option Nat} {s : Nat → Int → Int}, (k : Int) = 5 - tn → 0 ≤ tn → AI a → 0 ≤ b ∧ b ≤ 1 → (¬ gOver (aF a) → (b = 1 ↔ (aF a) 4 = 1)) → PF sh t → XB sh t s → CI s a → sh.length + 10 * k ≤ N →
      J Γ (dd, 20 + 172 * k, 200 + 1015 * k) mLw 52 [some (.ref 2000000), some (.ref 0), some (.int (iI b)), some (.int (iI tn)), none, none, none, none, none, none, none, none, none, none, none, none, none, none, none, none, none, none, none, none, none] [] (jmx sh t s) P X0 := by
  intro k
  induction k with
  | zero =>
    intro tn b a sh t s hk htn p1 hb hb4 hp hx p0 hlen
    refine J.iload_n 3 dL_law_52 rfl rfl ?_
    refine I.iconst dL_law_53 ?_
    refine I.icmp_ge 1046 dL_law_54 (by decide) (by omega) (by omega) (fun h54 => ?_) (fun h54 => ?_)
    · skip
      exact J.slack rfl ⟨by show 0 + 20 ≤ 20 + 172 * 0; omega, by show 0 + 200 ≤ 200 + 1015 * 0; omega⟩ (J.fgt (by exact ⟨Or.inr rfl, Or.inr rfl, Or.inl rfl, Or.inl rfl, Or.inl rfl, Or.inl rfl, Or.inl rfl, Or.inl rfl, Or.inl rfl, Or.inl rfl, Or.inl rfl, Or.inl rfl, Or.inl rfl, Or.inl rfl, Or.inl rfl, Or.inl rfl, Or.inl rfl, Or.inl rfl, Or.inl rfl, Or.inl rfl, Or.inl rfl, Or.inl rfl, Or.inl rfl, Or.inl rfl, Or.inl rfl, trivial⟩) (k_final hl hd hP p1 hp p0))
    · exact absurd h54 (by omega)
  | succ k ih =>
    intro tn b a sh t s hk htn p1 hb hb4 hp hx p0 hlen
    have hl' := p1.1.1
    have hv' := p1.1.2
    have hc := hl'.ch _ hv'.cur.1 hv'.cur.2
    obtain ⟨n, hn⟩ := Int.eq_ofNat_of_zero_le (show 0 ≤ (aF a) (18 + (aF a) 1) by omega)
    rw [show 20 + 172 * (k + 1) = 20 + 172 * k + 172 by omega, show 200 + 1015 * (k + 1) = 200 + 1015 * k + 1015 by omega]
    refine J.iload_n 3 dL_law_52 rfl rfl ?_
    refine I.iconst dL_law_53 ?_
    refine I.icmp_ge 1046 dL_law_54 (by decide) (by omega) (by omega) (fun h54 => ?_) (fun h54 => ?_)
    · exact absurd h54 (by omega)
    · skip
      refine J.aload_n 1 dL_law_57 rfl rfl ?_
      refine Z.pub (d' := 40) (β := 0) (γ := 0) (mi' := mX8_chainCount) hp [] dL_law_58 lL_156 eX8_chainCount rfl (by omega) (RI.rq (c_X8_chainCount hl (by decide) p0.m)) (fun _ _ h => h) (fun v h => absurd h List.not_mem_nil) (fun w s' h => by rw [h.2]; exact HiE.refl) (Nat.le_of_ble_eq_true rfl) ?_
      rintro w s' ⟨rfl, ee⟩
      have ee := ee.symm
      subst ee
      rw [hn]
      refine J.istore dL_law_61 (by decide) rfl ?_
      refine J.iload dL_law_63 rfl ?_
      refine Z.newR (B := 20 + 172 * k + 171) (C := 200 + 1015 * k + 1012) n 3 ⟨by omega, by decide⟩ dL_law_65 kL_221 rfl hx ?_
      have hx1 : XB (sh ++ [(106, n)]) t s := hx.app (by omega)
      have l1 : (sh ++ [((106, n) : Nat × Nat)]).length = sh.length + 1 := by rw [List.length_append]; rfl
      refine J.astore dL_law_68 (by decide) rfl ?_
      refine I.iconst dL_law_70 ?_
      refine J.iload dL_law_71 rfl ?_
      refine I.mul dL_law_73 ?_
      refine Z.newI (B := 20 + 172 * k + 170) (C := 200 + 1015 * k + 1006) (2 * n) 6 ⟨by omega, by decide⟩ dL_law_74 (by omega) hx1 ?_
      have hx2 : XB (sh ++ [(106, n)] ++ [(100, 2 * n)]) t s := hx1.app (by rw [l1]; omega)
      have l2 : (sh ++ [((106, n) : Nat × Nat)] ++ [((100, 2 * n) : Nat × Nat)]).length = sh.length + 2 := by rw [List.length_append, l1]; rfl
      rw [l1]
      refine J.astore dL_law_76 (by decide) rfl ?_
      refine I.iconst dL_law_78 ?_
      refine J.istore dL_law_79 (by decide) rfl ?_
      refine J.slack (b' := (dd, 20 + 172 * k + 110 + 20 * n, 200 + 1015 * k + 640 + 122 * n)) rfl ⟨by show 20 + 172 * k + 110 + 20 * n ≤ 20 + 172 * k + 170; omega, by show 200 + 1015 * k + 640 + 122 * n ≤ 200 + 1015 * k + 1006; omega⟩ ?_
      have hp7 := hp.1
      refine J.fgt (by exact ⟨Or.inr rfl, Or.inr rfl, Or.inr rfl, Or.inr rfl, Or.inr rfl, Or.inr rfl, Or.inr rfl, Or.inr rfl, Or.inl rfl, Or.inl rfl, Or.inl rfl, Or.inl rfl, Or.inl rfl, Or.inl rfl, Or.inl rfl, Or.inl rfl, Or.inl rfl, Or.inl rfl, Or.inl rfl, Or.inl rfl, Or.inl rfl, Or.inl rfl, Or.inl rfl, Or.inl rfl, Or.inl rfl, trivial⟩) (k_chainsL (B := 20 + 172 * k + 110) (C := 200 + 1015 * k + 640) (N := N - 10 * k) hl (by omega) hd rfl hl' hv' hn.symm (sc := sh.length) (en := sh.length + 1) (by omega) (by omega) (fun sh t s hp hx p0 hlen hR => ?_) n (c := 0) (by omega) hp.app.app hx2 p0 (by rw [l2]; omega) (get_app get_end) (by have := get_end (l := sh ++ [((106, n) : Nat × Nat)]) (x := (100, 2 * n)); rwa [l1] at this) (fun x hx => absurd hx (Nat.not_lt_zero x)) (fun i _ => (hx.2 (sh.length + 1) (by omega)).2 i))
      exact k_206 (B := 20 + 172 * k) (C := 200 + 1015 * k) hl hsx hLs (by omega) hb hd hP p1 hp hx p0 hR hb4 (fun s' a' b' q0 q1 qb q4 qx => ih (by omega) (by omega) q1 qb q4 hp qx q0 (by omega))
