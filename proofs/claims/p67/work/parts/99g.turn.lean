/-! the law's turn, from its end to its beginning -/
section Z9g
variable {Γ : jE} {mi : jMI} {pc : Nat} {L : List (Option Value)} {S : List Value} {P : Option Value → jM → Prop} {X : String → jM → Prop} {dd B C d' β γ : Nat}
theorem Z.stat {sh : List (Nat × Nat)} {t : Nat → Nat → Option Nat} {s : Nat → Int → Int} (hp : PF sh t) {idx : Nat} {mi' : jMI} (As : List Value) {Q : Int → (Nat → Int → Int) → Prop} (d : decode mi.2.1 pc = .ok (.invokestatic idx, 3)) (hl : Cond.methodLink mi.1.cls idx mi'.1 ∈ jG) (hs : jSE mi' (As.length + 1)) (hsame : mi'.1.cls = mi.1.cls) (hb : d' + 1 ≤ dd)
    (hc : Con Γ (d', β, γ) mi' (.ref 0 :: As) (jmem s e0) (RQ Q e0) X0) (hAs : ∀ v ∈ As, ∃ x, v = .int x) (hH : ∀ w s', Q w s' → HiE s s') (hcat : (S.map fun v => v.category).sum ≤ 8)
    (k : ∀ w s', Q w s' → J Γ (dd, B, C) mi (pc + 3) L (.int (iI w) :: S) (jmx sh t s') P X) : J Γ (dd, B + β, C + γ) mi pc L ((.ref 0 :: As).reverse ++ S) (jmx sh t s) P X := by
  refine J.callS (.ref 0 :: As) d hl hs hsame ⟨hb, by show β ≤ B + β; omega, by show γ ≤ C + γ; omega⟩ (Con.frame hp (ok137 hAs) (fun v M' h => RQ.ok h) (fun E M' h => absurd h id) hc) (fun E M' h => by obtain ⟨s', h, -⟩ := h; exact absurd h id) hcat ?_
  intro v M' h
  obtain ⟨w, s', rfl, rfl, hq⟩ := FQ.rq h hH
  show J Γ (dd, B + β - β, C + γ - γ) _ _ _ _ _ _ _
  rw [Nat.add_sub_cancel, Nat.add_sub_cancel]; exact k w s' hq
end Z9g
set_option maxHeartbeats 4000000 in
theorem k_play {Γ : jE} (hl : Γ.1.stackTraces = false) {dd B C : Nat} {b tn : Int} {n sc en : Nat} {a : AS} {P : Option Value → jM → Prop} {Ls : Nat} {xs : Nat → Int32} (hsx : Γ.2.2 = some (Ls, xs)) (hLs : Ls ≤ 3072) (htn : 0 ≤ tn ∧ tn < 5) (hd : 60 ≤ dd) (p1 : AI a) (ho : ¬ gOver (aF a)) {sh : List (Nat × Nat)} {t : Nat → Nat → Option Nat} {s : Nat → Int → Int} (hp : PF sh t) (hx : XB sh t s) (p0 : CI s a) (hR : LR sh t s sc en n (aF a))
    (kx : ∀ s' a' b', CI s' a' → AI a' → 0 ≤ b' ∧ b' ≤ 1 → (¬ gOver (aF a') → (b' = 1 ↔ aF a' 4 = 1)) → XB sh t s' → J Γ (dd, B, C) mLw 52 [some (.ref 2000000), some (.ref 0), some (.int (iI b')), some (.int (iI (tn + 1))), none, none, none, none, none, none, none, none, none, none, none, none, none, none, none, none, none, none, none, none, none] [] (jmx sh t s') P X0) :
    J Γ (dd, B + 6, C + 36) mLw 997 [some (.ref 2000000), some (.ref 0), some (.int (iI b)), some (.int (iI tn)), some (.int (iI (n : Int))), some (.ref sc), some (.ref en), none, none, some (.int (iI (gMoves (aF a)))), none, none, none, none, none, none, none, none, none, none, none, none, none, none, none] [] (jmx sh t s) P X0 := by
  have hl' := p1.1.1
  have hv' := p1.1.2
  have hc := hl'.ch _ hv'.cur.1 hv'.cur.2
  have hmr := gMoves_rng hc
  have hmp := gMoves_pos hc ho
  have hW := gWf_rng hl' hv'
  have hnw := gNow_n ho
  have hnf := hR.2.2.2.2.1
  have hsc := hR.2.2.1
  have hen := hR.2.2.2.1
  have hbr := hR.br hl' hv'
  have r4 := hv'.2.2.2.1
  have f42 : (aF a) 4 ≠ 2 := fun h => ho (Or.inl h)
  refine J.aload_n 0 dL_law_997 rfl rfl ?_
  refine I.bipush dL_law_998 (by decide) ?_
  refine J.iload_n 3 dL_law_1000 rfl rfl ?_
  refine I.add dL_law_1001 ?_
  refine Z.cell (j := 8 + tn) hl rfl hsx hLs (by omega) dL_law_1002 lL_116 (by show 1 ≤ dd; omega) (Nat.le_of_ble_eq_true rfl) fun x1002 => ?_
  refine J.iload dL_law_1005 rfl ?_
  refine Z.part (n := (gMoves (aF a))) hl rfl dL_law_1007 lL_120 (by omega) (by show 1 ≤ dd; omega) (Nat.le_of_ble_eq_true rfl) fun z1007 hz1007 => ?_
  have lg := gMvAt_legal (f := (aF a)) hc hz1007.1
  refine J.istore dL_law_1010 (by decide) rfl ?_
  by_cases hz6 : gMvAt (aF a) z1007 = 6
  · skip
    refine J.aload_n 1 dL_law_1012 rfl rfl ?_
    refine J.iload dL_law_1013 rfl ?_
    refine I.iconst dL_law_1015 ?_
    refine Z.wrap (d' := 40) (β := 1) (γ := 6) (mi' := mL_move) hp [.int (iI z1007), .int (iI 2)] dL_law_1016 lL_101 eL_move (by omega) (w_move2 hl p0.m (by decide) (by omega)) (fun v h => by simp only [List.mem_cons, List.not_mem_nil, or_false] at h; rcases h with rfl | rfl <;> exact ⟨_, rfl⟩) (fun w s' h => by rcases h with ⟨_, _, h⟩ | ⟨_, _, h⟩ <;> first | exact (p0.cfr h).2 | (rw [h]; exact HiE.refl)) (Nat.le_of_ble_eq_true rfl) ?_
    rintro w s' (⟨-, rfl, ee⟩ | ⟨h, -⟩)
    rotate_left
    · exact absurd hz1007 h
    have ee := ee.symm
    subst ee
    rw [bI_t hz6]
    refine I.iconst dL_law_1019 ?_
    refine I.icmp_ne 1027 dL_law_1020 (by decide) (by omega) (by omega) (fun h1020 => ?_) (fun h1020 => ?_)
    · exact absurd h1020 (by omega)
    · skip
      refine I.iconst dL_law_1023 ?_
      refine J.goto 1028 dL_law_1024 (by decide) ?_
      refine J.istore_n 2 dL_law_1028 rfl (by decide) rfl ?_
      refine J.aload_n 1 dL_law_1029 rfl rfl ?_
      refine J.iload dL_law_1030 rfl ?_
      refine Z.stat (d' := 40) (β := 5) (γ := 30) (mi' := mL_makes) hp [.int (iI z1007)] dL_law_1032 lL_269 eL_makes rfl (by omega) (w_makes hl p0 p1 (by decide) hz1007 ho) (fun v h => by simp only [List.mem_cons, List.not_mem_nil, or_false] at h; rcases h with rfl; exact ⟨_, rfl⟩) (fun w s' h => h.2.2) (Nat.le_of_ble_eq_true rfl) ?_
      rintro w s' hq
      refine I.if_ge 1040 dL_law_1035 (by decide) (by omega) (fun h1035 => ?_) (fun h1035 => ?_)
      · skip
        refine I.iinc dL_law_1040 rfl rfl ?_
        refine J.goto 52 dL_law_1043 (by decide) ?_
        refine J.fgt (by exact ⟨Or.inr rfl, Or.inr rfl, Or.inr rfl, Or.inr rfl, Or.inl rfl, Or.inl rfl, Or.inl rfl, Or.inl rfl, Or.inl rfl, Or.inl rfl, Or.inl rfl, Or.inl rfl, Or.inl rfl, Or.inl rfl, Or.inl rfl, Or.inl rfl, Or.inl rfl, Or.inl rfl, Or.inl rfl, Or.inl rfl, Or.inl rfl, Or.inl rfl, Or.inl rfl, Or.inl rfl, Or.inl rfl, trivial⟩) (kx s' _ 1 hq.2.1 (p1.play lg ho) (by decide) ?_ (hx.hi hp hq.2.2))
        intro ho2
        have e4 : gPlay (aF a) (gMvAt (aF a) z1007) 4 = if gMvAt (aF a) z1007 = 6 then (aF a) 4 + 1 else 0 := gPlay_4
        have h2 : gPlay (aF a) (gMvAt (aF a) z1007) 4 ≠ 2 := fun h => ho2 (Or.inl h)
        show _ ↔ gPlay (aF a) (gMvAt (aF a) z1007) 4 = 1
        rw [if_pos hz6] at e4
        exact ⟨fun _ => by omega, fun _ => rfl⟩
      · exact absurd h1035 (by omega)
  · skip
    refine J.aload_n 1 dL_law_1012 rfl rfl ?_
    refine J.iload dL_law_1013 rfl ?_
    refine I.iconst dL_law_1015 ?_
    refine Z.wrap (d' := 40) (β := 1) (γ := 6) (mi' := mL_move) hp [.int (iI z1007), .int (iI 2)] dL_law_1016 lL_101 eL_move (by omega) (w_move2 hl p0.m (by decide) (by omega)) (fun v h => by simp only [List.mem_cons, List.not_mem_nil, or_false] at h; rcases h with rfl | rfl <;> exact ⟨_, rfl⟩) (fun w s' h => by rcases h with ⟨_, _, h⟩ | ⟨_, _, h⟩ <;> first | exact (p0.cfr h).2 | (rw [h]; exact HiE.refl)) (Nat.le_of_ble_eq_true rfl) ?_
    rintro w s' (⟨-, rfl, ee⟩ | ⟨h, -⟩)
    rotate_left
    · exact absurd hz1007 h
    have ee := ee.symm
    subst ee
    rw [bI_f hz6]
    refine I.iconst dL_law_1019 ?_
    refine I.icmp_ne 1027 dL_law_1020 (by decide) (by omega) (by omega) (fun h1020 => ?_) (fun h1020 => ?_)
    · skip
      refine I.iconst dL_law_1027 ?_
      refine J.istore_n 2 dL_law_1028 rfl (by decide) rfl ?_
      refine J.aload_n 1 dL_law_1029 rfl rfl ?_
      refine J.iload dL_law_1030 rfl ?_
      refine Z.stat (d' := 40) (β := 5) (γ := 30) (mi' := mL_makes) hp [.int (iI z1007)] dL_law_1032 lL_269 eL_makes rfl (by omega) (w_makes hl p0 p1 (by decide) hz1007 ho) (fun v h => by simp only [List.mem_cons, List.not_mem_nil, or_false] at h; rcases h with rfl; exact ⟨_, rfl⟩) (fun w s' h => h.2.2) (Nat.le_of_ble_eq_true rfl) ?_
      rintro w s' hq
      refine I.if_ge 1040 dL_law_1035 (by decide) (by omega) (fun h1035 => ?_) (fun h1035 => ?_)
      · skip
        refine I.iinc dL_law_1040 rfl rfl ?_
        refine J.goto 52 dL_law_1043 (by decide) ?_
        refine J.fgt (by exact ⟨Or.inr rfl, Or.inr rfl, Or.inr rfl, Or.inr rfl, Or.inl rfl, Or.inl rfl, Or.inl rfl, Or.inl rfl, Or.inl rfl, Or.inl rfl, Or.inl rfl, Or.inl rfl, Or.inl rfl, Or.inl rfl, Or.inl rfl, Or.inl rfl, Or.inl rfl, Or.inl rfl, Or.inl rfl, Or.inl rfl, Or.inl rfl, Or.inl rfl, Or.inl rfl, Or.inl rfl, Or.inl rfl, trivial⟩) (kx s' _ 0 hq.2.1 (p1.play lg ho) (by decide) ?_ (hx.hi hp hq.2.2))
        intro ho2
        have e4 : gPlay (aF a) (gMvAt (aF a) z1007) 4 = if gMvAt (aF a) z1007 = 6 then (aF a) 4 + 1 else 0 := gPlay_4
        have h2 : gPlay (aF a) (gMvAt (aF a) z1007) 4 ≠ 2 := fun h => ho2 (Or.inl h)
        show _ ↔ gPlay (aF a) (gMvAt (aF a) z1007) 4 = 1
        rw [if_neg hz6] at e4
        exact ⟨fun h => absurd h (by decide), fun h => by omega⟩
      · exact absurd h1035 (by omega)
    · exact absurd h1020 (by omega)
set_option maxHeartbeats 4000000 in
theorem k_line {Γ : jE} (hl : Γ.1.stackTraces = false) {dd B C : Nat} {b tn : Int} {n sc en : Nat} {a : AS} {P : Option Value → jM → Prop} (hd : 60 ≤ dd) (p1 : AI a) (ho : ¬ gOver (aF a)) {sh : List (Nat × Nat)} {t : Nat → Nat → Option Nat} (hp : PF sh t)
    (kx : ∀ s A, XB sh t s → CI s a → LR sh t s sc en n (aF a) → A = gNow (aF a) → J Γ (dd, B, C) mLw 952 [some (.ref 2000000), some (.ref 0), some (.int (iI b)), some (.int (iI tn)), some (.int (iI (n : Int))), some (.ref sc), some (.ref en), some (.int (iI (gWf (aF a)))), none, some (.int (iI (gMoves (aF a)))), none, none, none, some (.int (iI (gFo (aF a)))), none, none, none, none, none, none, none, some (.int (iI A)), none, some (.int (iI (gCnt 48 (aF a)))), none] [] (jmx sh t s) P X0) :
    ∀ (k : Nat) {i : Nat} {A sg : Int} {s : Nat → Int → Int}, (k : Int) = gCnt 48 (aF a) - i → (sg = 1 ∨ sg = -1) → A + sg * gNow (gRun i (aF a)) = gNow (aF a) → XB sh t s → CI s a → LR sh t s sc en n (aF a) →
      J Γ (dd, B + k, C + 6 * k) mLw 920 [some (.ref 2000000), some (.ref 0), some (.int (iI b)), some (.int (iI tn)), some (.int (iI (n : Int))), some (.ref sc), some (.ref en), some (.int (iI (gWf (aF a)))), none, some (.int (iI (gMoves (aF a)))), none, none, none, some (.int (iI (gFo (aF a)))), none, none, none, none, none, none, none, some (.int (iI A)), some (.int (iI sg)), some (.int (iI (gCnt 48 (aF a)))), some (.int (iI (i : Int)))] [] (jmx sh t s) P X0 := by
  have hl' := p1.1.1
  have hv' := p1.1.2
  have hK := gRun_48 hl' hv'
  have hKr := @gCnt_rng 48 (aF a)
  intro k
  induction k with
  | zero =>
    intro i A sg s hk hsg hA hx p0 hR
    have hov : gOver (gRun i (aF a)) := Classical.byContradiction fun h => by
      have := gRun_step i h
      have h2 := gCnt_full i h
      have h3 : gLok (aF a) (i : Int) := ⟨by omega, by rw [Int.toNat_natCast]; exact h2, by rw [Int.toNat_natCast]; exact h⟩
      have := (gLok_iff hl' hv' (i : Int)).mp h3
      omega
    refine J.iload dL_law_920 rfl ?_
    refine J.iload dL_law_922 rfl ?_
    refine I.icmp_ge 952 dL_law_924 (by decide) (by omega) (by omega) (fun h924 => ?_) (fun h924 => ?_)
    · skip
      exact J.slack rfl ⟨by show B ≤ B + 0; omega, by show C ≤ C + 6 * 0; omega⟩ (J.fgt (by exact ⟨Or.inr rfl, Or.inr rfl, Or.inr rfl, Or.inr rfl, Or.inr rfl, Or.inr rfl, Or.inr rfl, Or.inr rfl, Or.inl rfl, Or.inr rfl, Or.inl rfl, Or.inl rfl, Or.inl rfl, Or.inr rfl, Or.inl rfl, Or.inl rfl, Or.inl rfl, Or.inl rfl, Or.inl rfl, Or.inl rfl, Or.inl rfl, Or.inr rfl, Or.inl rfl, Or.inr rfl, Or.inl rfl, trivial⟩) (kx s A hx p0 hR (by rw [gNow_o hov, Int.mul_zero, Int.add_zero] at hA; exact hA)))
    · exact absurd h924 (by omega)
  | succ k ih =>
    intro i A sg s hk hsg hA hx p0 hR
    have hlk : gLok (aF a) (i : Int) := (gLok_iff hl' hv' (i : Int)).mpr ⟨by omega, by omega⟩
    have hst := line_step hl' hv' (i := i) (by have := hlk.2.2; rwa [Int.toNat_natCast] at this)
    rw [show B + (k + 1) = B + k + 1 by omega, show C + 6 * (k + 1) = C + 6 * k + 6 by omega]
    refine J.iload dL_law_920 rfl ?_
    refine J.iload dL_law_922 rfl ?_
    refine I.icmp_ge 952 dL_law_924 (by decide) (by omega) (by omega) (fun h924 => ?_) (fun h924 => ?_)
    · exact absurd h924 (by omega)
    · skip
      refine J.iload dL_law_927 rfl ?_
      refine J.iload dL_law_929 rfl ?_
      refine J.aload_n 1 dL_law_931 rfl rfl ?_
      refine J.iload dL_law_932 rfl ?_
      refine Z.wrap (d' := 40) (β := 1) (γ := 6) (mi' := mL_line) hp [.int (iI (i : Int))] dL_law_934 lL_266 eL_line (by omega) (w_line hl p0.m p0.so (by decide) (by omega)) (fun v h => by simp only [List.mem_cons, List.not_mem_nil, or_false] at h; rcases h with rfl; exact ⟨_, rfl⟩) (fun w s' h => by rcases h with ⟨_, _, h⟩ | ⟨_, _, h⟩ <;> first | exact (p0.cfr h).2 | (rw [h]; exact HiE.refl)) (Nat.le_of_ble_eq_true rfl) ?_
      rintro w s' (⟨-, rfl, hF⟩ | ⟨h, -⟩)
      rotate_left
      · exact absurd hlk h
      obtain ⟨p9, hh⟩ := p0.cfr hF
      replace p0 := p9
      replace hx := hx.hi hp hh
      replace hR := hR.hi hh
      rw [Int.toNat_natCast]
      refine I.mul dL_law_937 ?_
      refine I.add dL_law_938 ?_
      refine J.istore dL_law_939 (by decide) rfl ?_
      refine J.iload dL_law_941 rfl ?_
      refine I.neg dL_law_943 ?_
      refine J.istore dL_law_944 (by decide) rfl ?_
      refine I.iinc dL_law_946 rfl rfl ?_
      refine J.goto 920 dL_law_949 (by decide) ?_
      rw [show ((i : Int) + 1) = ((i + 1 : Nat) : Int) by omega]
      refine ih (i := i + 1) (by omega) (by omega) ?_ hx p0 hR
      rw [← hA, hst]
      rcases hsg with rfl | rfl <;> omega
set_option maxHeartbeats 4000000 in
theorem k_lines {Γ : jE} (hl : Γ.1.stackTraces = false) {dd B C : Nat} {b tn : Int} {n sc en : Nat} {a : AS} {P : Option Value → jM → Prop} (hd : 60 ≤ dd) (p1 : AI a) (ho : ¬ gOver (aF a)) {sh : List (Nat × Nat)} {t : Nat → Nat → Option Nat} {s : Nat → Int → Int} (hp : PF sh t) (hx : XB sh t s) (p0 : CI s a) (hR : LR sh t s sc en n (aF a)) (kx : ∀ s, XB sh t s → CI s a → LR sh t s sc en n (aF a) → J Γ (dd, B, C) mLw 997 [some (.ref 2000000), some (.ref 0), some (.int (iI b)), some (.int (iI tn)), some (.int (iI (n : Int))), some (.ref sc), some (.ref en), none, none, some (.int (iI (gMoves (aF a)))), none, none, none, none, none, none, none, none, none, none, none, none, none, none, none] [] (jmx sh t s) P X0) :
    J Γ (dd, B + 60, C + 360) mLw 905 [some (.ref 2000000), some (.ref 0), some (.int (iI b)), some (.int (iI tn)), some (.int (iI (n : Int))), some (.ref sc), some (.ref en), some (.int (iI (gWf (aF a)))), none, some (.int (iI (gMoves (aF a)))), none, none, none, some (.int (iI (gFo (aF a)))), none, none, none, none, none, none, none, none, none, none, none] [] (jmx sh t s) P X0 := by
  have hl' := p1.1.1
  have hv' := p1.1.2
  have hc := hl'.ch _ hv'.cur.1 hv'.cur.2
  have hmr := gMoves_rng hc
  have hmp := gMoves_pos hc ho
  have hW := gWf_rng hl' hv'
  have hnw := gNow_n ho
  have hnf := hR.2.2.2.2.1
  have hsc := hR.2.2.1
  have hen := hR.2.2.2.1
  have hbr := hR.br hl' hv'
  have r4 := hv'.2.2.2.1
  have f42 : (aF a) 4 ≠ 2 := fun h => ho (Or.inl h)
  have hfr := gFo_rng hc ho
  have hlk0 : gLok (aF a) 0 := (gLok_iff hl' hv' 0).mpr ⟨Int.le_refl 0, by
    rw [← (gRun_48 hl' hv').2, show (48 : Nat) = 47 + 1 from rfl, gCnt_n ho]
    have := @gCnt_rng 47 (gPlay (aF a) (gMvAt (aF a) (gFo (aF a))))
    omega⟩
  refine I.iconst dL_law_905 ?_
  refine J.istore dL_law_906 (by decide) rfl ?_
  refine I.iconst dL_law_908 ?_
  refine J.istore dL_law_909 (by decide) rfl ?_
  refine J.aload_n 1 dL_law_911 rfl rfl ?_
  refine Z.pub (d' := 40) (β := 0) (γ := 0) (mi' := mX8_optimalLineLength) hp [] dL_law_912 lL_238 eX8_optimalLineLength rfl (by omega) (c_X8_optimalLineLength hl (by decide) p0.m p0.so) (fun _ _ h => h) (fun v h => absurd h List.not_mem_nil) (fun w s' h => (p0.cfr h.2).2) (Nat.le_of_ble_eq_true rfl) ?_
  rintro w s' ⟨rfl, hF⟩
  obtain ⟨p9, hh⟩ := p0.cfr hF
  replace p0 := p9
  replace hx := hx.hi hp hh
  replace hR := hR.hi hh
  refine J.istore dL_law_915 (by decide) rfl ?_
  refine I.iconst dL_law_917 ?_
  refine J.istore dL_law_918 (by decide) rfl ?_
  have hKr := @gCnt_rng 48 (aF a)
  refine J.slack (b' := (dd, B + 4 + (gCnt 48 (aF a)).toNat, C + 24 + 6 * (gCnt 48 (aF a)).toNat)) rfl ⟨by show B + 4 + (gCnt 48 (aF a)).toNat ≤ B + 60; omega, by show C + 24 + 6 * (gCnt 48 (aF a)).toNat ≤ C + 360; omega⟩ ?_
  refine J.fgt (by exact ⟨Or.inr rfl, Or.inr rfl, Or.inr rfl, Or.inr rfl, Or.inr rfl, Or.inr rfl, Or.inr rfl, Or.inr rfl, Or.inl rfl, Or.inr rfl, Or.inl rfl, Or.inl rfl, Or.inl rfl, Or.inr rfl, Or.inl rfl, Or.inl rfl, Or.inl rfl, Or.inl rfl, Or.inl rfl, Or.inl rfl, Or.inl rfl, Or.inr rfl, Or.inr rfl, Or.inr rfl, Or.inr rfl, trivial⟩) (k_line (B := B + 4) (C := C + 24) hl hd p1 ho hp (fun s A hx p0 hR hA => ?_) (gCnt 48 (aF a)).toNat (i := 0) (A := 0) (sg := 1) (by omega) (Or.inl rfl) (by show 0 + 1 * gNow (aF a) = gNow (aF a); omega) hx p0 hR)
  refine J.iload dL_law_952 rfl ?_
  refine J.iload dL_law_954 rfl ?_
  refine I.icmp_ne 995 dL_law_956 (by decide) (by omega) (by omega) (fun h956 => ?_) (fun h956 => ?_)
  · exact absurd h956 (by omega)
  · skip
    refine J.aload_n 1 dL_law_959 rfl rfl ?_
    refine J.iload dL_law_960 rfl ?_
    refine Z.wrap (d' := 40) (β := 1) (γ := 6) (mi' := mL_line) hp [.int (iI (gCnt 48 (aF a)))] dL_law_962 lL_266 eL_line (by omega) (w_line hl p0.m p0.so (by decide) (by omega)) (fun v h => by simp only [List.mem_cons, List.not_mem_nil, or_false] at h; rcases h with rfl; exact ⟨_, rfl⟩) (fun w s' h => by rcases h with ⟨_, _, h⟩ | ⟨_, _, h⟩ <;> first | exact (p0.cfr h).2 | (rw [h]; exact HiE.refl)) (Nat.le_of_ble_eq_true rfl) ?_
    rintro w s' (⟨h, -, -⟩ | ⟨-, rfl, hF⟩)
    · exact absurd ((gLok_iff hl' hv' _).mp h) (by have := (gRun_48 hl' hv').2; omega)
    obtain ⟨p9, hh⟩ := p0.cfr hF
    replace p0 := p9
    replace hx := hx.hi hp hh
    replace hR := hR.hi hh
    refine I.bipush dL_law_965 (by decide) ?_
    refine I.icmp_ne 995 dL_law_967 (by decide) (by omega) (by omega) (fun h967 => ?_) (fun h967 => ?_)
    · exact absurd h967 (by omega)
    · skip
      refine J.aload_n 1 dL_law_970 rfl rfl ?_
      refine I.iconst dL_law_971 ?_
      refine Z.wrap (d' := 40) (β := 1) (γ := 6) (mi' := mL_line) hp [.int (iI (-1))] dL_law_972 lL_266 eL_line (by omega) (w_line hl p0.m p0.so (by decide) (by omega)) (fun v h => by simp only [List.mem_cons, List.not_mem_nil, or_false] at h; rcases h with rfl; exact ⟨_, rfl⟩) (fun w s' h => by rcases h with ⟨_, _, h⟩ | ⟨_, _, h⟩ <;> first | exact (p0.cfr h).2 | (rw [h]; exact HiE.refl)) (Nat.le_of_ble_eq_true rfl) ?_
      rintro w s' (⟨h, -, -⟩ | ⟨-, rfl, hF⟩)
      · exact absurd h.1 (by decide)
      obtain ⟨p9, hh⟩ := p0.cfr hF
      replace p0 := p9
      replace hx := hx.hi hp hh
      replace hR := hR.hi hh
      refine I.bipush dL_law_975 (by decide) ?_
      refine I.icmp_ne 995 dL_law_977 (by decide) (by omega) (by omega) (fun h977 => ?_) (fun h977 => ?_)
      · exact absurd h977 (by omega)
      · skip
        refine J.aload_n 1 dL_law_980 rfl rfl ?_
        refine I.iconst dL_law_981 ?_
        refine Z.wrap (d' := 40) (β := 1) (γ := 6) (mi' := mL_line) hp [.int (iI 0)] dL_law_982 lL_266 eL_line (by omega) (w_line hl p0.m p0.so (by decide) (by decide)) (fun v h => by simp only [List.mem_cons, List.not_mem_nil, or_false] at h; rcases h with rfl; exact ⟨_, rfl⟩) (fun w s' h => by rcases h with ⟨_, _, h⟩ | ⟨_, _, h⟩ <;> first | exact (p0.cfr h).2 | (rw [h]; exact HiE.refl)) (Nat.le_of_ble_eq_true rfl) ?_
        rintro w s' (⟨-, rfl, hF⟩ | ⟨h, -⟩)
        rotate_left
        · exact absurd hlk0 h
        obtain ⟨p9, hh⟩ := p0.cfr hF
        replace p0 := p9
        replace hx := hx.hi hp hh
        replace hR := hR.hi hh
        have eP : gPt (gRun (0 : Int).toNat (aF a)) (gMvAt (gRun (0 : Int).toNat (aF a)) (gFo (gRun (0 : Int).toNat (aF a)))) = gPt (aF a) (gMvAt (aF a) (gFo (aF a))) := rfl
        rw [eP]
        have hpt := gPt_rng hl' hv' (gFo_legal hl' hv' ho).ok
        refine J.aload_n 1 dL_law_985 rfl rfl ?_
        refine J.iload dL_law_986 rfl ?_
        refine I.iconst dL_law_988 ?_
        refine Z.wrap (d' := 40) (β := 1) (γ := 6) (mi' := mL_move) hp [.int (iI (gFo (aF a))), .int (iI 1)] dL_law_989 lL_101 eL_move (by omega) (w_move1 hl p0.m (by decide) (by omega)) (fun v h => by simp only [List.mem_cons, List.not_mem_nil, or_false] at h; rcases h with rfl | rfl <;> exact ⟨_, rfl⟩) (fun w s' h => by rcases h with ⟨_, _, h⟩ | ⟨_, _, h⟩ <;> first | exact (p0.cfr h).2 | (rw [h]; exact HiE.refl)) (Nat.le_of_ble_eq_true rfl) ?_
        rintro w s' (⟨-, rfl, ee⟩ | ⟨h, -⟩)
        rotate_left
        · exact absurd hfr h
        have ee := ee.symm
        subst ee
        refine I.icmp_eq 997 dL_law_992 (by decide) (by omega) (by omega) (fun h992 => ?_) (fun h992 => ?_)
        · skip
          exact J.fgt (by exact ⟨Or.inr rfl, Or.inr rfl, Or.inr rfl, Or.inr rfl, Or.inr rfl, Or.inr rfl, Or.inr rfl, Or.inl rfl, Or.inl rfl, Or.inr rfl, Or.inl rfl, Or.inl rfl, Or.inl rfl, Or.inl rfl, Or.inl rfl, Or.inl rfl, Or.inl rfl, Or.inl rfl, Or.inl rfl, Or.inl rfl, Or.inl rfl, Or.inl rfl, Or.inl rfl, Or.inl rfl, Or.inl rfl, trivial⟩) (kx _ hx p0 hR)
        · exact absurd h992 (by omega)
set_option maxHeartbeats 4000000 in
theorem k_gre {Γ : jE} (hl : Γ.1.stackTraces = false) {dd B C : Nat} {b tn : Int} {n sc en : Nat} {a : AS} {P : Option Value → jM → Prop} (hd : 60 ≤ dd) (p1 : AI a) (ho : ¬ gOver (aF a)) {sh : List (Nat × Nat)} {t : Nat → Nat → Option Nat} {s : Nat → Int → Int} (hp : PF sh t) (hx : XB sh t s) (p0 : CI s a) (hR : LR sh t s sc en n (aF a)) (kx : ∀ s, XB sh t s → CI s a → LR sh t s sc en n (aF a) → J Γ (dd, B, C) mLw 905 [some (.ref 2000000), some (.ref 0), some (.int (iI b)), some (.int (iI tn)), some (.int (iI (n : Int))), some (.ref sc), some (.ref en), some (.int (iI (gWf (aF a)))), none, some (.int (iI (gMoves (aF a)))), none, none, none, some (.int (iI (gFo (aF a)))), none, none, none, none, none, none, none, none, none, none, none] [] (jmx sh t s) P X0) :
    J Γ (dd, B + 3, C + 18) mLw 770 [some (.ref 2000000), some (.ref 0), some (.int (iI b)), some (.int (iI tn)), some (.int (iI (n : Int))), some (.ref sc), some (.ref en), some (.int (iI (gWf (aF a)))), none, some (.int (iI (gMoves (aF a)))), none, none, none, some (.int (iI (gFo (aF a)))), none, none, none, none, none, none, none, none, none, none, none] [] (jmx sh t s) P X0 := by
  have hl' := p1.1.1
  have hv' := p1.1.2
  have hc := hl'.ch _ hv'.cur.1 hv'.cur.2
  have hmr := gMoves_rng hc
  have hmp := gMoves_pos hc ho
  have hW := gWf_rng hl' hv'
  have hnw := gNow_n ho
  have hnf := hR.2.2.2.2.1
  have hsc := hR.2.2.1
  have hen := hR.2.2.2.1
  have hbr := hR.br hl' hv'
  have r4 := hv'.2.2.2.1
  have f42 : (aF a) 4 ≠ 2 := fun h => ho (Or.inl h)
  have hs : ¬ gShort (aF a) := fun h => ho (Or.inr h)
  have bz := gGr_bn hs
  obtain ⟨q1, q2, q3, q4⟩ := greedy_eq hl' hv' ho
  have hgi : 0 ≤ gGi (aF a) ∧ gGi (aF a) < gMoves (aF a) := by omega
  obtain ⟨⟨z0, z6, zn⟩, r, mm, e3, e4, e5, e6, e7, e8, e9⟩ := hbr.atz hl' hv' bz
  have hg : FL (gRem (aF a) (gGr (aF a))) ∧ FS (gRem (aF a) (gGr (aF a))) := ⟨gRem_FL hl' hv' bz, gRem_FS hl' hv' bz⟩
  have rP := gPt_rng hl' hv' bz.ok
  have rA := gAg_rng hg.1 hg.2 (b := 0)
  by_cases hpar : (gGr (aF a)) % 2 = 0
  · skip
    have hb2 : BR sh t (up s en (gGr (aF a)) (s en (gGr (aF a)) + 1)) sc en n (gRem (aF a) (gGr (aF a))) (fun c => (aF a) (34 + c)) := hbr.rem hl' hv' bz (by rw [if_pos hpar])
    refine J.aload dL_law_770 rfl ?_
    refine J.aload dL_law_772 rfl ?_
    refine Y.callS (d' := 40) (mi' := mL_greedyOf) [.ref sc, .ref en] dL_law_774 lL_203 eL_greedyOf rfl (by show 40 + 1 ≤ dd; omega) (c_greedyOf hl hl' hv' hbr) (Nat.le_of_ble_eq_true rfl) ?_
    refine J.istore dL_law_777 (by decide) rfl ?_
    refine J.aload dL_law_779 rfl ?_
    refine J.iload dL_law_781 rfl ?_
    refine I.iconst dL_law_783 ?_
    refine I.div dL_law_784 (by omega) (by omega) ?_
    refine Y.raald dL_law_785 hsc (by omega) (by omega) e3 ?_
    refine J.aload dL_law_786 rfl ?_
    refine J.iload dL_law_788 rfl ?_
    refine Y.iald dL_law_790 hen (by omega) (by omega) ?_
    refine Y.iald dL_law_791 e5 (by omega) (by omega) ?_
    refine I.sx e9 ?_
    refine J.istore dL_law_792 (by decide) rfl ?_
    refine J.aload dL_law_794 rfl ?_
    refine J.iload dL_law_796 rfl ?_
    refine J.dup2 dL_law_798 ?_
    refine Y.iald dL_law_799 hen (by omega) (by omega) ?_
    refine J.iload dL_law_800 rfl ?_
    refine I.iconst dL_law_802 ?_
    refine I.rem dL_law_803 (by omega) (by omega) ?_
    refine I.if_ne 811 dL_law_804 (by decide) (by omega) (fun h804 => ?_) (fun h804 => ?_)
    · exact absurd h804 (by omega)
    · skip
      refine I.iconst dL_law_807 ?_
      refine J.goto 812 dL_law_808 (by decide) ?_
      refine I.add dL_law_812 ?_
      refine Y.iast dL_law_813 hen (by omega) (by omega) ?_
      refine J.iload dL_law_814 rfl ?_
      refine J.aload dL_law_816 rfl ?_
      refine J.aload dL_law_818 rfl ?_
      refine I.iconst dL_law_820 ?_
      refine Y.callS (d' := 46) (mi' := mL_against) [.ref sc, .ref en, .int (iI 0)] dL_law_821 lL_206 eL_against rfl (by show 46 + 1 ≤ dd; omega) ((c_bhag hl 21).2 46 (by decide) hg.1 hg.2 (gBurns_rng hg.1 hg.2).2 hb2 (Or.inl rfl)) (Nat.le_of_ble_eq_true rfl) ?_
      refine I.sub dL_law_824 ?_
      refine J.istore dL_law_825 (by decide) rfl ?_
      refine J.aload dL_law_827 rfl ?_
      refine J.iload dL_law_829 rfl ?_
      refine J.dup2 dL_law_831 ?_
      refine Y.iald dL_law_832 hen (by omega) (by omega) ?_
      refine I.sx (up_eq s en (gGr (aF a)) (s en (gGr (aF a)) + 1)) ?_
      refine J.iload dL_law_833 rfl ?_
      refine I.iconst dL_law_835 ?_
      refine I.rem dL_law_836 (by omega) (by omega) ?_
      refine I.if_ne 844 dL_law_837 (by decide) (by omega) (fun h837 => ?_) (fun h837 => ?_)
      · exact absurd h837 (by omega)
      · skip
        refine I.iconst dL_law_840 ?_
        refine J.goto 845 dL_law_841 (by decide) ?_
        refine I.sub dL_law_845 ?_
        refine Y.iast dL_law_846 hen (by omega) (by omega) ?_
        rw [up_up2, up_own2 (by omega)]
        refine J.aload_n 1 dL_law_847 rfl rfl ?_
        refine Z.pub (d' := 40) (β := 0) (γ := 0) (mi' := mX8_highestEndScore) hp [] dL_law_848 lL_256 eX8_highestEndScore rfl (by omega) (RI.rq (c_X8_highestEndScore hl (by decide) p0.m)) (fun _ _ h => h) (fun v h => absurd h List.not_mem_nil) (fun w s' h => by rw [h.2]; exact HiE.refl) (Nat.le_of_ble_eq_true rfl) ?_
        rintro w s' ⟨rfl, ee⟩
        have ee := ee.symm
        subst ee
        rw [gHigh_n ho]
        refine J.iload dL_law_851 rfl ?_
        refine I.icmp_ne 865 dL_law_853 (by decide) (by omega) (by omega) (fun h853 => ?_) (fun h853 => ?_)
        · exact absurd h853 (by omega)
        · skip
          refine J.aload_n 1 dL_law_856 rfl rfl ?_
          refine Z.pub (d' := 40) (β := 0) (γ := 0) (mi' := mX8_greedyAgainstBest) hp [] dL_law_857 lL_253 eX8_greedyAgainstBest rfl (by omega) (c_X8_greedyAgainstBest hl (by decide) p0.m p0.so) (fun _ _ h => h) (fun v h => absurd h List.not_mem_nil) (fun w s' h => (p0.cfr h.2).2) (Nat.le_of_ble_eq_true rfl) ?_
          rintro w s' ⟨rfl, hF⟩
          obtain ⟨p9, hh⟩ := p0.cfr hF
          replace p0 := p9
          replace hx := hx.hi hp hh
          replace hR := hR.hi hh
          rw [gGab_n ho, gBhf_n hl' hv' hs, show -(gAg 0 (gRem (aF a) (gGr (aF a))) - gPt (aF a) (gGr (aF a))) = gPt (aF a) (gGr (aF a)) - gAg 0 (gRem (aF a) (gGr (aF a))) by omega]
          refine J.iload dL_law_860 rfl ?_
          refine I.icmp_eq 867 dL_law_862 (by decide) (by omega) (by omega) (fun h862 => ?_) (fun h862 => ?_)
          · skip
            refine J.aload_n 1 dL_law_867 rfl rfl ?_
            refine Z.wrap (d' := 40) (β := 1) (γ := 6) (mi' := mL_greedy) hp [] dL_law_868 lL_241 eL_greedy (by omega) (w_greedy hl p0.m p0.so (by decide)) (fun v h => absurd h List.not_mem_nil) (fun w s' h => by rcases h with ⟨_, _, h⟩ | ⟨_, _, h⟩ <;> first | exact (p0.cfr h).2 | (rw [h]; exact HiE.refl)) (Nat.le_of_ble_eq_true rfl) ?_
            rintro w s' (⟨-, rfl, hF⟩ | ⟨h, -⟩)
            rotate_left
            · exact absurd ho h
            obtain ⟨p9, hh⟩ := p0.cfr hF
            replace p0 := p9
            replace hx := hx.hi hp hh
            replace hR := hR.hi hh
            refine J.istore dL_law_871 (by decide) rfl ?_
            refine J.aload_n 1 dL_law_873 rfl rfl ?_
            refine J.iload dL_law_874 rfl ?_
            refine I.iconst dL_law_876 ?_
            refine Z.wrap (d' := 40) (β := 1) (γ := 6) (mi' := mL_move) hp [.int (iI (gGi (aF a))), .int (iI 0)] dL_law_877 lL_101 eL_move (by omega) (w_move0 hl p0.m (by decide) (by omega)) (fun v h => by simp only [List.mem_cons, List.not_mem_nil, or_false] at h; rcases h with rfl | rfl <;> exact ⟨_, rfl⟩) (fun w s' h => by rcases h with ⟨_, _, h⟩ | ⟨_, _, h⟩ <;> first | exact (p0.cfr h).2 | (rw [h]; exact HiE.refl)) (Nat.le_of_ble_eq_true rfl) ?_
            rintro w s' (⟨-, rfl, ee⟩ | ⟨h, -⟩)
            rotate_left
            · exact absurd hgi h
            have ee := ee.symm
            subst ee
            rw [q2, show gChn (gGr (aF a)) = (gGr (aF a)) / 2 from if_neg q3]
            refine J.iload dL_law_880 rfl ?_
            refine I.iconst dL_law_882 ?_
            refine I.div dL_law_883 (by omega) (by omega) ?_
            refine I.icmp_ne 903 dL_law_884 (by decide) (by omega) (by omega) (fun h884 => ?_) (fun h884 => ?_)
            · exact absurd h884 (by omega)
            · skip
              refine J.aload_n 1 dL_law_887 rfl rfl ?_
              refine J.iload dL_law_888 rfl ?_
              refine I.iconst dL_law_890 ?_
              refine Z.wrap (d' := 40) (β := 1) (γ := 6) (mi' := mL_move) hp [.int (iI (gGi (aF a))), .int (iI 3)] dL_law_891 lL_101 eL_move (by omega) (w_move3 hl p0.m (by decide) (by omega)) (fun v h => by simp only [List.mem_cons, List.not_mem_nil, or_false] at h; rcases h with rfl | rfl <;> exact ⟨_, rfl⟩) (fun w s' h => by rcases h with ⟨_, _, h⟩ | ⟨_, _, h⟩ <;> first | exact (p0.cfr h).2 | (rw [h]; exact HiE.refl)) (Nat.le_of_ble_eq_true rfl) ?_
              rintro w s' (⟨-, rfl, ee⟩ | ⟨h, -⟩)
              rotate_left
              · exact absurd hgi h
              have ee := ee.symm
              subst ee
              rw [q2, bI_t (p := (gGr (aF a)) ≠ 6 ∧ (gGr (aF a)) % 2 = 0) ⟨q3, hpar⟩]
              refine I.iconst dL_law_894 ?_
              refine J.iload dL_law_895 rfl ?_
              refine I.iconst dL_law_897 ?_
              refine I.rem dL_law_898 (by omega) (by omega) ?_
              refine I.sub dL_law_899 ?_
              refine I.icmp_eq 905 dL_law_900 (by decide) (by omega) (by omega) (fun h900 => ?_) (fun h900 => ?_)
              · skip
                exact J.fgt (by exact ⟨Or.inr rfl, Or.inr rfl, Or.inr rfl, Or.inr rfl, Or.inr rfl, Or.inr rfl, Or.inr rfl, Or.inr rfl, Or.inl rfl, Or.inr rfl, Or.inl rfl, Or.inl rfl, Or.inl rfl, Or.inr rfl, Or.inl rfl, Or.inl rfl, Or.inl rfl, Or.inl rfl, Or.inl rfl, Or.inl rfl, Or.inl rfl, Or.inl rfl, Or.inl rfl, Or.inl rfl, Or.inl rfl, trivial⟩) (kx _ hx p0 hR)
              · exact absurd h900 (by omega)
          · exact absurd h862 (by omega)
  · skip
    have hb2 : BR sh t (up s en (gGr (aF a)) (s en (gGr (aF a)) + -1)) sc en n (gRem (aF a) (gGr (aF a))) (fun c => (aF a) (34 + c)) := hbr.rem hl' hv' bz (by rw [if_neg (by omega)])
    refine J.aload dL_law_770 rfl ?_
    refine J.aload dL_law_772 rfl ?_
    refine Y.callS (d' := 40) (mi' := mL_greedyOf) [.ref sc, .ref en] dL_law_774 lL_203 eL_greedyOf rfl (by show 40 + 1 ≤ dd; omega) (c_greedyOf hl hl' hv' hbr) (Nat.le_of_ble_eq_true rfl) ?_
    refine J.istore dL_law_777 (by decide) rfl ?_
    refine J.aload dL_law_779 rfl ?_
    refine J.iload dL_law_781 rfl ?_
    refine I.iconst dL_law_783 ?_
    refine I.div dL_law_784 (by omega) (by omega) ?_
    refine Y.raald dL_law_785 hsc (by omega) (by omega) e3 ?_
    refine J.aload dL_law_786 rfl ?_
    refine J.iload dL_law_788 rfl ?_
    refine Y.iald dL_law_790 hen (by omega) (by omega) ?_
    refine Y.iald dL_law_791 e5 (by omega) (by omega) ?_
    refine I.sx e9 ?_
    refine J.istore dL_law_792 (by decide) rfl ?_
    refine J.aload dL_law_794 rfl ?_
    refine J.iload dL_law_796 rfl ?_
    refine J.dup2 dL_law_798 ?_
    refine Y.iald dL_law_799 hen (by omega) (by omega) ?_
    refine J.iload dL_law_800 rfl ?_
    refine I.iconst dL_law_802 ?_
    refine I.rem dL_law_803 (by omega) (by omega) ?_
    refine I.if_ne 811 dL_law_804 (by decide) (by omega) (fun h804 => ?_) (fun h804 => ?_)
    · skip
      refine I.iconst dL_law_811 ?_
      refine I.add dL_law_812 ?_
      refine Y.iast dL_law_813 hen (by omega) (by omega) ?_
      refine J.iload dL_law_814 rfl ?_
      refine J.aload dL_law_816 rfl ?_
      refine J.aload dL_law_818 rfl ?_
      refine I.iconst dL_law_820 ?_
      refine Y.callS (d' := 46) (mi' := mL_against) [.ref sc, .ref en, .int (iI 0)] dL_law_821 lL_206 eL_against rfl (by show 46 + 1 ≤ dd; omega) ((c_bhag hl 21).2 46 (by decide) hg.1 hg.2 (gBurns_rng hg.1 hg.2).2 hb2 (Or.inl rfl)) (Nat.le_of_ble_eq_true rfl) ?_
      refine I.sub dL_law_824 ?_
      refine J.istore dL_law_825 (by decide) rfl ?_
      refine J.aload dL_law_827 rfl ?_
      refine J.iload dL_law_829 rfl ?_
      refine J.dup2 dL_law_831 ?_
      refine Y.iald dL_law_832 hen (by omega) (by omega) ?_
      refine I.sx (up_eq s en (gGr (aF a)) (s en (gGr (aF a)) + -1)) ?_
      refine J.iload dL_law_833 rfl ?_
      refine I.iconst dL_law_835 ?_
      refine I.rem dL_law_836 (by omega) (by omega) ?_
      refine I.if_ne 844 dL_law_837 (by decide) (by omega) (fun h837 => ?_) (fun h837 => ?_)
      · skip
        refine I.iconst dL_law_844 ?_
        refine I.sub dL_law_845 ?_
        refine Y.iast dL_law_846 hen (by omega) (by omega) ?_
        rw [up_up2, up_own2 (by omega)]
        refine J.aload_n 1 dL_law_847 rfl rfl ?_
        refine Z.pub (d' := 40) (β := 0) (γ := 0) (mi' := mX8_highestEndScore) hp [] dL_law_848 lL_256 eX8_highestEndScore rfl (by omega) (RI.rq (c_X8_highestEndScore hl (by decide) p0.m)) (fun _ _ h => h) (fun v h => absurd h List.not_mem_nil) (fun w s' h => by rw [h.2]; exact HiE.refl) (Nat.le_of_ble_eq_true rfl) ?_
        rintro w s' ⟨rfl, ee⟩
        have ee := ee.symm
        subst ee
        rw [gHigh_n ho]
        refine J.iload dL_law_851 rfl ?_
        refine I.icmp_ne 865 dL_law_853 (by decide) (by omega) (by omega) (fun h853 => ?_) (fun h853 => ?_)
        · exact absurd h853 (by omega)
        · skip
          refine J.aload_n 1 dL_law_856 rfl rfl ?_
          refine Z.pub (d' := 40) (β := 0) (γ := 0) (mi' := mX8_greedyAgainstBest) hp [] dL_law_857 lL_253 eX8_greedyAgainstBest rfl (by omega) (c_X8_greedyAgainstBest hl (by decide) p0.m p0.so) (fun _ _ h => h) (fun v h => absurd h List.not_mem_nil) (fun w s' h => (p0.cfr h.2).2) (Nat.le_of_ble_eq_true rfl) ?_
          rintro w s' ⟨rfl, hF⟩
          obtain ⟨p9, hh⟩ := p0.cfr hF
          replace p0 := p9
          replace hx := hx.hi hp hh
          replace hR := hR.hi hh
          rw [gGab_n ho, gBhf_n hl' hv' hs, show -(gAg 0 (gRem (aF a) (gGr (aF a))) - gPt (aF a) (gGr (aF a))) = gPt (aF a) (gGr (aF a)) - gAg 0 (gRem (aF a) (gGr (aF a))) by omega]
          refine J.iload dL_law_860 rfl ?_
          refine I.icmp_eq 867 dL_law_862 (by decide) (by omega) (by omega) (fun h862 => ?_) (fun h862 => ?_)
          · skip
            refine J.aload_n 1 dL_law_867 rfl rfl ?_
            refine Z.wrap (d' := 40) (β := 1) (γ := 6) (mi' := mL_greedy) hp [] dL_law_868 lL_241 eL_greedy (by omega) (w_greedy hl p0.m p0.so (by decide)) (fun v h => absurd h List.not_mem_nil) (fun w s' h => by rcases h with ⟨_, _, h⟩ | ⟨_, _, h⟩ <;> first | exact (p0.cfr h).2 | (rw [h]; exact HiE.refl)) (Nat.le_of_ble_eq_true rfl) ?_
            rintro w s' (⟨-, rfl, hF⟩ | ⟨h, -⟩)
            rotate_left
            · exact absurd ho h
            obtain ⟨p9, hh⟩ := p0.cfr hF
            replace p0 := p9
            replace hx := hx.hi hp hh
            replace hR := hR.hi hh
            refine J.istore dL_law_871 (by decide) rfl ?_
            refine J.aload_n 1 dL_law_873 rfl rfl ?_
            refine J.iload dL_law_874 rfl ?_
            refine I.iconst dL_law_876 ?_
            refine Z.wrap (d' := 40) (β := 1) (γ := 6) (mi' := mL_move) hp [.int (iI (gGi (aF a))), .int (iI 0)] dL_law_877 lL_101 eL_move (by omega) (w_move0 hl p0.m (by decide) (by omega)) (fun v h => by simp only [List.mem_cons, List.not_mem_nil, or_false] at h; rcases h with rfl | rfl <;> exact ⟨_, rfl⟩) (fun w s' h => by rcases h with ⟨_, _, h⟩ | ⟨_, _, h⟩ <;> first | exact (p0.cfr h).2 | (rw [h]; exact HiE.refl)) (Nat.le_of_ble_eq_true rfl) ?_
            rintro w s' (⟨-, rfl, ee⟩ | ⟨h, -⟩)
            rotate_left
            · exact absurd hgi h
            have ee := ee.symm
            subst ee
            rw [q2, show gChn (gGr (aF a)) = (gGr (aF a)) / 2 from if_neg q3]
            refine J.iload dL_law_880 rfl ?_
            refine I.iconst dL_law_882 ?_
            refine I.div dL_law_883 (by omega) (by omega) ?_
            refine I.icmp_ne 903 dL_law_884 (by decide) (by omega) (by omega) (fun h884 => ?_) (fun h884 => ?_)
            · exact absurd h884 (by omega)
            · skip
              refine J.aload_n 1 dL_law_887 rfl rfl ?_
              refine J.iload dL_law_888 rfl ?_
              refine I.iconst dL_law_890 ?_
              refine Z.wrap (d' := 40) (β := 1) (γ := 6) (mi' := mL_move) hp [.int (iI (gGi (aF a))), .int (iI 3)] dL_law_891 lL_101 eL_move (by omega) (w_move3 hl p0.m (by decide) (by omega)) (fun v h => by simp only [List.mem_cons, List.not_mem_nil, or_false] at h; rcases h with rfl | rfl <;> exact ⟨_, rfl⟩) (fun w s' h => by rcases h with ⟨_, _, h⟩ | ⟨_, _, h⟩ <;> first | exact (p0.cfr h).2 | (rw [h]; exact HiE.refl)) (Nat.le_of_ble_eq_true rfl) ?_
              rintro w s' (⟨-, rfl, ee⟩ | ⟨h, -⟩)
              rotate_left
              · exact absurd hgi h
              have ee := ee.symm
              subst ee
              rw [q2, bI_f (p := (gGr (aF a)) ≠ 6 ∧ (gGr (aF a)) % 2 = 0) (fun h => by omega)]
              refine I.iconst dL_law_894 ?_
              refine J.iload dL_law_895 rfl ?_
              refine I.iconst dL_law_897 ?_
              refine I.rem dL_law_898 (by omega) (by omega) ?_
              refine I.sub dL_law_899 ?_
              refine I.icmp_eq 905 dL_law_900 (by decide) (by omega) (by omega) (fun h900 => ?_) (fun h900 => ?_)
              · skip
                exact J.fgt (by exact ⟨Or.inr rfl, Or.inr rfl, Or.inr rfl, Or.inr rfl, Or.inr rfl, Or.inr rfl, Or.inr rfl, Or.inr rfl, Or.inl rfl, Or.inr rfl, Or.inl rfl, Or.inl rfl, Or.inl rfl, Or.inr rfl, Or.inl rfl, Or.inl rfl, Or.inl rfl, Or.inl rfl, Or.inl rfl, Or.inl rfl, Or.inl rfl, Or.inl rfl, Or.inl rfl, Or.inl rfl, Or.inl rfl, trivial⟩) (kx _ hx p0 hR)
              · exact absurd h900 (by omega)
          · exact absurd h862 (by omega)
      · exact absurd h837 (by omega)
    · exact absurd h804 (by omega)
