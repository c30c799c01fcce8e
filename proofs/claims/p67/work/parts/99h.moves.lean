/-! the law's turn: the moves -/
set_option maxHeartbeats 4000000 in
theorem k_cmp {Γ : jE} (hl : Γ.1.stackTraces = false) {dd B C : Nat} {b tn : Int} {n sc en : Nat} {a : AS} {P : Option Value → jM → Prop} (hd : 60 ≤ dd) (p1 : AI a) (ho : ¬ gOver (aF a)) {sh : List (Nat × Nat)} {t : Nat → Nat → Option Nat} {s : Nat → Int → Int} (hp : PF sh t) (hx : XB sh t s) (p0 : CI s a) (hR : LR sh t s sc en n (aF a)) {ct wo fo fc : Int} (e1 : ct = gMany (aF a)) (e2 : wo = gWo (aF a)) (e3 : fo = gFo (aF a)) (e5 : bI (gMany (aF a) = 1 ∧ gVal (aF a) 6 = gNow (aF a)) = fc)
    (kx : ∀ s, XB sh t s → CI s a → LR sh t s sc en n (aF a) → J Γ (dd, B, C) mLw 770 [some (.ref 2000000), some (.ref 0), some (.int (iI b)), some (.int (iI tn)), some (.int (iI (n : Int))), some (.ref sc), some (.ref en), some (.int (iI (gWf (aF a)))), none, some (.int (iI (gMoves (aF a)))), none, none, none, some (.int (iI (gFo (aF a)))), none, none, none, none, none, none, none, none, none, none, none] [] (jmx sh t s) P X0) :
    J Γ (dd, B + 2, C + 12) mLw 732 [some (.ref 2000000), some (.ref 0), some (.int (iI b)), some (.int (iI tn)), some (.int (iI (n : Int))), some (.ref sc), some (.ref en), some (.int (iI (gWf (aF a)))), none, some (.int (iI (gMoves (aF a)))), some (.int (iI ct)), some (.int (iI wo)), none, some (.int (iI fo)), none, some (.int (iI fc)), none, none, none, none, none, none, none, none, none] [] (jmx sh t s) P X0 := by
  have hl' := p1.1.1
  have hv' := p1.1.2
  have hc := hl'.ch _ hv'.cur.1 hv'.cur.2
  have hmr := gMoves_rng hc
  have hmp := gMoves_pos hc ho
  have hW := gWf_rng hl' hv'
  have hnw := gNow_n ho
  have hnf := hR.2.2.2.2.1
  have hsc := hR.2.2.1
  have hen := hR.2.2.2.1
  have hbr := hR.br hl' hv'
  have r4 := hv'.2.2.2.1
  have f42 : (aF a) 4 ≠ 2 := fun h => ho (Or.inl h)
  have q1 := gWo_rng hc ho
  have q2 := gFo_rng hc ho
  have q3 := gMany_rng hc
  have q4 := bI_rng (gMany (aF a) = 1 ∧ gVal (aF a) 6 = gNow (aF a))
  refine J.aload_n 1 dL_law_732 rfl rfl ?_
  refine Z.wrap (d' := 40) (β := 1) (γ := 6) (mi' := mL_worst) hp [] dL_law_733 lL_250 eL_worst (by omega) (w_worst hl p0.m p0.so (by decide)) (fun v h => absurd h List.not_mem_nil) (fun w s' h => by rcases h with ⟨_, _, h⟩ | ⟨_, _, h⟩ <;> first | exact (p0.cfr h).2 | (rw [h]; exact HiE.refl)) (Nat.le_of_ble_eq_true rfl) ?_
  rintro w s' (⟨-, rfl, hF⟩ | ⟨h, -⟩)
  rotate_left
  · exact absurd ho h
  obtain ⟨p9, hh⟩ := p0.cfr hF
  replace p0 := p9
  replace hx := hx.hi hp hh
  replace hR := hR.hi hh
  refine J.iload dL_law_736 rfl ?_
  refine I.icmp_ne 768 dL_law_738 (by decide) (by omega) (by omega) (fun h738 => ?_) (fun h738 => ?_)
  · exact absurd h738 (by omega)
  · skip
    refine J.aload_n 1 dL_law_741 rfl rfl ?_
    refine Z.wrap (d' := 40) (β := 1) (γ := 6) (mi' := mL_optimal) hp [] dL_law_742 lL_229 eL_optimal (by omega) (w_optimal hl p0.m p0.so (by decide)) (fun v h => absurd h List.not_mem_nil) (fun w s' h => by rcases h with ⟨_, _, h⟩ | ⟨_, _, h⟩ <;> first | exact (p0.cfr h).2 | (rw [h]; exact HiE.refl)) (Nat.le_of_ble_eq_true rfl) ?_
    rintro w s' (⟨-, rfl, hF⟩ | ⟨h, -⟩)
    rotate_left
    · exact absurd ho h
    obtain ⟨p9, hh⟩ := p0.cfr hF
    replace p0 := p9
    replace hx := hx.hi hp hh
    replace hR := hR.hi hh
    refine J.iload dL_law_745 rfl ?_
    refine I.icmp_ne 768 dL_law_747 (by decide) (by omega) (by omega) (fun h747 => ?_) (fun h747 => ?_)
    · exact absurd h747 (by omega)
    · skip
      refine J.aload_n 1 dL_law_750 rfl rfl ?_
      refine Z.pub (d' := 40) (β := 0) (γ := 0) (mi' := mX8_optimalMoveCount) hp [] dL_law_751 lL_232 eX8_optimalMoveCount rfl (by omega) (c_X8_optimalMoveCount hl (by decide) p0.m p0.so) (fun _ _ h => h) (fun v h => absurd h List.not_mem_nil) (fun w s' h => (p0.cfr h.2).2) (Nat.le_of_ble_eq_true rfl) ?_
      rintro w s' ⟨rfl, hF⟩
      obtain ⟨p9, hh⟩ := p0.cfr hF
      replace p0 := p9
      replace hx := hx.hi hp hh
      replace hR := hR.hi hh
      refine J.iload dL_law_754 rfl ?_
      refine I.icmp_ne 768 dL_law_756 (by decide) (by omega) (by omega) (fun h756 => ?_) (fun h756 => ?_)
      · exact absurd h756 (by omega)
      · skip
        refine J.aload_n 1 dL_law_759 rfl rfl ?_
        refine Z.pub (d' := 40) (β := 0) (γ := 0) (mi' := mX8_isPassForced) hp [] dL_law_760 lL_235 eX8_isPassForced rfl (by omega) (c_X8_isPassForced hl (by decide) p0.m p0.so) (fun _ _ h => h) (fun v h => absurd h List.not_mem_nil) (fun w s' h => (p0.cfr h.2).2) (Nat.le_of_ble_eq_true rfl) ?_
        rintro w s' ⟨rfl, hF⟩
        obtain ⟨p9, hh⟩ := p0.cfr hF
        replace p0 := p9
        replace hx := hx.hi hp hh
        replace hR := hR.hi hh
        refine J.iload dL_law_763 rfl ?_
        refine I.icmp_eq 770 dL_law_765 (by decide) (by omega) (by omega) (fun h765 => ?_) (fun h765 => ?_)
        · skip
          subst e3
          exact J.fgt (by exact ⟨Or.inr rfl, Or.inr rfl, Or.inr rfl, Or.inr rfl, Or.inr rfl, Or.inr rfl, Or.inr rfl, Or.inr rfl, Or.inl rfl, Or.inr rfl, Or.inl rfl, Or.inl rfl, Or.inl rfl, Or.inr rfl, Or.inl rfl, Or.inl rfl, Or.inl rfl, Or.inl rfl, Or.inl rfl, Or.inl rfl, Or.inl rfl, Or.inl rfl, Or.inl rfl, Or.inl rfl, Or.inl rfl, trivial⟩) (kx _ hx p0 hR)
        · exact absurd h765 (by omega)
set_option maxHeartbeats 4000000 in
theorem k_pass {Γ : jE} (hl : Γ.1.stackTraces = false) {dd B C : Nat} {b tn : Int} {n sc en : Nat} {a : AS} {P : Option Value → jM → Prop} (hd : 60 ≤ dd) (p1 : AI a) (ho : ¬ gOver (aF a)) {sh : List (Nat × Nat)} {t : Nat → Nat → Option Nat} {s : Nat → Int → Int} (hp : PF sh t) (hx : XB sh t s) (p0 : CI s a) (hR : LR sh t s sc en n (aF a)) {i ct wo mn fo v : Int} (hAC : AC (aF a) i ct wo mn fo) (hi6 : gMvAt (aF a) i = 6) (him : gMoves (aF a) = i + 1) (hv6 : gVal (aF a) 6 = v) (kx : ∀ s, XB sh t s → CI s a → LR sh t s sc en n (aF a) → J Γ (dd, B, C) mLw 770 [some (.ref 2000000), some (.ref 0), some (.int (iI b)), some (.int (iI tn)), some (.int (iI (n : Int))), some (.ref sc), some (.ref en), some (.int (iI (gWf (aF a)))), none, some (.int (iI (gMoves (aF a)))), none, none, none, some (.int (iI (gFo (aF a)))), none, none, none, none, none, none, none, none, none, none, none] [] (jmx sh t s) P X0) :
    J Γ (dd, B + 2 + 3, C + 12 + 18) mLw 644 [some (.ref 2000000), some (.ref 0), some (.int (iI b)), some (.int (iI tn)), some (.int (iI (n : Int))), some (.ref sc), some (.ref en), some (.int (iI (gWf (aF a)))), none, some (.int (iI (gMoves (aF a)))), some (.int (iI ct)), some (.int (iI wo)), some (.int (iI mn)), some (.int (iI fo)), some (.int (iI i)), some (.int (iI 0)), some (.int (iI v)), none, none, none, none, none, none, none, none] [] (jmx sh t s) P X0 := by
  have hl' := p1.1.1
  have hv' := p1.1.2
  have hc := hl'.ch _ hv'.cur.1 hv'.cur.2
  have hmr := gMoves_rng hc
  have hmp := gMoves_pos hc ho
  have hW := gWf_rng hl' hv'
  have hnw := gNow_n ho
  have hnf := hR.2.2.2.2.1
  have hsc := hR.2.2.1
  have hen := hR.2.2.2.1
  have hbr := hR.br hl' hv'
  have r4 := hv'.2.2.2.1
  have f42 : (aF a) 4 ≠ 2 := fun h => ho (Or.inl h)
  have hA := hAC.step hl' hv' ho (v := v) (by rw [hi6]; exact hv6)
  obtain ⟨i0, ⟨-, c2, c3⟩, -, w2, m1, f1⟩ := hAC
  have hii : 0 ≤ i ∧ i < gMoves (aF a) := by omega
  have rv := gVal_rng hl' hv' (z := 6) (Or.inl rfl)
  have rf : -1 ≤ fo ∧ fo < 8 := by rcases f1 with h | h <;> omega
  rw [← him] at hA
  obtain ⟨e1, e2, e3⟩ := hA.done hl' hv' ho
  refine J.iload dL_law_644 rfl ?_
  refine J.iload dL_law_646 rfl ?_
  refine I.iconst dL_law_648 ?_
  refine I.sub dL_law_649 ?_
  refine I.icmp_ne 687 dL_law_650 (by decide) (by omega) (by omega) (fun h650 => ?_) (fun h650 => ?_)
  · exact absurd h650 (by omega)
  · skip
    refine J.aload_n 1 dL_law_653 rfl rfl ?_
    refine J.iload dL_law_654 rfl ?_
    refine I.iconst dL_law_656 ?_
    refine Z.wrap (d' := 40) (β := 1) (γ := 6) (mi' := mL_move) hp [.int (iI i), .int (iI 4)] dL_law_657 lL_101 eL_move (by omega) (w_move4 hl p0.m p0.so (by decide) (by omega)) (fun v h => by simp only [List.mem_cons, List.not_mem_nil, or_false] at h; rcases h with rfl | rfl <;> exact ⟨_, rfl⟩) (fun w s' h => by rcases h with ⟨_, _, h⟩ | ⟨_, _, h⟩ <;> first | exact (p0.cfr h).2 | (rw [h]; exact HiE.refl)) (Nat.le_of_ble_eq_true rfl) ?_
    rintro w s' (⟨-, rfl, hF⟩ | ⟨h, -⟩)
    rotate_left
    · exact absurd hii h
    obtain ⟨p9, hh⟩ := p0.cfr hF
    replace p0 := p9
    replace hx := hx.hi hp hh
    replace hR := hR.hi hh
    rw [hi6, hv6]
    refine J.iload dL_law_660 rfl ?_
    refine I.icmp_ne 687 dL_law_662 (by decide) (by omega) (by omega) (fun h662 => ?_) (fun h662 => ?_)
    · exact absurd h662 (by omega)
    · skip
      refine J.aload_n 1 dL_law_665 rfl rfl ?_
      refine J.iload dL_law_666 rfl ?_
      refine I.iconst dL_law_668 ?_
      refine Z.wrap (d' := 40) (β := 1) (γ := 6) (mi' := mL_move) hp [.int (iI i), .int (iI 2)] dL_law_669 lL_101 eL_move (by omega) (w_move2 hl p0.m (by decide) (by omega)) (fun v h => by simp only [List.mem_cons, List.not_mem_nil, or_false] at h; rcases h with rfl | rfl <;> exact ⟨_, rfl⟩) (fun w s' h => by rcases h with ⟨_, _, h⟩ | ⟨_, _, h⟩ <;> first | exact (p0.cfr h).2 | (rw [h]; exact HiE.refl)) (Nat.le_of_ble_eq_true rfl) ?_
      rintro w s' (⟨-, rfl, ee⟩ | ⟨h, -⟩)
      rotate_left
      · exact absurd hii h
      have ee := ee.symm
      subst ee
      rw [bI_t hi6]
      refine I.iconst dL_law_672 ?_
      refine I.icmp_ne 687 dL_law_673 (by decide) (by omega) (by omega) (fun h673 => ?_) (fun h673 => ?_)
      · exact absurd h673 (by omega)
      · skip
        refine J.aload_n 1 dL_law_676 rfl rfl ?_
        refine J.iload dL_law_677 rfl ?_
        refine I.iconst dL_law_679 ?_
        refine Z.wrap (d' := 40) (β := 1) (γ := 6) (mi' := mL_move) hp [.int (iI i), .int (iI 0)] dL_law_680 lL_101 eL_move (by omega) (w_move0 hl p0.m (by decide) (by omega)) (fun v h => by simp only [List.mem_cons, List.not_mem_nil, or_false] at h; rcases h with rfl | rfl <;> exact ⟨_, rfl⟩) (fun w s' h => by rcases h with ⟨_, _, h⟩ | ⟨_, _, h⟩ <;> first | exact (p0.cfr h).2 | (rw [h]; exact HiE.refl)) (Nat.le_of_ble_eq_true rfl) ?_
        rintro w s' (⟨-, rfl, ee⟩ | ⟨h, -⟩)
        rotate_left
        · exact absurd hii h
        have ee := ee.symm
        subst ee
        rw [hi6, show gChn 6 = -1 from rfl]
        refine I.iconst dL_law_683 ?_
        refine I.icmp_eq 689 dL_law_684 (by decide) (by omega) (by omega) (fun h684 => ?_) (fun h684 => ?_)
        · skip
          refine J.iload dL_law_689 rfl ?_
          refine J.iload dL_law_691 rfl ?_
          refine I.icmp_ne 721 dL_law_693 (by decide) (by omega) (by omega) (fun h693 => ?_) (fun h693 => ?_)
          · skip
            simp only [if_neg h693] at e1 e2 e3
            have e5 : bI (gMany (aF a) = 1 ∧ gVal (aF a) 6 = gNow (aF a)) = 0 := bI_f (fun h => h693 (by have := h.2; omega))
            refine J.iload dL_law_721 rfl ?_
            refine J.iload dL_law_723 rfl ?_
            refine I.icmp_ge 732 dL_law_725 (by decide) (by omega) (by omega) (fun h725 => ?_) (fun h725 => ?_)
            · skip
              simp only [if_neg (show ¬ v < mn by omega)] at e2
              exact J.fgt (by exact ⟨Or.inr rfl, Or.inr rfl, Or.inr rfl, Or.inr rfl, Or.inr rfl, Or.inr rfl, Or.inr rfl, Or.inr rfl, Or.inl rfl, Or.inr rfl, Or.inr rfl, Or.inr rfl, Or.inl rfl, Or.inr rfl, Or.inl rfl, Or.inr rfl, Or.inl rfl, Or.inl rfl, Or.inl rfl, Or.inl rfl, Or.inl rfl, Or.inl rfl, Or.inl rfl, Or.inl rfl, Or.inl rfl, trivial⟩) (k_cmp hl hd p1 ho hp hx p0 hR e1 e2 e3 e5 kx)
            · skip
              simp only [if_pos (show v < mn by omega)] at e2
              refine J.iload dL_law_728 rfl ?_
              refine J.istore dL_law_730 (by decide) rfl ?_
              exact J.fgt (by exact ⟨Or.inr rfl, Or.inr rfl, Or.inr rfl, Or.inr rfl, Or.inr rfl, Or.inr rfl, Or.inr rfl, Or.inr rfl, Or.inl rfl, Or.inr rfl, Or.inr rfl, Or.inr rfl, Or.inl rfl, Or.inr rfl, Or.inl rfl, Or.inr rfl, Or.inl rfl, Or.inl rfl, Or.inl rfl, Or.inl rfl, Or.inl rfl, Or.inl rfl, Or.inl rfl, Or.inl rfl, Or.inl rfl, trivial⟩) (k_cmp hl hd p1 ho hp hx p0 hR e1 e2 e3 e5 kx)
          · skip
            simp only [if_pos h693] at e1 e2 e3
            refine I.iinc dL_law_696 rfl rfl ?_
            refine J.iload dL_law_699 rfl ?_
            refine I.iconst dL_law_701 ?_
            refine I.icmp_ne 709 dL_law_702 (by decide) (by omega) (by omega) (fun h702 => ?_) (fun h702 => ?_)
            · skip
              have e5 : bI (gMany (aF a) = 1 ∧ gVal (aF a) 6 = gNow (aF a)) = 0 := bI_f (fun h => by have := h.1; omega)
              refine I.iconst dL_law_709 ?_
              refine J.istore dL_law_710 (by decide) rfl ?_
              refine J.iload dL_law_712 rfl ?_
              refine I.if_ge 721 dL_law_714 (by decide) (by omega) (fun h714 => ?_) (fun h714 => ?_)
              · skip
                simp only [if_neg (show ¬ fo < 0 by omega)] at e3
                refine J.iload dL_law_721 rfl ?_
                refine J.iload dL_law_723 rfl ?_
                refine I.icmp_ge 732 dL_law_725 (by decide) (by omega) (by omega) (fun h725 => ?_) (fun h725 => ?_)
                · skip
                  simp only [if_neg (show ¬ v < mn by omega)] at e2
                  exact J.fgt (by exact ⟨Or.inr rfl, Or.inr rfl, Or.inr rfl, Or.inr rfl, Or.inr rfl, Or.inr rfl, Or.inr rfl, Or.inr rfl, Or.inl rfl, Or.inr rfl, Or.inr rfl, Or.inr rfl, Or.inl rfl, Or.inr rfl, Or.inl rfl, Or.inr rfl, Or.inl rfl, Or.inl rfl, Or.inl rfl, Or.inl rfl, Or.inl rfl, Or.inl rfl, Or.inl rfl, Or.inl rfl, Or.inl rfl, trivial⟩) (k_cmp hl hd p1 ho hp hx p0 hR e1 e2 e3 e5 kx)
                · skip
                  simp only [if_pos (show v < mn by omega)] at e2
                  refine J.iload dL_law_728 rfl ?_
                  refine J.istore dL_law_730 (by decide) rfl ?_
                  exact J.fgt (by exact ⟨Or.inr rfl, Or.inr rfl, Or.inr rfl, Or.inr rfl, Or.inr rfl, Or.inr rfl, Or.inr rfl, Or.inr rfl, Or.inl rfl, Or.inr rfl, Or.inr rfl, Or.inr rfl, Or.inl rfl, Or.inr rfl, Or.inl rfl, Or.inr rfl, Or.inl rfl, Or.inl rfl, Or.inl rfl, Or.inl rfl, Or.inl rfl, Or.inl rfl, Or.inl rfl, Or.inl rfl, Or.inl rfl, trivial⟩) (k_cmp hl hd p1 ho hp hx p0 hR e1 e2 e3 e5 kx)
              · skip
                simp only [if_pos (show fo < 0 by omega)] at e3
                refine J.iload dL_law_717 rfl ?_
                refine J.istore dL_law_719 (by decide) rfl ?_
                refine J.iload dL_law_721 rfl ?_
                refine J.iload dL_law_723 rfl ?_
                refine I.icmp_ge 732 dL_law_725 (by decide) (by omega) (by omega) (fun h725 => ?_) (fun h725 => ?_)
                · skip
                  simp only [if_neg (show ¬ v < mn by omega)] at e2
                  exact J.fgt (by exact ⟨Or.inr rfl, Or.inr rfl, Or.inr rfl, Or.inr rfl, Or.inr rfl, Or.inr rfl, Or.inr rfl, Or.inr rfl, Or.inl rfl, Or.inr rfl, Or.inr rfl, Or.inr rfl, Or.inl rfl, Or.inr rfl, Or.inl rfl, Or.inr rfl, Or.inl rfl, Or.inl rfl, Or.inl rfl, Or.inl rfl, Or.inl rfl, Or.inl rfl, Or.inl rfl, Or.inl rfl, Or.inl rfl, trivial⟩) (k_cmp hl hd p1 ho hp hx p0 hR e1 e2 e3 e5 kx)
                · skip
                  simp only [if_pos (show v < mn by omega)] at e2
                  refine J.iload dL_law_728 rfl ?_
                  refine J.istore dL_law_730 (by decide) rfl ?_
                  exact J.fgt (by exact ⟨Or.inr rfl, Or.inr rfl, Or.inr rfl, Or.inr rfl, Or.inr rfl, Or.inr rfl, Or.inr rfl, Or.inr rfl, Or.inl rfl, Or.inr rfl, Or.inr rfl, Or.inr rfl, Or.inl rfl, Or.inr rfl, Or.inl rfl, Or.inr rfl, Or.inl rfl, Or.inl rfl, Or.inl rfl, Or.inl rfl, Or.inl rfl, Or.inl rfl, Or.inl rfl, Or.inl rfl, Or.inl rfl, trivial⟩) (k_cmp hl hd p1 ho hp hx p0 hR e1 e2 e3 e5 kx)
            · skip
              have e5 : bI (gMany (aF a) = 1 ∧ gVal (aF a) 6 = gNow (aF a)) = 1 := bI_t ⟨by omega, by omega⟩
              refine I.iconst dL_law_705 ?_
              refine J.goto 710 dL_law_706 (by decide) ?_
              refine J.istore dL_law_710 (by decide) rfl ?_
              refine J.iload dL_law_712 rfl ?_
              refine I.if_ge 721 dL_law_714 (by decide) (by omega) (fun h714 => ?_) (fun h714 => ?_)
              · skip
                simp only [if_neg (show ¬ fo < 0 by omega)] at e3
                refine J.iload dL_law_721 rfl ?_
                refine J.iload dL_law_723 rfl ?_
                refine I.icmp_ge 732 dL_law_725 (by decide) (by omega) (by omega) (fun h725 => ?_) (fun h725 => ?_)
                · skip
                  simp only [if_neg (show ¬ v < mn by omega)] at e2
                  exact J.fgt (by exact ⟨Or.inr rfl, Or.inr rfl, Or.inr rfl, Or.inr rfl, Or.inr rfl, Or.inr rfl, Or.inr rfl, Or.inr rfl, Or.inl rfl, Or.inr rfl, Or.inr rfl, Or.inr rfl, Or.inl rfl, Or.inr rfl, Or.inl rfl, Or.inr rfl, Or.inl rfl, Or.inl rfl, Or.inl rfl, Or.inl rfl, Or.inl rfl, Or.inl rfl, Or.inl rfl, Or.inl rfl, Or.inl rfl, trivial⟩) (k_cmp hl hd p1 ho hp hx p0 hR e1 e2 e3 e5 kx)
                · skip
                  simp only [if_pos (show v < mn by omega)] at e2
                  refine J.iload dL_law_728 rfl ?_
                  refine J.istore dL_law_730 (by decide) rfl ?_
                  exact J.fgt (by exact ⟨Or.inr rfl, Or.inr rfl, Or.inr rfl, Or.inr rfl, Or.inr rfl, Or.inr rfl, Or.inr rfl, Or.inr rfl, Or.inl rfl, Or.inr rfl, Or.inr rfl, Or.inr rfl, Or.inl rfl, Or.inr rfl, Or.inl rfl, Or.inr rfl, Or.inl rfl, Or.inl rfl, Or.inl rfl, Or.inl rfl, Or.inl rfl, Or.inl rfl, Or.inl rfl, Or.inl rfl, Or.inl rfl, trivial⟩) (k_cmp hl hd p1 ho hp hx p0 hR e1 e2 e3 e5 kx)
              · skip
                simp only [if_pos (show fo < 0 by omega)] at e3
                refine J.iload dL_law_717 rfl ?_
                refine J.istore dL_law_719 (by decide) rfl ?_
                refine J.iload dL_law_721 rfl ?_
                refine J.iload dL_law_723 rfl ?_
                refine I.icmp_ge 732 dL_law_725 (by decide) (by omega) (by omega) (fun h725 => ?_) (fun h725 => ?_)
                · skip
                  simp only [if_neg (show ¬ v < mn by omega)] at e2
                  exact J.fgt (by exact ⟨Or.inr rfl, Or.inr rfl, Or.inr rfl, Or.inr rfl, Or.inr rfl, Or.inr rfl, Or.inr rfl, Or.inr rfl, Or.inl rfl, Or.inr rfl, Or.inr rfl, Or.inr rfl, Or.inl rfl, Or.inr rfl, Or.inl rfl, Or.inr rfl, Or.inl rfl, Or.inl rfl, Or.inl rfl, Or.inl rfl, Or.inl rfl, Or.inl rfl, Or.inl rfl, Or.inl rfl, Or.inl rfl, trivial⟩) (k_cmp hl hd p1 ho hp hx p0 hR e1 e2 e3 e5 kx)
                · skip
                  simp only [if_pos (show v < mn by omega)] at e2
                  refine J.iload dL_law_728 rfl ?_
                  refine J.istore dL_law_730 (by decide) rfl ?_
                  exact J.fgt (by exact ⟨Or.inr rfl, Or.inr rfl, Or.inr rfl, Or.inr rfl, Or.inr rfl, Or.inr rfl, Or.inr rfl, Or.inr rfl, Or.inl rfl, Or.inr rfl, Or.inr rfl, Or.inr rfl, Or.inl rfl, Or.inr rfl, Or.inl rfl, Or.inr rfl, Or.inl rfl, Or.inl rfl, Or.inl rfl, Or.inl rfl, Or.inl rfl, Or.inl rfl, Or.inl rfl, Or.inl rfl, Or.inl rfl, trivial⟩) (k_cmp hl hd p1 ho hp hx p0 hR e1 e2 e3 e5 kx)
        · exact absurd h684 (by omega)
set_option maxHeartbeats 4000000 in
theorem k_passes {Γ : jE} (hl : Γ.1.stackTraces = false) {dd B C : Nat} {b tn : Int} {n sc en : Nat} {a : AS} {P : Option Value → jM → Prop} (hd : 60 ≤ dd) (p1 : AI a) (ho : ¬ gOver (aF a)) {sh : List (Nat × Nat)} {t : Nat → Nat → Option Nat} {s : Nat → Int → Int} (hp : PF sh t) (hx : XB sh t s) (p0 : CI s a) (hR : LR sh t s sc en n (aF a)) (hb : 0 ≤ b ∧ b ≤ 1) (hb4 : b = 1 ↔ (aF a) 4 = 1) {i ct wo mn fo : Int} (hAC : AC (aF a) i ct wo mn fo) (hEN : EN (aF a) n n i) (kx : ∀ s, XB sh t s → CI s a → LR sh t s sc en n (aF a) → J Γ (dd, B, C) mLw 770 [some (.ref 2000000), some (.ref 0), some (.int (iI b)), some (.int (iI tn)), some (.int (iI (n : Int))), some (.ref sc), some (.ref en), some (.int (iI (gWf (aF a)))), none, some (.int (iI (gMoves (aF a)))), none, none, none, some (.int (iI (gFo (aF a)))), none, none, none, none, none, none, none, none, none, none, none] [] (jmx sh t s) P X0) :
    J Γ (dd, B + 2 + 3, C + 12 + 18) mLw 625 [some (.ref 2000000), some (.ref 0), some (.int (iI b)), some (.int (iI tn)), some (.int (iI (n : Int))), some (.ref sc), some (.ref en), some (.int (iI (gWf (aF a)))), none, some (.int (iI (gMoves (aF a)))), some (.int (iI ct)), some (.int (iI wo)), some (.int (iI mn)), some (.int (iI fo)), some (.int (iI i)), some (.int (iI 0)), none, none, none, none, none, none, none, none, none] [] (jmx sh t s) P X0 := by
  have hl' := p1.1.1
  have hv' := p1.1.2
  have hc := hl'.ch _ hv'.cur.1 hv'.cur.2
  have hmr := gMoves_rng hc
  have hmp := gMoves_pos hc ho
  have hW := gWf_rng hl' hv'
  have hnw := gNow_n ho
  have hnf := hR.2.2.2.2.1
  have hsc := hR.2.2.1
  have hen := hR.2.2.2.1
  have hbr := hR.br hl' hv'
  have r4 := hv'.2.2.2.1
  have f42 : (aF a) 4 ≠ 2 := fun h => ho (Or.inl h)
  obtain ⟨hi6, him⟩ := hEN.done
  by_cases h4 : (aF a) 4 = 1
  · have hb1 := hb4.mpr h4
    refine J.iload_n 2 dL_law_625 rfl rfl ?_
    refine I.if_eq 633 dL_law_626 (by decide) (by omega) (fun h626 => ?_) (fun h626 => ?_)
    · exact absurd h626 (by omega)
    · skip
      refine I.iconst dL_law_629 ?_
      refine J.goto 642 dL_law_630 (by decide) ?_
      refine J.istore dL_law_642 (by decide) rfl ?_
      exact J.fgt (by exact ⟨Or.inr rfl, Or.inr rfl, Or.inr rfl, Or.inr rfl, Or.inr rfl, Or.inr rfl, Or.inr rfl, Or.inr rfl, Or.inl rfl, Or.inr rfl, Or.inr rfl, Or.inr rfl, Or.inr rfl, Or.inr rfl, Or.inr rfl, Or.inr rfl, Or.inr rfl, Or.inl rfl, Or.inl rfl, Or.inl rfl, Or.inl rfl, Or.inl rfl, Or.inl rfl, Or.inl rfl, Or.inl rfl, trivial⟩) (k_pass hl hd p1 ho hp hx p0 hR hAC hi6 him (gVal_p1 h4) kx)
  · have hb1 : b ≠ 1 := fun h => h4 (hb4.mp h)
    refine J.iload_n 2 dL_law_625 rfl rfl ?_
    refine I.if_eq 633 dL_law_626 (by decide) (by omega) (fun h626 => ?_) (fun h626 => ?_)
    · skip
      refine J.aload dL_law_633 rfl ?_
      refine J.aload dL_law_635 rfl ?_
      refine I.iconst dL_law_637 ?_
      refine Y.callS (d' := 40) (mi' := mL_best) [.ref sc, .ref en, .int (iI 1)] dL_law_638 lL_190 eL_best rfl (by show 40 + 1 ≤ dd; omega) (c_best hl 21 40 (by decide) (And.intro hl' hv').1 (And.intro hl' hv').2 (gBurns_rng (And.intro hl' hv').1 (And.intro hl' hv').2).2 hbr (Or.inr rfl)) (Nat.le_of_ble_eq_true rfl) ?_
      refine I.neg dL_law_641 ?_
      refine J.istore dL_law_642 (by decide) rfl ?_
      exact J.fgt (by exact ⟨Or.inr rfl, Or.inr rfl, Or.inr rfl, Or.inr rfl, Or.inr rfl, Or.inr rfl, Or.inr rfl, Or.inr rfl, Or.inl rfl, Or.inr rfl, Or.inr rfl, Or.inr rfl, Or.inr rfl, Or.inr rfl, Or.inr rfl, Or.inr rfl, Or.inr rfl, Or.inl rfl, Or.inl rfl, Or.inl rfl, Or.inl rfl, Or.inl rfl, Or.inl rfl, Or.inl rfl, Or.inl rfl, trivial⟩) (k_pass hl hd p1 ho hp hx p0 hR hAC hi6 him (gVal_p0 h4) kx)
    · exact absurd h626 (by omega)
set_option maxHeartbeats 8000000 in
theorem k_burn {Γ : jE} (hl : Γ.1.stackTraces = false) {dd B C : Nat} {b tn : Int} {n sc en : Nat} {a : AS} {P : Option Value → jM → Prop} (hd : 60 ≤ dd) (p1 : AI a) (ho : ¬ gOver (aF a)) {sh : List (Nat × Nat)} {t : Nat → Nat → Option Nat} {s : Nat → Int → Int} (hp : PF sh t) (hx : XB sh t s) (p0 : CI s a) (hR : LR sh t s sc en n (aF a)) {c : Nat} {i j ct wo mn fo : Int} (hj : j = 0 ∨ j = 1) (hcn : c < n) (hlong : 1 < (aF a) (37 + (c : Int)) - (aF a) (34 + (c : Int)) + 1) (hAC : AC (aF a) i ct wo mn fo) (hii : 0 ≤ i ∧ i < gMoves (aF a)) (hz : gMvAt (aF a) i = 2 * (c : Int) + j)
    (kx : ∀ s ct' wo' mn' fo', AC (aF a) (i + 1) ct' wo' mn' fo' → XB sh t s → CI s a → LR sh t s sc en n (aF a) → J Γ (dd, B, C) mLw 436 [some (.ref 2000000), some (.ref 0), some (.int (iI b)), some (.int (iI tn)), some (.int (iI (n : Int))), some (.ref sc), some (.ref en), some (.int (iI (gWf (aF a)))), none, some (.int (iI (gMoves (aF a)))), some (.int (iI ct')), some (.int (iI wo')), some (.int (iI mn')), some (.int (iI fo')), some (.int (iI (i + 1))), some (.int (iI 0)), some (.int (iI (c : Int))), some (.int (iI (j + 1))), none, none, none, none, none, none, none] [] (jmx sh t s) P X0) :
    J Γ (dd, B + 4, C + 24) mLw 442 [some (.ref 2000000), some (.ref 0), some (.int (iI b)), some (.int (iI tn)), some (.int (iI (n : Int))), some (.ref sc), some (.ref en), some (.int (iI (gWf (aF a)))), none, some (.int (iI (gMoves (aF a)))), some (.int (iI ct)), some (.int (iI wo)), some (.int (iI mn)), some (.int (iI fo)), some (.int (iI i)), some (.int (iI 0)), some (.int (iI (c : Int))), some (.int (iI j)), none, none, none, none, none, none, none] [] (jmx sh t s) P X0 := by
  have hl' := p1.1.1
  have hv' := p1.1.2
  have hc := hl'.ch _ hv'.cur.1 hv'.cur.2
  have hmr := gMoves_rng hc
  have hmp := gMoves_pos hc ho
  have hW := gWf_rng hl' hv'
  have hnw := gNow_n ho
  have hnf := hR.2.2.2.2.1
  have hsc := hR.2.2.1
  have hen := hR.2.2.2.1
  have hbr := hR.br hl' hv'
  have r4 := hv'.2.2.2.1
  have f42 : (aF a) 4 ≠ 2 := fun h => ho (Or.inl h)
  obtain ⟨i0, ⟨-, c2, c3⟩, -, w2, m1, f1⟩ := id hAC
  have rf : -1 ≤ fo ∧ fo < 8 := by rcases f1 with h | h <;> omega
  rcases hj with rfl | rfl
  · skip
    have hcI : (0 : Int) ≤ c ∧ (c : Int) < n := by omega
    have bz : gBn (aF a) (2 * (c : Int) + 0) := ⟨by omega, by rw [show (2 * (c : Int) + 0) / 2 = (c : Int) by omega]; omega⟩
    have h6 : (2 * (c : Int) + 0) ≠ 6 := by omega
    have hg : FL (gRem (aF a) (2 * (c : Int) + 0)) ∧ FS (gRem (aF a) (2 * (c : Int) + 0)) := ⟨gRem_FL hl' hv' bz, gRem_FS hl' hv' bz⟩
    have hb2 : BR sh t (up s en (2 * (c : Int) + 0) (s en (2 * (c : Int) + 0) + 1)) sc en n (gRem (aF a) (2 * (c : Int) + 0)) (fun c => (aF a) (34 + c)) := hbr.rem hl' hv' bz (by rw [if_pos (by omega)])
    obtain ⟨⟨z0, z6, zn⟩, r, mm, e3, e4, e5, e6, e7, e8, e9⟩ := hbr.atz hl' hv' bz
    rw [show (2 * (c : Int) + 0) / 2 = (c : Int) by omega] at e3
    have ech : gChn (2 * (c : Int) + 0) = (c : Int) := by unfold gChn; rw [if_neg h6]; omega
    have rP := gPt_rng hl' hv' bz.ok
    have rG := gWf_rng hg.1 hg.2
    have hA := hAC.step hl' hv' ho (v := (gPt (aF a) (2 * (c : Int) + 0) - gWf (gRem (aF a) (2 * (c : Int) + 0)))) (by rw [hz]; exact gVal_b h6)
    refine J.aload dL_law_442 rfl ?_
    refine J.iload dL_law_444 rfl ?_
    refine Y.raald dL_law_446 hsc (by omega) (by omega) e3 ?_
    refine J.aload dL_law_447 rfl ?_
    refine I.iconst dL_law_449 ?_
    refine J.iload dL_law_450 rfl ?_
    refine I.mul dL_law_452 ?_
    refine J.iload dL_law_453 rfl ?_
    refine I.add dL_law_455 ?_
    refine Y.iald dL_law_456 hen (by omega) (by omega) ?_
    refine Y.iald dL_law_457 e5 (by omega) (by omega) ?_
    refine I.sx e9 ?_
    refine J.istore dL_law_458 (by decide) rfl ?_
    refine J.aload dL_law_460 rfl ?_
    refine I.iconst dL_law_462 ?_
    refine J.iload dL_law_463 rfl ?_
    refine I.mul dL_law_465 ?_
    refine J.iload dL_law_466 rfl ?_
    refine I.add dL_law_468 ?_
    refine J.dup2 dL_law_469 ?_
    refine Y.iald dL_law_470 hen (by omega) (by omega) ?_
    refine J.iload dL_law_471 rfl ?_
    refine I.if_ne 480 dL_law_473 (by decide) (by omega) (fun h473 => ?_) (fun h473 => ?_)
    · exact absurd h473 (by omega)
    · skip
      refine I.iconst dL_law_476 ?_
      refine J.goto 481 dL_law_477 (by decide) ?_
      refine I.add dL_law_481 ?_
      refine Y.iast dL_law_482 hen (by omega) (by omega) ?_
      refine J.iload dL_law_483 rfl ?_
      refine J.aload dL_law_485 rfl ?_
      refine J.aload dL_law_487 rfl ?_
      refine I.iconst dL_law_489 ?_
      refine Y.callS (d' := 40) (mi' := mL_best) [.ref sc, .ref en, .int (iI 0)] dL_law_490 lL_190 eL_best rfl (by show 40 + 1 ≤ dd; omega) (c_best hl 21 40 (by decide) hg.1 hg.2 (gBurns_rng hg.1 hg.2).2 hb2 (Or.inl rfl)) (Nat.le_of_ble_eq_true rfl) ?_
      refine I.sub dL_law_493 ?_
      refine J.istore dL_law_494 (by decide) rfl ?_
      refine J.aload dL_law_496 rfl ?_
      refine I.iconst dL_law_498 ?_
      refine J.iload dL_law_499 rfl ?_
      refine I.mul dL_law_501 ?_
      refine J.iload dL_law_502 rfl ?_
      refine I.add dL_law_504 ?_
      refine J.dup2 dL_law_505 ?_
      refine Y.iald dL_law_506 hen (by omega) (by omega) ?_
      refine I.sx (up_eq s en (2 * (c : Int) + 0) (s en (2 * (c : Int) + 0) + 1)) ?_
      refine J.iload dL_law_507 rfl ?_
      refine I.if_ne 516 dL_law_509 (by decide) (by omega) (fun h509 => ?_) (fun h509 => ?_)
      · exact absurd h509 (by omega)
      · skip
        refine I.iconst dL_law_512 ?_
        refine J.goto 517 dL_law_513 (by decide) ?_
        refine I.sub dL_law_517 ?_
        refine Y.iast dL_law_518 hen (by omega) (by omega) ?_
        rw [up_up2, up_own2 (by omega)]
        refine J.aload_n 1 dL_law_519 rfl rfl ?_
        refine J.iload dL_law_520 rfl ?_
        refine I.iconst dL_law_522 ?_
        refine Z.wrap (d' := 40) (β := 1) (γ := 6) (mi' := mL_move) hp [.int (iI i), .int (iI 4)] dL_law_523 lL_101 eL_move (by omega) (w_move4 hl p0.m p0.so (by decide) (by omega)) (fun v h => by simp only [List.mem_cons, List.not_mem_nil, or_false] at h; rcases h with rfl | rfl <;> exact ⟨_, rfl⟩) (fun w s' h => by rcases h with ⟨_, _, h⟩ | ⟨_, _, h⟩ <;> first | exact (p0.cfr h).2 | (rw [h]; exact HiE.refl)) (Nat.le_of_ble_eq_true rfl) ?_
        rintro w s' (⟨-, rfl, hF⟩ | ⟨h, -⟩)
        rotate_left
        · exact absurd hii h
        obtain ⟨p9, hh⟩ := p0.cfr hF
        replace p0 := p9
        replace hx := hx.hi hp hh
        replace hR := hR.hi hh
        rw [hz, gVal_b h6]
        refine J.iload dL_law_526 rfl ?_
        refine I.icmp_ne 569 dL_law_528 (by decide) (by omega) (by omega) (fun h528 => ?_) (fun h528 => ?_)
        · exact absurd h528 (by omega)
        · skip
          refine J.aload_n 1 dL_law_531 rfl rfl ?_
          refine J.iload dL_law_532 rfl ?_
          refine I.iconst dL_law_534 ?_
          refine Z.wrap (d' := 40) (β := 1) (γ := 6) (mi' := mL_move) hp [.int (iI i), .int (iI 1)] dL_law_535 lL_101 eL_move (by omega) (w_move1 hl p0.m (by decide) (by omega)) (fun v h => by simp only [List.mem_cons, List.not_mem_nil, or_false] at h; rcases h with rfl | rfl <;> exact ⟨_, rfl⟩) (fun w s' h => by rcases h with ⟨_, _, h⟩ | ⟨_, _, h⟩ <;> first | exact (p0.cfr h).2 | (rw [h]; exact HiE.refl)) (Nat.le_of_ble_eq_true rfl) ?_
          rintro w s' (⟨-, rfl, ee⟩ | ⟨h, -⟩)
          rotate_left
          · exact absurd hii h
          have ee := ee.symm
          subst ee
          rw [hz]
          refine J.iload dL_law_538 rfl ?_
          refine I.icmp_ne 569 dL_law_540 (by decide) (by omega) (by omega) (fun h540 => ?_) (fun h540 => ?_)
          · exact absurd h540 (by omega)
          · skip
            refine J.aload_n 1 dL_law_543 rfl rfl ?_
            refine J.iload dL_law_544 rfl ?_
            refine I.iconst dL_law_546 ?_
            refine Z.wrap (d' := 40) (β := 1) (γ := 6) (mi' := mL_move) hp [.int (iI i), .int (iI 0)] dL_law_547 lL_101 eL_move (by omega) (w_move0 hl p0.m (by decide) (by omega)) (fun v h => by simp only [List.mem_cons, List.not_mem_nil, or_false] at h; rcases h with rfl | rfl <;> exact ⟨_, rfl⟩) (fun w s' h => by rcases h with ⟨_, _, h⟩ | ⟨_, _, h⟩ <;> first | exact (p0.cfr h).2 | (rw [h]; exact HiE.refl)) (Nat.le_of_ble_eq_true rfl) ?_
            rintro w s' (⟨-, rfl, ee⟩ | ⟨h, -⟩)
            rotate_left
            · exact absurd hii h
            have ee := ee.symm
            subst ee
            rw [hz, ech]
            refine J.iload dL_law_550 rfl ?_
            refine I.icmp_ne 569 dL_law_552 (by decide) (by omega) (by omega) (fun h552 => ?_) (fun h552 => ?_)
            · exact absurd h552 (by omega)
            · skip
              refine J.aload_n 1 dL_law_555 rfl rfl ?_
              refine J.iload dL_law_556 rfl ?_
              refine I.iconst dL_law_558 ?_
              refine Z.wrap (d' := 40) (β := 1) (γ := 6) (mi' := mL_move) hp [.int (iI i), .int (iI 3)] dL_law_559 lL_101 eL_move (by omega) (w_move3 hl p0.m (by decide) (by omega)) (fun v h => by simp only [List.mem_cons, List.not_mem_nil, or_false] at h; rcases h with rfl | rfl <;> exact ⟨_, rfl⟩) (fun w s' h => by rcases h with ⟨_, _, h⟩ | ⟨_, _, h⟩ <;> first | exact (p0.cfr h).2 | (rw [h]; exact HiE.refl)) (Nat.le_of_ble_eq_true rfl) ?_
              rintro w s' (⟨-, rfl, ee⟩ | ⟨h, -⟩)
              rotate_left
              · exact absurd hii h
              have ee := ee.symm
              subst ee
              rw [hz, bI_t (p := (2 * (c : Int) + 0) ≠ 6 ∧ (2 * (c : Int) + 0) % 2 = 0) ⟨h6, by omega⟩]
              refine I.iconst dL_law_562 ?_
              refine J.iload dL_law_563 rfl ?_
              refine I.sub dL_law_565 ?_
              refine I.icmp_eq 571 dL_law_566 (by decide) (by omega) (by omega) (fun h566 => ?_) (fun h566 => ?_)
              · skip
                refine J.iload dL_law_571 rfl ?_
                refine J.iload dL_law_573 rfl ?_
                refine I.icmp_ne 590 dL_law_575 (by decide) (by omega) (by omega) (fun h575 => ?_) (fun h575 => ?_)
                · skip
                  simp only [if_neg h575] at hA
                  refine J.iload dL_law_590 rfl ?_
                  refine J.iload dL_law_592 rfl ?_
                  refine I.icmp_ge 601 dL_law_594 (by decide) (by omega) (by omega) (fun h594 => ?_) (fun h594 => ?_)
                  · skip
                    simp only [if_neg (show ¬ (gPt (aF a) (2 * (c : Int) + 0) - gWf (gRem (aF a) (2 * (c : Int) + 0))) < mn by omega)] at hA
                    refine J.iload dL_law_601 rfl ?_
                    refine J.iload dL_law_603 rfl ?_
                    refine I.mmin dL_law_605 lL_263 (by omega) (by omega) (Nat.le_of_ble_eq_true rfl) ?_
                    refine J.istore dL_law_608 (by decide) rfl ?_
                    refine I.iinc dL_law_610 rfl rfl ?_
                    refine I.iinc dL_law_613 rfl rfl ?_
                    refine J.goto 436 dL_law_616 (by decide) ?_
                    exact J.fgt (by exact ⟨Or.inr rfl, Or.inr rfl, Or.inr rfl, Or.inr rfl, Or.inr rfl, Or.inr rfl, Or.inr rfl, Or.inr rfl, Or.inl rfl, Or.inr rfl, Or.inr rfl, Or.inr rfl, Or.inr rfl, Or.inr rfl, Or.inr rfl, Or.inr rfl, Or.inr rfl, Or.inr rfl, Or.inl rfl, Or.inl rfl, Or.inl rfl, Or.inl rfl, Or.inl rfl, Or.inl rfl, Or.inl rfl, trivial⟩) (kx _ _ _ _ _ hA hx p0 hR)
                  · skip
                    simp only [if_pos (show (gPt (aF a) (2 * (c : Int) + 0) - gWf (gRem (aF a) (2 * (c : Int) + 0))) < mn by omega)] at hA
                    refine J.iload dL_law_597 rfl ?_
                    refine J.istore dL_law_599 (by decide) rfl ?_
                    refine J.iload dL_law_601 rfl ?_
                    refine J.iload dL_law_603 rfl ?_
                    refine I.mmin dL_law_605 lL_263 (by omega) (by omega) (Nat.le_of_ble_eq_true rfl) ?_
                    refine J.istore dL_law_608 (by decide) rfl ?_
                    refine I.iinc dL_law_610 rfl rfl ?_
                    refine I.iinc dL_law_613 rfl rfl ?_
                    refine J.goto 436 dL_law_616 (by decide) ?_
                    exact J.fgt (by exact ⟨Or.inr rfl, Or.inr rfl, Or.inr rfl, Or.inr rfl, Or.inr rfl, Or.inr rfl, Or.inr rfl, Or.inr rfl, Or.inl rfl, Or.inr rfl, Or.inr rfl, Or.inr rfl, Or.inr rfl, Or.inr rfl, Or.inr rfl, Or.inr rfl, Or.inr rfl, Or.inr rfl, Or.inl rfl, Or.inl rfl, Or.inl rfl, Or.inl rfl, Or.inl rfl, Or.inl rfl, Or.inl rfl, trivial⟩) (kx _ _ _ _ _ hA hx p0 hR)
                · skip
                  simp only [if_pos h575] at hA
                  refine I.iinc dL_law_578 rfl rfl ?_
                  refine J.iload dL_law_581 rfl ?_
                  refine I.if_ge 590 dL_law_583 (by decide) (by omega) (fun h583 => ?_) (fun h583 => ?_)
                  · skip
                    simp only [if_neg (show ¬ fo < 0 by omega)] at hA
                    refine J.iload dL_law_590 rfl ?_
                    refine J.iload dL_law_592 rfl ?_
                    refine I.icmp_ge 601 dL_law_594 (by decide) (by omega) (by omega) (fun h594 => ?_) (fun h594 => ?_)
                    · skip
                      simp only [if_neg (show ¬ (gPt (aF a) (2 * (c : Int) + 0) - gWf (gRem (aF a) (2 * (c : Int) + 0))) < mn by omega)] at hA
                      refine J.iload dL_law_601 rfl ?_
                      refine J.iload dL_law_603 rfl ?_
                      refine I.mmin dL_law_605 lL_263 (by omega) (by omega) (Nat.le_of_ble_eq_true rfl) ?_
                      refine J.istore dL_law_608 (by decide) rfl ?_
                      refine I.iinc dL_law_610 rfl rfl ?_
                      refine I.iinc dL_law_613 rfl rfl ?_
                      refine J.goto 436 dL_law_616 (by decide) ?_
                      exact J.fgt (by exact ⟨Or.inr rfl, Or.inr rfl, Or.inr rfl, Or.inr rfl, Or.inr rfl, Or.inr rfl, Or.inr rfl, Or.inr rfl, Or.inl rfl, Or.inr rfl, Or.inr rfl, Or.inr rfl, Or.inr rfl, Or.inr rfl, Or.inr rfl, Or.inr rfl, Or.inr rfl, Or.inr rfl, Or.inl rfl, Or.inl rfl, Or.inl rfl, Or.inl rfl, Or.inl rfl, Or.inl rfl, Or.inl rfl, trivial⟩) (kx _ _ _ _ _ hA hx p0 hR)
                    · skip
                      simp only [if_pos (show (gPt (aF a) (2 * (c : Int) + 0) - gWf (gRem (aF a) (2 * (c : Int) + 0))) < mn by omega)] at hA
                      refine J.iload dL_law_597 rfl ?_
                      refine J.istore dL_law_599 (by decide) rfl ?_
                      refine J.iload dL_law_601 rfl ?_
                      refine J.iload dL_law_603 rfl ?_
                      refine I.mmin dL_law_605 lL_263 (by omega) (by omega) (Nat.le_of_ble_eq_true rfl) ?_
                      refine J.istore dL_law_608 (by decide) rfl ?_
                      refine I.iinc dL_law_610 rfl rfl ?_
                      refine I.iinc dL_law_613 rfl rfl ?_
                      refine J.goto 436 dL_law_616 (by decide) ?_
                      exact J.fgt (by exact ⟨Or.inr rfl, Or.inr rfl, Or.inr rfl, Or.inr rfl, Or.inr rfl, Or.inr rfl, Or.inr rfl, Or.inr rfl, Or.inl rfl, Or.inr rfl, Or.inr rfl, Or.inr rfl, Or.inr rfl, Or.inr rfl, Or.inr rfl, Or.inr rfl, Or.inr rfl, Or.inr rfl, Or.inl rfl, Or.inl rfl, Or.inl rfl, Or.inl rfl, Or.inl rfl, Or.inl rfl, Or.inl rfl, trivial⟩) (kx _ _ _ _ _ hA hx p0 hR)
                  · skip
                    simp only [if_pos (show fo < 0 by omega)] at hA
                    refine J.iload dL_law_586 rfl ?_
                    refine J.istore dL_law_588 (by decide) rfl ?_
                    refine J.iload dL_law_590 rfl ?_
                    refine J.iload dL_law_592 rfl ?_
                    refine I.icmp_ge 601 dL_law_594 (by decide) (by omega) (by omega) (fun h594 => ?_) (fun h594 => ?_)
                    · skip
                      simp only [if_neg (show ¬ (gPt (aF a) (2 * (c : Int) + 0) - gWf (gRem (aF a) (2 * (c : Int) + 0))) < mn by omega)] at hA
                      refine J.iload dL_law_601 rfl ?_
                      refine J.iload dL_law_603 rfl ?_
                      refine I.mmin dL_law_605 lL_263 (by omega) (by omega) (Nat.le_of_ble_eq_true rfl) ?_
                      refine J.istore dL_law_608 (by decide) rfl ?_
                      refine I.iinc dL_law_610 rfl rfl ?_
                      refine I.iinc dL_law_613 rfl rfl ?_
                      refine J.goto 436 dL_law_616 (by decide) ?_
                      exact J.fgt (by exact ⟨Or.inr rfl, Or.inr rfl, Or.inr rfl, Or.inr rfl, Or.inr rfl, Or.inr rfl, Or.inr rfl, Or.inr rfl, Or.inl rfl, Or.inr rfl, Or.inr rfl, Or.inr rfl, Or.inr rfl, Or.inr rfl, Or.inr rfl, Or.inr rfl, Or.inr rfl, Or.inr rfl, Or.inl rfl, Or.inl rfl, Or.inl rfl, Or.inl rfl, Or.inl rfl, Or.inl rfl, Or.inl rfl, trivial⟩) (kx _ _ _ _ _ hA hx p0 hR)
                    · skip
                      simp only [if_pos (show (gPt (aF a) (2 * (c : Int) + 0) - gWf (gRem (aF a) (2 * (c : Int) + 0))) < mn by omega)] at hA
                      refine J.iload dL_law_597 rfl ?_
                      refine J.istore dL_law_599 (by decide) rfl ?_
                      refine J.iload dL_law_601 rfl ?_
                      refine J.iload dL_law_603 rfl ?_
                      refine I.mmin dL_law_605 lL_263 (by omega) (by omega) (Nat.le_of_ble_eq_true rfl) ?_
                      refine J.istore dL_law_608 (by decide) rfl ?_
                      refine I.iinc dL_law_610 rfl rfl ?_
                      refine I.iinc dL_law_613 rfl rfl ?_
                      refine J.goto 436 dL_law_616 (by decide) ?_
                      exact J.fgt (by exact ⟨Or.inr rfl, Or.inr rfl, Or.inr rfl, Or.inr rfl, Or.inr rfl, Or.inr rfl, Or.inr rfl, Or.inr rfl, Or.inl rfl, Or.inr rfl, Or.inr rfl, Or.inr rfl, Or.inr rfl, Or.inr rfl, Or.inr rfl, Or.inr rfl, Or.inr rfl, Or.inr rfl, Or.inl rfl, Or.inl rfl, Or.inl rfl, Or.inl rfl, Or.inl rfl, Or.inl rfl, Or.inl rfl, trivial⟩) (kx _ _ _ _ _ hA hx p0 hR)
              · exact absurd h566 (by omega)
  · skip
    have hcI : (0 : Int) ≤ c ∧ (c : Int) < n := by omega
    have bz : gBn (aF a) (2 * (c : Int) + 1) := ⟨by omega, by rw [show (2 * (c : Int) + 1) / 2 = (c : Int) by omega]; omega⟩
    have h6 : (2 * (c : Int) + 1) ≠ 6 := by omega
    have hg : FL (gRem (aF a) (2 * (c : Int) + 1)) ∧ FS (gRem (aF a) (2 * (c : Int) + 1)) := ⟨gRem_FL hl' hv' bz, gRem_FS hl' hv' bz⟩
    have hb2 : BR sh t (up s en (2 * (c : Int) + 1) (s en (2 * (c : Int) + 1) + -1)) sc en n (gRem (aF a) (2 * (c : Int) + 1)) (fun c => (aF a) (34 + c)) := hbr.rem hl' hv' bz (by rw [if_neg (by omega)])
    obtain ⟨⟨z0, z6, zn⟩, r, mm, e3, e4, e5, e6, e7, e8, e9⟩ := hbr.atz hl' hv' bz
    rw [show (2 * (c : Int) + 1) / 2 = (c : Int) by omega] at e3
    have ech : gChn (2 * (c : Int) + 1) = (c : Int) := by unfold gChn; rw [if_neg h6]; omega
    have rP := gPt_rng hl' hv' bz.ok
    have rG := gWf_rng hg.1 hg.2
    have hA := hAC.step hl' hv' ho (v := (gPt (aF a) (2 * (c : Int) + 1) - gWf (gRem (aF a) (2 * (c : Int) + 1)))) (by rw [hz]; exact gVal_b h6)
    refine J.aload dL_law_442 rfl ?_
    refine J.iload dL_law_444 rfl ?_
    refine Y.raald dL_law_446 hsc (by omega) (by omega) e3 ?_
    refine J.aload dL_law_447 rfl ?_
    refine I.iconst dL_law_449 ?_
    refine J.iload dL_law_450 rfl ?_
    refine I.mul dL_law_452 ?_
    refine J.iload dL_law_453 rfl ?_
    refine I.add dL_law_455 ?_
    refine Y.iald dL_law_456 hen (by omega) (by omega) ?_
    refine Y.iald dL_law_457 e5 (by omega) (by omega) ?_
    refine I.sx e9 ?_
    refine J.istore dL_law_458 (by decide) rfl ?_
    refine J.aload dL_law_460 rfl ?_
    refine I.iconst dL_law_462 ?_
    refine J.iload dL_law_463 rfl ?_
    refine I.mul dL_law_465 ?_
    refine J.iload dL_law_466 rfl ?_
    refine I.add dL_law_468 ?_
    refine J.dup2 dL_law_469 ?_
    refine Y.iald dL_law_470 hen (by omega) (by omega) ?_
    refine J.iload dL_law_471 rfl ?_
    refine I.if_ne 480 dL_law_473 (by decide) (by omega) (fun h473 => ?_) (fun h473 => ?_)
    · skip
      refine I.iconst dL_law_480 ?_
      refine I.add dL_law_481 ?_
      refine Y.iast dL_law_482 hen (by omega) (by omega) ?_
      refine J.iload dL_law_483 rfl ?_
      refine J.aload dL_law_485 rfl ?_
      refine J.aload dL_law_487 rfl ?_
      refine I.iconst dL_law_489 ?_
      refine Y.callS (d' := 40) (mi' := mL_best) [.ref sc, .ref en, .int (iI 0)] dL_law_490 lL_190 eL_best rfl (by show 40 + 1 ≤ dd; omega) (c_best hl 21 40 (by decide) hg.1 hg.2 (gBurns_rng hg.1 hg.2).2 hb2 (Or.inl rfl)) (Nat.le_of_ble_eq_true rfl) ?_
      refine I.sub dL_law_493 ?_
      refine J.istore dL_law_494 (by decide) rfl ?_
      refine J.aload dL_law_496 rfl ?_
      refine I.iconst dL_law_498 ?_
      refine J.iload dL_law_499 rfl ?_
      refine I.mul dL_law_501 ?_
      refine J.iload dL_law_502 rfl ?_
      refine I.add dL_law_504 ?_
      refine J.dup2 dL_law_505 ?_
      refine Y.iald dL_law_506 hen (by omega) (by omega) ?_
      refine I.sx (up_eq s en (2 * (c : Int) + 1) (s en (2 * (c : Int) + 1) + -1)) ?_
      refine J.iload dL_law_507 rfl ?_
      refine I.if_ne 516 dL_law_509 (by decide) (by omega) (fun h509 => ?_) (fun h509 => ?_)
      · skip
        refine I.iconst dL_law_516 ?_
        refine I.sub dL_law_517 ?_
        refine Y.iast dL_law_518 hen (by omega) (by omega) ?_
        rw [up_up2, up_own2 (by omega)]
        refine J.aload_n 1 dL_law_519 rfl rfl ?_
        refine J.iload dL_law_520 rfl ?_
        refine I.iconst dL_law_522 ?_
        refine Z.wrap (d' := 40) (β := 1) (γ := 6) (mi' := mL_move) hp [.int (iI i), .int (iI 4)] dL_law_523 lL_101 eL_move (by omega) (w_move4 hl p0.m p0.so (by decide) (by omega)) (fun v h => by simp only [List.mem_cons, List.not_mem_nil, or_false] at h; rcases h with rfl | rfl <;> exact ⟨_, rfl⟩) (fun w s' h => by rcases h with ⟨_, _, h⟩ | ⟨_, _, h⟩ <;> first | exact (p0.cfr h).2 | (rw [h]; exact HiE.refl)) (Nat.le_of_ble_eq_true rfl) ?_
        rintro w s' (⟨-, rfl, hF⟩ | ⟨h, -⟩)
        rotate_left
        · exact absurd hii h
        obtain ⟨p9, hh⟩ := p0.cfr hF
        replace p0 := p9
        replace hx := hx.hi hp hh
        replace hR := hR.hi hh
        rw [hz, gVal_b h6]
        refine J.iload dL_law_526 rfl ?_
        refine I.icmp_ne 569 dL_law_528 (by decide) (by omega) (by omega) (fun h528 => ?_) (fun h528 => ?_)
        · exact absurd h528 (by omega)
        · skip
          refine J.aload_n 1 dL_law_531 rfl rfl ?_
          refine J.iload dL_law_532 rfl ?_
          refine I.iconst dL_law_534 ?_
          refine Z.wrap (d' := 40) (β := 1) (γ := 6) (mi' := mL_move) hp [.int (iI i), .int (iI 1)] dL_law_535 lL_101 eL_move (by omega) (w_move1 hl p0.m (by decide) (by omega)) (fun v h => by simp only [List.mem_cons, List.not_mem_nil, or_false] at h; rcases h with rfl | rfl <;> exact ⟨_, rfl⟩) (fun w s' h => by rcases h with ⟨_, _, h⟩ | ⟨_, _, h⟩ <;> first | exact (p0.cfr h).2 | (rw [h]; exact HiE.refl)) (Nat.le_of_ble_eq_true rfl) ?_
          rintro w s' (⟨-, rfl, ee⟩ | ⟨h, -⟩)
          rotate_left
          · exact absurd hii h
          have ee := ee.symm
          subst ee
          rw [hz]
          refine J.iload dL_law_538 rfl ?_
          refine I.icmp_ne 569 dL_law_540 (by decide) (by omega) (by omega) (fun h540 => ?_) (fun h540 => ?_)
          · exact absurd h540 (by omega)
          · skip
            refine J.aload_n 1 dL_law_543 rfl rfl ?_
            refine J.iload dL_law_544 rfl ?_
            refine I.iconst dL_law_546 ?_
            refine Z.wrap (d' := 40) (β := 1) (γ := 6) (mi' := mL_move) hp [.int (iI i), .int (iI 0)] dL_law_547 lL_101 eL_move (by omega) (w_move0 hl p0.m (by decide) (by omega)) (fun v h => by simp only [List.mem_cons, List.not_mem_nil, or_false] at h; rcases h with rfl | rfl <;> exact ⟨_, rfl⟩) (fun w s' h => by rcases h with ⟨_, _, h⟩ | ⟨_, _, h⟩ <;> first | exact (p0.cfr h).2 | (rw [h]; exact HiE.refl)) (Nat.le_of_ble_eq_true rfl) ?_
            rintro w s' (⟨-, rfl, ee⟩ | ⟨h, -⟩)
            rotate_left
            · exact absurd hii h
            have ee := ee.symm
            subst ee
            rw [hz, ech]
            refine J.iload dL_law_550 rfl ?_
            refine I.icmp_ne 569 dL_law_552 (by decide) (by omega) (by omega) (fun h552 => ?_) (fun h552 => ?_)
            · exact absurd h552 (by omega)
            · skip
              refine J.aload_n 1 dL_law_555 rfl rfl ?_
              refine J.iload dL_law_556 rfl ?_
              refine I.iconst dL_law_558 ?_
              refine Z.wrap (d' := 40) (β := 1) (γ := 6) (mi' := mL_move) hp [.int (iI i), .int (iI 3)] dL_law_559 lL_101 eL_move (by omega) (w_move3 hl p0.m (by decide) (by omega)) (fun v h => by simp only [List.mem_cons, List.not_mem_nil, or_false] at h; rcases h with rfl | rfl <;> exact ⟨_, rfl⟩) (fun w s' h => by rcases h with ⟨_, _, h⟩ | ⟨_, _, h⟩ <;> first | exact (p0.cfr h).2 | (rw [h]; exact HiE.refl)) (Nat.le_of_ble_eq_true rfl) ?_
              rintro w s' (⟨-, rfl, ee⟩ | ⟨h, -⟩)
              rotate_left
              · exact absurd hii h
              have ee := ee.symm
              subst ee
              rw [hz, bI_f (p := (2 * (c : Int) + 1) ≠ 6 ∧ (2 * (c : Int) + 1) % 2 = 0) (fun h => by omega)]
              refine I.iconst dL_law_562 ?_
              refine J.iload dL_law_563 rfl ?_
              refine I.sub dL_law_565 ?_
              refine I.icmp_eq 571 dL_law_566 (by decide) (by omega) (by omega) (fun h566 => ?_) (fun h566 => ?_)
              · skip
                refine J.iload dL_law_571 rfl ?_
                refine J.iload dL_law_573 rfl ?_
                refine I.icmp_ne 590 dL_law_575 (by decide) (by omega) (by omega) (fun h575 => ?_) (fun h575 => ?_)
                · skip
                  simp only [if_neg h575] at hA
                  refine J.iload dL_law_590 rfl ?_
                  refine J.iload dL_law_592 rfl ?_
                  refine I.icmp_ge 601 dL_law_594 (by decide) (by omega) (by omega) (fun h594 => ?_) (fun h594 => ?_)
                  · skip
                    simp only [if_neg (show ¬ (gPt (aF a) (2 * (c : Int) + 1) - gWf (gRem (aF a) (2 * (c : Int) + 1))) < mn by omega)] at hA
                    refine J.iload dL_law_601 rfl ?_
                    refine J.iload dL_law_603 rfl ?_
                    refine I.mmin dL_law_605 lL_263 (by omega) (by omega) (Nat.le_of_ble_eq_true rfl) ?_
                    refine J.istore dL_law_608 (by decide) rfl ?_
                    refine I.iinc dL_law_610 rfl rfl ?_
                    refine I.iinc dL_law_613 rfl rfl ?_
                    refine J.goto 436 dL_law_616 (by decide) ?_
                    exact J.fgt (by exact ⟨Or.inr rfl, Or.inr rfl, Or.inr rfl, Or.inr rfl, Or.inr rfl, Or.inr rfl, Or.inr rfl, Or.inr rfl, Or.inl rfl, Or.inr rfl, Or.inr rfl, Or.inr rfl, Or.inr rfl, Or.inr rfl, Or.inr rfl, Or.inr rfl, Or.inr rfl, Or.inr rfl, Or.inl rfl, Or.inl rfl, Or.inl rfl, Or.inl rfl, Or.inl rfl, Or.inl rfl, Or.inl rfl, trivial⟩) (kx _ _ _ _ _ hA hx p0 hR)
                  · skip
                    simp only [if_pos (show (gPt (aF a) (2 * (c : Int) + 1) - gWf (gRem (aF a) (2 * (c : Int) + 1))) < mn by omega)] at hA
                    refine J.iload dL_law_597 rfl ?_
                    refine J.istore dL_law_599 (by decide) rfl ?_
                    refine J.iload dL_law_601 rfl ?_
                    refine J.iload dL_law_603 rfl ?_
                    refine I.mmin dL_law_605 lL_263 (by omega) (by omega) (Nat.le_of_ble_eq_true rfl) ?_
                    refine J.istore dL_law_608 (by decide) rfl ?_
                    refine I.iinc dL_law_610 rfl rfl ?_
                    refine I.iinc dL_law_613 rfl rfl ?_
                    refine J.goto 436 dL_law_616 (by decide) ?_
                    exact J.fgt (by exact ⟨Or.inr rfl, Or.inr rfl, Or.inr rfl, Or.inr rfl, Or.inr rfl, Or.inr rfl, Or.inr rfl, Or.inr rfl, Or.inl rfl, Or.inr rfl, Or.inr rfl, Or.inr rfl, Or.inr rfl, Or.inr rfl, Or.inr rfl, Or.inr rfl, Or.inr rfl, Or.inr rfl, Or.inl rfl, Or.inl rfl, Or.inl rfl, Or.inl rfl, Or.inl rfl, Or.inl rfl, Or.inl rfl, trivial⟩) (kx _ _ _ _ _ hA hx p0 hR)
                · skip
                  simp only [if_pos h575] at hA
                  refine I.iinc dL_law_578 rfl rfl ?_
                  refine J.iload dL_law_581 rfl ?_
                  refine I.if_ge 590 dL_law_583 (by decide) (by omega) (fun h583 => ?_) (fun h583 => ?_)
                  · skip
                    simp only [if_neg (show ¬ fo < 0 by omega)] at hA
                    refine J.iload dL_law_590 rfl ?_
                    refine J.iload dL_law_592 rfl ?_
                    refine I.icmp_ge 601 dL_law_594 (by decide) (by omega) (by omega) (fun h594 => ?_) (fun h594 => ?_)
                    · skip
                      simp only [if_neg (show ¬ (gPt (aF a) (2 * (c : Int) + 1) - gWf (gRem (aF a) (2 * (c : Int) + 1))) < mn by omega)] at hA
                      refine J.iload dL_law_601 rfl ?_
                      refine J.iload dL_law_603 rfl ?_
                      refine I.mmin dL_law_605 lL_263 (by omega) (by omega) (Nat.le_of_ble_eq_true rfl) ?_
                      refine J.istore dL_law_608 (by decide) rfl ?_
                      refine I.iinc dL_law_610 rfl rfl ?_
                      refine I.iinc dL_law_613 rfl rfl ?_
                      refine J.goto 436 dL_law_616 (by decide) ?_
                      exact J.fgt (by exact ⟨Or.inr rfl, Or.inr rfl, Or.inr rfl, Or.inr rfl, Or.inr rfl, Or.inr rfl, Or.inr rfl, Or.inr rfl, Or.inl rfl, Or.inr rfl, Or.inr rfl, Or.inr rfl, Or.inr rfl, Or.inr rfl, Or.inr rfl, Or.inr rfl, Or.inr rfl, Or.inr rfl, Or.inl rfl, Or.inl rfl, Or.inl rfl, Or.inl rfl, Or.inl rfl, Or.inl rfl, Or.inl rfl, trivial⟩) (kx _ _ _ _ _ hA hx p0 hR)
                    · skip
                      simp only [if_pos (show (gPt (aF a) (2 * (c : Int) + 1) - gWf (gRem (aF a) (2 * (c : Int) + 1))) < mn by omega)] at hA
                      refine J.iload dL_law_597 rfl ?_
                      refine J.istore dL_law_599 (by decide) rfl ?_
                      refine J.iload dL_law_601 rfl ?_
                      refine J.iload dL_law_603 rfl ?_
                      refine I.mmin dL_law_605 lL_263 (by omega) (by omega) (Nat.le_of_ble_eq_true rfl) ?_
                      refine J.istore dL_law_608 (by decide) rfl ?_
                      refine I.iinc dL_law_610 rfl rfl ?_
                      refine I.iinc dL_law_613 rfl rfl ?_
                      refine J.goto 436 dL_law_616 (by decide) ?_
                      exact J.fgt (by exact ⟨Or.inr rfl, Or.inr rfl, Or.inr rfl, Or.inr rfl, Or.inr rfl, Or.inr rfl, Or.inr rfl, Or.inr rfl, Or.inl rfl, Or.inr rfl, Or.inr rfl, Or.inr rfl, Or.inr rfl, Or.inr rfl, Or.inr rfl, Or.inr rfl, Or.inr rfl, Or.inr rfl, Or.inl rfl, Or.inl rfl, Or.inl rfl, Or.inl rfl, Or.inl rfl, Or.inl rfl, Or.inl rfl, trivial⟩) (kx _ _ _ _ _ hA hx p0 hR)
                  · skip
                    simp only [if_pos (show fo < 0 by omega)] at hA
                    refine J.iload dL_law_586 rfl ?_
                    refine J.istore dL_law_588 (by decide) rfl ?_
                    refine J.iload dL_law_590 rfl ?_
                    refine J.iload dL_law_592 rfl ?_
                    refine I.icmp_ge 601 dL_law_594 (by decide) (by omega) (by omega) (fun h594 => ?_) (fun h594 => ?_)
                    · skip
                      simp only [if_neg (show ¬ (gPt (aF a) (2 * (c : Int) + 1) - gWf (gRem (aF a) (2 * (c : Int) + 1))) < mn by omega)] at hA
                      refine J.iload dL_law_601 rfl ?_
                      refine J.iload dL_law_603 rfl ?_
                      refine I.mmin dL_law_605 lL_263 (by omega) (by omega) (Nat.le_of_ble_eq_true rfl) ?_
                      refine J.istore dL_law_608 (by decide) rfl ?_
                      refine I.iinc dL_law_610 rfl rfl ?_
                      refine I.iinc dL_law_613 rfl rfl ?_
                      refine J.goto 436 dL_law_616 (by decide) ?_
                      exact J.fgt (by exact ⟨Or.inr rfl, Or.inr rfl, Or.inr rfl, Or.inr rfl, Or.inr rfl, Or.inr rfl, Or.inr rfl, Or.inr rfl, Or.inl rfl, Or.inr rfl, Or.inr rfl, Or.inr rfl, Or.inr rfl, Or.inr rfl, Or.inr rfl, Or.inr rfl, Or.inr rfl, Or.inr rfl, Or.inl rfl, Or.inl rfl, Or.inl rfl, Or.inl rfl, Or.inl rfl, Or.inl rfl, Or.inl rfl, trivial⟩) (kx _ _ _ _ _ hA hx p0 hR)
                    · skip
                      simp only [if_pos (show (gPt (aF a) (2 * (c : Int) + 1) - gWf (gRem (aF a) (2 * (c : Int) + 1))) < mn by omega)] at hA
                      refine J.iload dL_law_597 rfl ?_
                      refine J.istore dL_law_599 (by decide) rfl ?_
                      refine J.iload dL_law_601 rfl ?_
                      refine J.iload dL_law_603 rfl ?_
                      refine I.mmin dL_law_605 lL_263 (by omega) (by omega) (Nat.le_of_ble_eq_true rfl) ?_
                      refine J.istore dL_law_608 (by decide) rfl ?_
                      refine I.iinc dL_law_610 rfl rfl ?_
                      refine I.iinc dL_law_613 rfl rfl ?_
                      refine J.goto 436 dL_law_616 (by decide) ?_
                      exact J.fgt (by exact ⟨Or.inr rfl, Or.inr rfl, Or.inr rfl, Or.inr rfl, Or.inr rfl, Or.inr rfl, Or.inr rfl, Or.inr rfl, Or.inl rfl, Or.inr rfl, Or.inr rfl, Or.inr rfl, Or.inr rfl, Or.inr rfl, Or.inr rfl, Or.inr rfl, Or.inr rfl, Or.inr rfl, Or.inl rfl, Or.inl rfl, Or.inl rfl, Or.inl rfl, Or.inl rfl, Or.inl rfl, Or.inl rfl, trivial⟩) (kx _ _ _ _ _ hA hx p0 hR)
              · exact absurd h566 (by omega)
      · exact absurd h509 (by omega)
    · exact absurd h473 (by omega)
