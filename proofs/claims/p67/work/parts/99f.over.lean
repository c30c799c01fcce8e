/-! the law: a round that is over, the end -/
set_option maxHeartbeats 2000000 in
theorem k_final {Γ : jE} (hl : Γ.1.stackTraces = false) {dd B C : Nat} {a : AS} {P : Option Value → jM → Prop} (hd : 60 ≤ dd) (hP : ∀ M, P (some (.int (iI 1))) M) (p1 : AI a) {sh : List (Nat × Nat)} {t : Nat → Nat → Option Nat} {s : Nat → Int → Int} (hp : PF sh t) (p0 : CI s a) : J Γ (dd, B + 20, C + 200) mLw 1046 [some (.ref 2000000), some (.ref 0), none, none, none, none, none, none, none, none, none, none, none, none, none, none, none, none, none, none, none, none, none, none, none] [] (jmx sh t s) P X0 := by
  have hl' := p1.1.1
  have hv' := p1.1.2
  have hc := hl'.ch _ hv'.cur.1 hv'.cur.2
  have hmr := gMoves_rng hc
  have hen0 := hv'.ends 0 (Int.le_refl 0) (by omega)
  have hln0 := hl'.len ((aF a) 1) 0 hv'.cur.1 hv'.cur.2 (Int.le_refl 0) (by omega)
  refine J.aload_n 1 dL_law_1046 rfl rfl ?_
  refine J.aload_n 1 dL_law_1047 rfl rfl ?_
  refine Z.pub (d' := 40) (β := 0) (γ := 0) (mi' := mX8_moveCount) hp [] dL_law_1048 lL_153 eX8_moveCount rfl (by omega) (RI.rq (c_X8_moveCount hl (by decide) p0.m)) (fun _ _ h => h) (fun v h => absurd h List.not_mem_nil) (fun w s' h => by rw [h.2]; exact HiE.refl) (Nat.le_of_ble_eq_true rfl) ?_
  rintro w s' ⟨rfl, ee⟩
  have ee := ee.symm
  subst ee
  refine I.iconst dL_law_1051 ?_
  refine Z.wrap (d' := 40) (β := 1) (γ := 6) (mi' := mL_move) hp [.int (iI (gMoves (aF a))), .int (iI 4)] dL_law_1052 lL_101 eL_move (by omega) (w_move4 hl p0.m p0.so (by decide) (by omega)) (fun v h => by simp only [List.mem_cons, List.not_mem_nil, or_false] at h; rcases h with rfl | rfl <;> exact ⟨_, rfl⟩) (fun w s' h => by rcases h with ⟨_, _, h⟩ | ⟨_, _, h⟩ <;> first | exact (p0.cfr h).2 | (rw [h]; exact HiE.refl)) (Nat.le_of_ble_eq_true rfl) ?_
  rintro w s' (⟨h, -, -⟩ | ⟨-, rfl, ee⟩)
  · exact absurd h (by omega)
  have ee := ee.symm
  subst ee
  refine I.sipush dL_law_1055 (by decide) ?_
  refine I.icmp_ne 1101 dL_law_1058 (by decide) (by omega) (by omega) (fun h1058 => ?_) (fun h1058 => ?_)
  · exact absurd h1058 (by omega)
  · skip
    refine J.aload_n 1 dL_law_1061 rfl rfl ?_
    refine I.iconst dL_law_1062 ?_
    refine I.iconst dL_law_1063 ?_
    refine Z.wrap (d' := 40) (β := 1) (γ := 6) (mi' := mL_move) hp [.int (iI (-1)), .int (iI 1)] dL_law_1064 lL_101 eL_move (by omega) (w_move1 hl p0.m (by decide) (by decide)) (fun v h => by simp only [List.mem_cons, List.not_mem_nil, or_false] at h; rcases h with rfl | rfl <;> exact ⟨_, rfl⟩) (fun w s' h => by rcases h with ⟨_, _, h⟩ | ⟨_, _, h⟩ <;> first | exact (p0.cfr h).2 | (rw [h]; exact HiE.refl)) (Nat.le_of_ble_eq_true rfl) ?_
    rintro w s' (⟨h, -, -⟩ | ⟨-, rfl, ee⟩)
    · exact absurd h (by omega)
    have ee := ee.symm
    subst ee
    refine I.sipush dL_law_1067 (by decide) ?_
    refine I.icmp_ne 1101 dL_law_1070 (by decide) (by omega) (by omega) (fun h1070 => ?_) (fun h1070 => ?_)
    · exact absurd h1070 (by omega)
    · skip
      refine J.aload_n 1 dL_law_1073 rfl rfl ?_
      refine I.iconst dL_law_1074 ?_
      refine Z.wrap (d' := 40) (β := 1) (γ := 6) (mi' := mL_single) hp [.int (iI 3)] dL_law_1075 lL_223 eL_single (by omega) (w_single hl p0.m p0.so (by decide) (by decide)) (fun v h => by simp only [List.mem_cons, List.not_mem_nil, or_false] at h; rcases h with rfl; exact ⟨_, rfl⟩) (fun w s' h => by rcases h with ⟨_, _, h⟩ | ⟨_, _, h⟩ <;> first | exact (p0.cfr h).2 | (rw [h]; exact HiE.refl)) (Nat.le_of_ble_eq_true rfl) ?_
      rintro w s' (⟨h, -, -⟩ | ⟨-, rfl, ee⟩)
      · exact absurd h (by omega)
      have ee := ee.symm
      subst ee
      refine I.sipush dL_law_1078 (by decide) ?_
      refine I.icmp_ne 1101 dL_law_1081 (by decide) (by omega) (by omega) (fun h1081 => ?_) (fun h1081 => ?_)
      · exact absurd h1081 (by omega)
      · skip
        refine J.aload_n 1 dL_law_1084 rfl rfl ?_
        refine I.iconst dL_law_1085 ?_
        refine I.bipush dL_law_1086 (by decide) ?_
        refine I.iconst dL_law_1088 ?_
        refine Z.wrap (d' := 40) (β := 2) (γ := 12) (mi' := mL_pips) hp [.int (iI 0), .int (iI 8), .int (iI 0)] dL_law_1089 lL_162 eL_pips (by omega) (w_left hl p0.m (by decide) (by decide) (by decide) (by omega)) (fun v h => by simp only [List.mem_cons, List.not_mem_nil, or_false] at h; rcases h with rfl | rfl | rfl <;> exact ⟨_, rfl⟩) (fun w s' h => by rw [h.2]; exact HiE.refl) (Nat.le_of_ble_eq_true rfl) ?_
        rintro w s' ⟨rfl, ee⟩
        have ee := ee.symm
        subst ee
        refine I.bipush dL_law_1092 (by decide) ?_
        refine I.icmp_ne 1101 dL_law_1094 (by decide) (by omega) (by omega) (fun h1094 => ?_) (fun h1094 => ?_)
        · exact absurd h1094 (by omega)
        · skip
          refine I.iconst dL_law_1097 ?_
          refine J.goto 1102 dL_law_1098 (by decide) ?_
          exact J.zret rfl rfl dL_law_1102 (hP _)
set_option maxHeartbeats 4000000 in
theorem k_over {Γ : jE} (hl : Γ.1.stackTraces = false) {dd B C : Nat} {b tn : Int} {n sc en : Nat} {a : AS} {P : Option Value → jM → Prop} (hd : 60 ≤ dd) (hP : ∀ M, P (some (.int (iI 1))) M) (p1 : AI a) {sh : List (Nat × Nat)} {t : Nat → Nat → Option Nat} {s : Nat → Int → Int} (hp : PF sh t) (p0 : CI s a) (ho : gOver (aF a)) : J Γ (dd, B + 40, C + 400) mLw 213 [some (.ref 2000000), some (.ref 0), some (.int (iI b)), some (.int (iI tn)), some (.int (iI (n : Int))), some (.ref sc), some (.ref en), none, none, none, none, none, none, none, none, none, none, none, none, none, none, none, none, none, none] [] (jmx sh t s) P X0 := by
  refine J.aload_n 1 dL_law_213 rfl rfl ?_
  refine Z.pub (d' := 40) (β := 0) (γ := 0) (mi' := mX8_optimalDifference) hp [] dL_law_214 lL_226 eX8_optimalDifference rfl (by omega) (c_X8_optimalDifference hl (by decide) p0.m p0.so) (fun _ _ h => h) (fun v h => absurd h List.not_mem_nil) (fun w s' h => (p0.cfr h.2).2) (Nat.le_of_ble_eq_true rfl) ?_
  rintro w s' ⟨rfl, hF⟩
  obtain ⟨p9, hh⟩ := p0.cfr hF
  replace p0 := p9
  rw [gNow_o ho]
  refine I.if_ne 296 dL_law_217 (by decide) (by omega) (fun h217 => ?_) (fun h217 => ?_)
  · exact absurd h217 (by omega)
  · skip
    refine J.aload_n 1 dL_law_220 rfl rfl ?_
    refine Z.wrap (d' := 40) (β := 1) (γ := 6) (mi' := mL_optimal) hp [] dL_law_221 lL_229 eL_optimal (by omega) (w_optimal hl p0.m p0.so (by decide)) (fun v h => absurd h List.not_mem_nil) (fun w s' h => by rcases h with ⟨_, _, h⟩ | ⟨_, _, h⟩ <;> first | exact (p0.cfr h).2 | (rw [h]; exact HiE.refl)) (Nat.le_of_ble_eq_true rfl) ?_
    rintro w s' (⟨h, -, -⟩ | ⟨-, rfl, ee⟩)
    · exact absurd h (fun h => h ho)
    have ee := ee.symm
    subst ee
    refine I.bipush dL_law_224 (by decide) ?_
    refine I.icmp_ne 296 dL_law_226 (by decide) (by omega) (by omega) (fun h226 => ?_) (fun h226 => ?_)
    · exact absurd h226 (by omega)
    · skip
      refine J.aload_n 1 dL_law_229 rfl rfl ?_
      refine Z.pub (d' := 40) (β := 0) (γ := 0) (mi' := mX8_optimalMoveCount) hp [] dL_law_230 lL_232 eX8_optimalMoveCount rfl (by omega) (c_X8_optimalMoveCount hl (by decide) p0.m p0.so) (fun _ _ h => h) (fun v h => absurd h List.not_mem_nil) (fun w s' h => (p0.cfr h.2).2) (Nat.le_of_ble_eq_true rfl) ?_
      rintro w s' ⟨rfl, hF⟩
      obtain ⟨p9, hh⟩ := p0.cfr hF
      replace p0 := p9
      rw [gMany_over ho]
      refine I.if_ne 296 dL_law_233 (by decide) (by omega) (fun h233 => ?_) (fun h233 => ?_)
      · exact absurd h233 (by omega)
      · skip
        refine J.aload_n 1 dL_law_236 rfl rfl ?_
        refine Z.pub (d' := 40) (β := 0) (γ := 0) (mi' := mX8_isPassForced) hp [] dL_law_237 lL_235 eX8_isPassForced rfl (by omega) (c_X8_isPassForced hl (by decide) p0.m p0.so) (fun _ _ h => h) (fun v h => absurd h List.not_mem_nil) (fun w s' h => (p0.cfr h.2).2) (Nat.le_of_ble_eq_true rfl) ?_
        rintro w s' ⟨rfl, hF⟩
        obtain ⟨p9, hh⟩ := p0.cfr hF
        replace p0 := p9
        rw [bI_f (p := gMany (aF a) = 1 ∧ gVal (aF a) 6 = gNow (aF a)) (fun h => by rw [gMany_over ho] at h; exact absurd h.1 (by decide))]
        refine I.if_ne 296 dL_law_240 (by decide) (by omega) (fun h240 => ?_) (fun h240 => ?_)
        · exact absurd h240 (by omega)
        · skip
          refine J.aload_n 1 dL_law_243 rfl rfl ?_
          refine Z.pub (d' := 40) (β := 0) (γ := 0) (mi' := mX8_optimalLineLength) hp [] dL_law_244 lL_238 eX8_optimalLineLength rfl (by omega) (c_X8_optimalLineLength hl (by decide) p0.m p0.so) (fun _ _ h => h) (fun v h => absurd h List.not_mem_nil) (fun w s' h => (p0.cfr h.2).2) (Nat.le_of_ble_eq_true rfl) ?_
          rintro w s' ⟨rfl, hF⟩
          obtain ⟨p9, hh⟩ := p0.cfr hF
          replace p0 := p9
          rw [gCnt_o ho]
          refine I.if_ne 296 dL_law_247 (by decide) (by omega) (fun h247 => ?_) (fun h247 => ?_)
          · exact absurd h247 (by omega)
          · skip
            refine J.aload_n 1 dL_law_250 rfl rfl ?_
            refine Z.wrap (d' := 40) (β := 1) (γ := 6) (mi' := mL_greedy) hp [] dL_law_251 lL_241 eL_greedy (by omega) (w_greedy hl p0.m p0.so (by decide)) (fun v h => absurd h List.not_mem_nil) (fun w s' h => by rcases h with ⟨_, _, h⟩ | ⟨_, _, h⟩ <;> first | exact (p0.cfr h).2 | (rw [h]; exact HiE.refl)) (Nat.le_of_ble_eq_true rfl) ?_
            rintro w s' (⟨h, -, -⟩ | ⟨-, rfl, ee⟩)
            · exact absurd h (fun h => h ho)
            have ee := ee.symm
            subst ee
            refine I.bipush dL_law_254 (by decide) ?_
            refine I.icmp_ne 296 dL_law_256 (by decide) (by omega) (by omega) (fun h256 => ?_) (fun h256 => ?_)
            · exact absurd h256 (by omega)
            · skip
              refine J.aload_n 1 dL_law_259 rfl rfl ?_
              refine Z.pub (d' := 40) (β := 0) (γ := 0) (mi' := mX8_greedyDifference) hp [] dL_law_260 lL_244 eX8_greedyDifference rfl (by omega) (c_X8_greedyDifference hl (by decide) p0.m) (fun _ _ h => h) (fun v h => absurd h List.not_mem_nil) (fun w s' h q i x => h.2 q i (by omega)) (Nat.le_of_ble_eq_true rfl) ?_
              rintro w s' ⟨rfl, hF⟩
              have p9 : CI s' a := p0.keep (p0.so.keep fun q j x => hF q j (by omega)) (fun q j x => hF q j (by omega))
              replace p0 := p9
              rw [show gGreedyDif (aF a) = 0 from gGDif_o ho]
              refine I.if_ne 296 dL_law_263 (by decide) (by omega) (fun h263 => ?_) (fun h263 => ?_)
              · exact absurd h263 (by omega)
              · skip
                refine J.aload_n 1 dL_law_266 rfl rfl ?_
                refine Z.pub (d' := 40) (β := 0) (γ := 0) (mi' := mX8_differenceAgainstGreedy) hp [] dL_law_267 lL_247 eX8_differenceAgainstGreedy rfl (by omega) (c_X8_differenceAgainstGreedy hl (by decide) p0.m p0.so) (fun _ _ h => h) (fun v h => absurd h List.not_mem_nil) (fun w s' h => (p0.cfr h.2).2) (Nat.le_of_ble_eq_true rfl) ?_
                rintro w s' ⟨rfl, hF⟩
                obtain ⟨p9, hh⟩ := p0.cfr hF
                replace p0 := p9
                rw [gDag_o ho]
                refine I.if_ne 296 dL_law_270 (by decide) (by omega) (fun h270 => ?_) (fun h270 => ?_)
                · exact absurd h270 (by omega)
                · skip
                  refine J.aload_n 1 dL_law_273 rfl rfl ?_
                  refine Z.wrap (d' := 40) (β := 1) (γ := 6) (mi' := mL_worst) hp [] dL_law_274 lL_250 eL_worst (by omega) (w_worst hl p0.m p0.so (by decide)) (fun v h => absurd h List.not_mem_nil) (fun w s' h => by rcases h with ⟨_, _, h⟩ | ⟨_, _, h⟩ <;> first | exact (p0.cfr h).2 | (rw [h]; exact HiE.refl)) (Nat.le_of_ble_eq_true rfl) ?_
                  rintro w s' (⟨h, -, -⟩ | ⟨-, rfl, ee⟩)
                  · exact absurd h (fun h => h ho)
                  have ee := ee.symm
                  subst ee
                  refine I.bipush dL_law_277 (by decide) ?_
                  refine I.icmp_ne 296 dL_law_279 (by decide) (by omega) (by omega) (fun h279 => ?_) (fun h279 => ?_)
                  · exact absurd h279 (by omega)
                  · skip
                    refine J.aload_n 1 dL_law_282 rfl rfl ?_
                    refine Z.pub (d' := 40) (β := 0) (γ := 0) (mi' := mX8_greedyAgainstBest) hp [] dL_law_283 lL_253 eX8_greedyAgainstBest rfl (by omega) (c_X8_greedyAgainstBest hl (by decide) p0.m p0.so) (fun _ _ h => h) (fun v h => absurd h List.not_mem_nil) (fun w s' h => (p0.cfr h.2).2) (Nat.le_of_ble_eq_true rfl) ?_
                    rintro w s' ⟨rfl, hF⟩
                    obtain ⟨p9, hh⟩ := p0.cfr hF
                    replace p0 := p9
                    rw [gGab_o ho]
                    refine I.if_ne 296 dL_law_286 (by decide) (by omega) (fun h286 => ?_) (fun h286 => ?_)
                    · exact absurd h286 (by omega)
                    · skip
                      refine J.aload_n 1 dL_law_289 rfl rfl ?_
                      refine Z.pub (d' := 40) (β := 0) (γ := 0) (mi' := mX8_highestEndScore) hp [] dL_law_290 lL_256 eX8_highestEndScore rfl (by omega) (RI.rq (c_X8_highestEndScore hl (by decide) p0.m)) (fun _ _ h => h) (fun v h => absurd h List.not_mem_nil) (fun w s' h => by rw [h.2]; exact HiE.refl) (Nat.le_of_ble_eq_true rfl) ?_
                      rintro w s' ⟨rfl, ee⟩
                      have ee := ee.symm
                      subst ee
                      rw [gHigh_o ho]
                      refine I.if_eq 1046 dL_law_293 (by decide) (by omega) (fun h293 => ?_) (fun h293 => ?_)
                      · skip
                        exact J.fgt (by exact ⟨Or.inr rfl, Or.inr rfl, Or.inl rfl, Or.inl rfl, Or.inl rfl, Or.inl rfl, Or.inl rfl, Or.inl rfl, Or.inl rfl, Or.inl rfl, Or.inl rfl, Or.inl rfl, Or.inl rfl, Or.inl rfl, Or.inl rfl, Or.inl rfl, Or.inl rfl, Or.inl rfl, Or.inl rfl, Or.inl rfl, Or.inl rfl, Or.inl rfl, Or.inl rfl, Or.inl rfl, Or.inl rfl, trivial⟩) (k_final hl hd hP p1 hp p0)
                      · exact absurd h293 (by omega)
