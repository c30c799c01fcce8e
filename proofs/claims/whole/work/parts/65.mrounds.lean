set_option maxHeartbeats 1000000 in
theorem k_X9_readsChain_22 {Γ : jE} (hl : Γ.1.stackTraces = false) {s : Nat → Int → Int} {ε : jEps} {d : Nat} {r : Int} {T : Int → Int} {n q c : Int} {g : Int → Int} (hd : 2 ≤ d) (p0 : PTx T n) (p1 : MD T n s g q) (p2 : pTok T n q) (p3 : g 0 = r + 1 ∧ 0 ≤ r) (p4 : c = g (18 + r) ∧ c < 3) : ∀ (k : Nat) {z : Nat → Int → Int} {t p : Int} {h : Int → Int} (q0 : ((k : Nat) : Int) = 8 - t) (q1 : 0 ≤ t) (q2 : MD T n z h p) (q3 : FrN s z) (q4 : h 0 = r + 1 ∧ 0 ≤ r) (q5 : h (18 + r) = c + 1 ∧ 0 ≤ c) (q6 : t = h (22 + 3 * r + c)) (q7 : pTok T n p), J Γ (d, 0, 0) mX9_readsChain 22 [some (.ref 137), some (.int (iI r)), some (.int (iI (c))), some (.int (iI (t))), none] [] (jmem z ε) (RQ (fun w s' => MR T n s s' w (pC3 T n r c (k + 1) t p h) (MD T n s' (pC3 T n r c (k + 1) t p h).2.2 (pC3 T n r c (k + 1) t p h).2.1)) ε) X0 := by
  have t0 := p0.2
  have f1 := p1.2.2.1
  have f2 := p1.2.2.2.1 r (by omega) (by omega)
  have f3 := (p1.2.2.2.2.1 r c (by omega) (by omega) (by omega) (by omega)).2.2 (by omega)
  intro k
  induction k with
  | zero =>
    intro z t p h q0 q1 q2 q3 q4 q5 q6 q7
    have w := q2.1.w p0
    have a0 := q2.2.2.1
    have a2 := q2.2.2.2.1 r q4.2 (by omega)
    have a3 := q2.2.2.2.2.1 r c q4.2 (by omega) q5.2 (by omega)
    have ks := pSrt_rng _ w.2.1
    have k2 := pSrt_2 (pK T n p)
    refine J.aload_n 0 dX9_readsChain_22 rfl rfl ?_
    refine I.gI 15 rfl dX9_readsChain_23 jcls fX9_172 rfl (by decide) rfl ?_
    refine I.sx q2.1.2.2.2.2 ?_
    refine I.iconst dX9_readsChain_26 ?_
    refine I.icmp_ne 43 dX9_readsChain_27 (by decide) (by omega) (by omega) (fun h27 => ?_) (fun h27 => ?_)
    · skip
      have e9 : pC3 T n r c (0 + 1) t p h = (1, p, h) := pC3_n (by omega)
      refine J.aload_n 0 dX9_readsChain_43 rfl rfl ?_
      refine I.iconst dX9_readsChain_44 ?_
      refine I.callV1i (d' := d - 1) (mi' := mX9_faults) dX9_readsChain_45 lX9_175 eX9_faults rfl rfl (c_X9_faults (d := d - 1) hl (by omega) ) (show d - 1 + 1 ≤ d from by omega) (Nat.le_of_ble_eq_true rfl) ?_
      exact I.zretQ dX9_readsChain_48 rfl (by first | exact Or.inl rfl | exact Or.inr rfl | exact bI_01 _ | omega) (MR.bad q3 q2.1 e9 (by decide))
    · skip
      refine J.aload_n 0 dX9_readsChain_30 rfl rfl ?_
      refine I.gI 13 rfl dX9_readsChain_31 jcls fX9_162 rfl (by decide) rfl ?_
      refine I.sx q2.1.2.2.1 ?_
      refine J.aload_n 0 dX9_readsChain_34 rfl rfl ?_
      refine I.gI 14 rfl dX9_readsChain_35 jcls fX9_169 rfl (by decide) rfl ?_
      refine I.sx q2.1.2.2.2.1 ?_
      refine I.sub dX9_readsChain_38 ?_
      refine I.iconst dX9_readsChain_39 ?_
      refine I.icmp_eq 49 dX9_readsChain_40 (by decide) (by omega) (by omega) (fun h40 => ?_) (fun h40 => ?_)
      · skip
        have kp : pK T n p = 2 := by omega
        have dd : pD T n p 2 := ⟨kp, h40⟩
        have b6 := pT1_rng (T := T) w.1.2.1 kp
        have b7 := pT2_rng dd
        have u1 : pT1 T n p = T (pS T n p) - 48 := rfl
        have u2 : pT2 T n p = T (pS T n p + 1) - 48 := rfl
        have u3 : pTi T n p = 10 * pT1 T n p + pT2 T n p := rfl
        have g1 : gSg (T (pS T n p)) = T (pS T n p) := if_pos (by omega)
        have g2 : gSg (T (pS T n p + 1)) = T (pS T n p + 1) := if_pos (by omega)
        have v1 : pTi T n p / 10 = pT1 T n p := by omega
        have v2 : pTi T n p % 10 = pT2 T n p := by omega
        refine I.bipush dX9_readsChain_49 (by decide) ?_
        refine J.aload_n 0 dX9_readsChain_51 rfl rfl ?_
        refine I.getR dX9_readsChain_52 jcls fX9_13 rfl (by decide) rfl rfl ?_
        refine J.aload_n 0 dX9_readsChain_55 rfl rfl ?_
        refine I.gI 14 rfl dX9_readsChain_56 jcls fX9_169 rfl (by decide) rfl ?_
        refine I.sx q2.1.2.2.2.1 ?_
        refine I.bald dX9_readsChain_59 rfl (by omega) (by omega) ?_
        refine I.sx ((q2.1.1.1 _ (by omega) (by omega)).trans g1) ?_
        refine I.bipush dX9_readsChain_60 (by decide) ?_
        refine I.sub dX9_readsChain_62 ?_
        refine I.mul dX9_readsChain_63 ?_
        refine J.aload_n 0 dX9_readsChain_64 rfl rfl ?_
        refine I.getR dX9_readsChain_65 jcls fX9_13 rfl (by decide) rfl rfl ?_
        refine J.aload_n 0 dX9_readsChain_68 rfl rfl ?_
        refine I.gI 14 rfl dX9_readsChain_69 jcls fX9_169 rfl (by decide) rfl ?_
        refine I.sx q2.1.2.2.2.1 ?_
        refine I.iconst dX9_readsChain_72 ?_
        refine I.add dX9_readsChain_73 ?_
        refine I.bald dX9_readsChain_74 rfl (by omega) (by omega) ?_
        refine I.sx ((q2.1.1.1 _ (by omega) (by omega)).trans g2) ?_
        refine I.add dX9_readsChain_75 ?_
        refine I.bipush dX9_readsChain_76 (by decide) ?_
        refine I.sub dX9_readsChain_78 ?_
        refine I.sx (show _ = pTi T n p by omega) ?_
        refine J.istore dX9_readsChain_79 (by decide) rfl ?_
        refine J.iload dX9_readsChain_81 rfl ?_
        refine I.bipush dX9_readsChain_83 (by decide) ?_
        refine I.div dX9_readsChain_85 (by omega) (by omega) ?_
        refine I.bipush dX9_readsChain_86 (by decide) ?_
        refine I.icmp_gt 101 dX9_readsChain_88 (by decide) (by omega) (by omega) (fun h88 => ?_) (fun h88 => ?_)
        · skip
          have e9 : pC3 T n r c (0 + 1) t p h = (2, p, h) := pC3_e kp (pTE_b dd (by omega)) (by decide)
          refine J.aload_n 0 dX9_readsChain_101 rfl rfl ?_
          refine I.iconst dX9_readsChain_102 ?_
          refine I.callV1i (d' := d - 1) (mi' := mX9_faults) dX9_readsChain_103 lX9_175 eX9_faults rfl rfl (c_X9_faults (d := d - 1) hl (by omega) ) (show d - 1 + 1 ≤ d from by omega) (Nat.le_of_ble_eq_true rfl) ?_
          exact I.zretQ dX9_readsChain_106 rfl (by first | exact Or.inl rfl | exact Or.inr rfl | exact bI_01 _ | omega) (MR.bad q3 q2.1 e9 (by decide))
        · skip
          refine J.iload dX9_readsChain_91 rfl ?_
          refine I.bipush dX9_readsChain_93 (by decide) ?_
          refine I.rem dX9_readsChain_95 (by omega) (by omega) ?_
          refine I.bipush dX9_readsChain_96 (by decide) ?_
          refine I.icmp_le 107 dX9_readsChain_98 (by decide) (by omega) (by omega) (fun h98 => ?_) (fun h98 => ?_)
          · skip
            have n6 : ¬ (6 < pT1 T n p ∨ 6 < pT2 T n p) := by omega
            refine J.iload_n 3 dX9_readsChain_107 rfl rfl ?_
            refine I.if_le 140 dX9_readsChain_108 (by decide) (by omega) (fun h108 => ?_) (fun h108 => ?_)
            · skip
              have n3 : ¬ (0 < t ∧ pT1 T n p ≠ h (gTp r c (t - 1)) % 10) := by omega
              refine J.aload_n 0 dX9_readsChain_140 rfl rfl ?_
              refine J.iload_n 1 dX9_readsChain_141 rfl rfl ?_
              refine J.iload dX9_readsChain_142 rfl ?_
              refine I.callV2i (d' := d - 1) (mi' := mX9_isThere) dX9_readsChain_144 lX9_201 eX9_isThere rfl rfl (c_X9_isThere (d := d - 1) hl (by omega) q2.2.1.1 q2.2.2 (by omega) (by omega)) (show d - 1 + 1 ≤ d from by omega) (Nat.le_of_ble_eq_true rfl) ?_
              refine I.if_eqB 156 dX9_readsChain_147 (by decide) (fun h147 => ?_) (fun h147 => ?_)
              · skip
                refine J.iload_n 3 dX9_readsChain_156 rfl rfl ?_
                refine I.bipush dX9_readsChain_157 (by decide) ?_
                refine I.icmp_ne 168 dX9_readsChain_159 (by decide) (by omega) (by omega) (fun h159 => ?_) (fun h159 => ?_)
                · exact absurd h159 (by omega)
                · skip
                  have e9 : pC3 T n r c (0 + 1) t p h = (5, p, h) := pC3_e kp ((pTE_e dd n6 n3 h147).trans (if_neg (by omega))) (by decide)
                  refine J.aload_n 0 dX9_readsChain_162 rfl rfl ?_
                  refine I.iconst dX9_readsChain_163 ?_
                  refine I.callV1i (d' := d - 1) (mi' := mX9_faults) dX9_readsChain_164 lX9_175 eX9_faults rfl rfl (c_X9_faults (d := d - 1) hl (by omega) ) (show d - 1 + 1 ≤ d from by omega) (Nat.le_of_ble_eq_true rfl) ?_
                  exact I.zretQ dX9_readsChain_167 rfl (by first | exact Or.inl rfl | exact Or.inr rfl | exact bI_01 _ | omega) (MR.bad q3 q2.1 e9 (by decide))
              · skip
                have e9 : pC3 T n r c (0 + 1) t p h = (4, p, h) := pC3_e kp (pTE_d dd n6 n3 h147) (by decide)
                refine J.aload_n 0 dX9_readsChain_150 rfl rfl ?_
                refine I.iconst dX9_readsChain_151 ?_
                refine I.callV1i (d' := d - 1) (mi' := mX9_faults) dX9_readsChain_152 lX9_175 eX9_faults rfl rfl (c_X9_faults (d := d - 1) hl (by omega) ) (show d - 1 + 1 ≤ d from by omega) (Nat.le_of_ble_eq_true rfl) ?_
                exact I.zretQ dX9_readsChain_155 rfl (by first | exact Or.inl rfl | exact Or.inr rfl | exact bI_01 _ | omega) (MR.bad q3 q2.1 e9 (by decide))
            · skip
              refine J.aload_n 0 dX9_readsChain_111 rfl rfl ?_
              refine J.iload_n 1 dX9_readsChain_112 rfl rfl ?_
              refine J.iload_n 2 dX9_readsChain_113 rfl rfl ?_
              refine J.iload_n 3 dX9_readsChain_114 rfl rfl ?_
              refine I.iconst dX9_readsChain_115 ?_
              refine I.sub dX9_readsChain_116 ?_
              refine I.callS3i (d' := d - 1) (mi' := mX9_tilePlace) dX9_readsChain_117 lX9_63 eX9_tilePlace rfl (c_X9_tilePlace (d := d - 1) hl (by omega) ) (show d - 1 + 1 ≤ d from by omega) (Nat.le_of_ble_eq_true rfl) ?_
              have ft := q2.2.2.2.2.2.1 r c (t - 1) q4.2 (by omega) q5.2 (by omega) (by omega) (by omega)
              refine I.callV1i (d' := d - 1) (mi' := mX9_get) dX9_readsChain_120 lX9_46 eX9_get rfl rfl (c_X9_get (d := d - 1) hl (by omega) q2.2.1.1 (by omega)) (show d - 1 + 1 ≤ d from by omega) (Nat.le_of_ble_eq_true rfl) ?_
              refine I.sx (show _ = h (gTp r c (t - 1)) from rfl) ?_
              refine I.bipush dX9_readsChain_123 (by decide) ?_
              refine I.rem dX9_readsChain_125 (by omega) (by omega) ?_
              refine J.iload dX9_readsChain_126 rfl ?_
              refine I.bipush dX9_readsChain_128 (by decide) ?_
              refine I.div dX9_readsChain_130 (by omega) (by omega) ?_
              refine I.icmp_eq 140 dX9_readsChain_131 (by decide) (by omega) (by omega) (fun h131 => ?_) (fun h131 => ?_)
              · skip
                have n3 : ¬ (0 < t ∧ pT1 T n p ≠ h (gTp r c (t - 1)) % 10) := by omega
                refine J.aload_n 0 dX9_readsChain_140 rfl rfl ?_
                refine J.iload_n 1 dX9_readsChain_141 rfl rfl ?_
                refine J.iload dX9_readsChain_142 rfl ?_
                refine I.callV2i (d' := d - 1) (mi' := mX9_isThere) dX9_readsChain_144 lX9_201 eX9_isThere rfl rfl (c_X9_isThere (d := d - 1) hl (by omega) q2.2.1.1 q2.2.2 (by omega) (by omega)) (show d - 1 + 1 ≤ d from by omega) (Nat.le_of_ble_eq_true rfl) ?_
                refine I.if_eqB 156 dX9_readsChain_147 (by decide) (fun h147 => ?_) (fun h147 => ?_)
                · skip
                  refine J.iload_n 3 dX9_readsChain_156 rfl rfl ?_
                  refine I.bipush dX9_readsChain_157 (by decide) ?_
                  refine I.icmp_ne 168 dX9_readsChain_159 (by decide) (by omega) (by omega) (fun h159 => ?_) (fun h159 => ?_)
                  · exact absurd h159 (by omega)
                  · skip
                    have e9 : pC3 T n r c (0 + 1) t p h = (5, p, h) := pC3_e kp ((pTE_e dd n6 n3 h147).trans (if_neg (by omega))) (by decide)
                    refine J.aload_n 0 dX9_readsChain_162 rfl rfl ?_
                    refine I.iconst dX9_readsChain_163 ?_
                    refine I.callV1i (d' := d - 1) (mi' := mX9_faults) dX9_readsChain_164 lX9_175 eX9_faults rfl rfl (c_X9_faults (d := d - 1) hl (by omega) ) (show d - 1 + 1 ≤ d from by omega) (Nat.le_of_ble_eq_true rfl) ?_
                    exact I.zretQ dX9_readsChain_167 rfl (by first | exact Or.inl rfl | exact Or.inr rfl | exact bI_01 _ | omega) (MR.bad q3 q2.1 e9 (by decide))
                · skip
                  have e9 : pC3 T n r c (0 + 1) t p h = (4, p, h) := pC3_e kp (pTE_d dd n6 n3 h147) (by decide)
                  refine J.aload_n 0 dX9_readsChain_150 rfl rfl ?_
                  refine I.iconst dX9_readsChain_151 ?_
                  refine I.callV1i (d' := d - 1) (mi' := mX9_faults) dX9_readsChain_152 lX9_175 eX9_faults rfl rfl (c_X9_faults (d := d - 1) hl (by omega) ) (show d - 1 + 1 ≤ d from by omega) (Nat.le_of_ble_eq_true rfl) ?_
                  exact I.zretQ dX9_readsChain_155 rfl (by first | exact Or.inl rfl | exact Or.inr rfl | exact bI_01 _ | omega) (MR.bad q3 q2.1 e9 (by decide))
              · skip
                have e9 : pC3 T n r c (0 + 1) t p h = (3, p, h) := pC3_e kp (pTE_c dd n6 ⟨by omega, by omega⟩) (by decide)
                refine J.aload_n 0 dX9_readsChain_134 rfl rfl ?_
                refine I.iconst dX9_readsChain_135 ?_
                refine I.callV1i (d' := d - 1) (mi' := mX9_faults) dX9_readsChain_136 lX9_175 eX9_faults rfl rfl (c_X9_faults (d := d - 1) hl (by omega) ) (show d - 1 + 1 ≤ d from by omega) (Nat.le_of_ble_eq_true rfl) ?_
                exact I.zretQ dX9_readsChain_139 rfl (by first | exact Or.inl rfl | exact Or.inr rfl | exact bI_01 _ | omega) (MR.bad q3 q2.1 e9 (by decide))
          · skip
            have e9 : pC3 T n r c (0 + 1) t p h = (2, p, h) := pC3_e kp (pTE_b dd (by omega)) (by decide)
            refine J.aload_n 0 dX9_readsChain_101 rfl rfl ?_
            refine I.iconst dX9_readsChain_102 ?_
            refine I.callV1i (d' := d - 1) (mi' := mX9_faults) dX9_readsChain_103 lX9_175 eX9_faults rfl rfl (c_X9_faults (d := d - 1) hl (by omega) ) (show d - 1 + 1 ≤ d from by omega) (Nat.le_of_ble_eq_true rfl) ?_
            exact I.zretQ dX9_readsChain_106 rfl (by first | exact Or.inl rfl | exact Or.inr rfl | exact bI_01 _ | omega) (MR.bad q3 q2.1 e9 (by decide))
      · skip
        have kp : pK T n p = 2 := by omega
        have nd : ¬ pD T n p 2 := fun x => h40 x.2
        have e9 : pC3 T n r c (0 + 1) t p h = (1, p, h) := pC3_e kp (pTE_a nd) (by decide)
        refine J.aload_n 0 dX9_readsChain_43 rfl rfl ?_
        refine I.iconst dX9_readsChain_44 ?_
        refine I.callV1i (d' := d - 1) (mi' := mX9_faults) dX9_readsChain_45 lX9_175 eX9_faults rfl rfl (c_X9_faults (d := d - 1) hl (by omega) ) (show d - 1 + 1 ≤ d from by omega) (Nat.le_of_ble_eq_true rfl) ?_
        exact I.zretQ dX9_readsChain_48 rfl (by first | exact Or.inl rfl | exact Or.inr rfl | exact bI_01 _ | omega) (MR.bad q3 q2.1 e9 (by decide))
  | succ k ih =>
    intro z t p h q0 q1 q2 q3 q4 q5 q6 q7
    have w := q2.1.w p0
    have a0 := q2.2.2.1
    have a2 := q2.2.2.2.1 r q4.2 (by omega)
    have a3 := q2.2.2.2.2.1 r c q4.2 (by omega) q5.2 (by omega)
    have ks := pSrt_rng _ w.2.1
    have k2 := pSrt_2 (pK T n p)
    refine J.aload_n 0 dX9_readsChain_22 rfl rfl ?_
    refine I.gI 15 rfl dX9_readsChain_23 jcls fX9_172 rfl (by decide) rfl ?_
    refine I.sx q2.1.2.2.2.2 ?_
    refine I.iconst dX9_readsChain_26 ?_
    refine I.icmp_ne 43 dX9_readsChain_27 (by decide) (by omega) (by omega) (fun h27 => ?_) (fun h27 => ?_)
    · skip
      have e9 : pC3 T n r c ((k + 1) + 1) t p h = (1, p, h) := pC3_n (by omega)
      refine J.aload_n 0 dX9_readsChain_43 rfl rfl ?_
      refine I.iconst dX9_readsChain_44 ?_
      refine I.callV1i (d' := d - 1) (mi' := mX9_faults) dX9_readsChain_45 lX9_175 eX9_faults rfl rfl (c_X9_faults (d := d - 1) hl (by omega) ) (show d - 1 + 1 ≤ d from by omega) (Nat.le_of_ble_eq_true rfl) ?_
      exact I.zretQ dX9_readsChain_48 rfl (by first | exact Or.inl rfl | exact Or.inr rfl | exact bI_01 _ | omega) (MR.bad q3 q2.1 e9 (by decide))
    · skip
      refine J.aload_n 0 dX9_readsChain_30 rfl rfl ?_
      refine I.gI 13 rfl dX9_readsChain_31 jcls fX9_162 rfl (by decide) rfl ?_
      refine I.sx q2.1.2.2.1 ?_
      refine J.aload_n 0 dX9_readsChain_34 rfl rfl ?_
      refine I.gI 14 rfl dX9_readsChain_35 jcls fX9_169 rfl (by decide) rfl ?_
      refine I.sx q2.1.2.2.2.1 ?_
      refine I.sub dX9_readsChain_38 ?_
      refine I.iconst dX9_readsChain_39 ?_
      refine I.icmp_eq 49 dX9_readsChain_40 (by decide) (by omega) (by omega) (fun h40 => ?_) (fun h40 => ?_)
      · skip
        have kp : pK T n p = 2 := by omega
        have dd : pD T n p 2 := ⟨kp, h40⟩
        have b6 := pT1_rng (T := T) w.1.2.1 kp
        have b7 := pT2_rng dd
        have u1 : pT1 T n p = T (pS T n p) - 48 := rfl
        have u2 : pT2 T n p = T (pS T n p + 1) - 48 := rfl
        have u3 : pTi T n p = 10 * pT1 T n p + pT2 T n p := rfl
        have g1 : gSg (T (pS T n p)) = T (pS T n p) := if_pos (by omega)
        have g2 : gSg (T (pS T n p + 1)) = T (pS T n p + 1) := if_pos (by omega)
        have v1 : pTi T n p / 10 = pT1 T n p := by omega
        have v2 : pTi T n p % 10 = pT2 T n p := by omega
        refine I.bipush dX9_readsChain_49 (by decide) ?_
        refine J.aload_n 0 dX9_readsChain_51 rfl rfl ?_
        refine I.getR dX9_readsChain_52 jcls fX9_13 rfl (by decide) rfl rfl ?_
        refine J.aload_n 0 dX9_readsChain_55 rfl rfl ?_
        refine I.gI 14 rfl dX9_readsChain_56 jcls fX9_169 rfl (by decide) rfl ?_
        refine I.sx q2.1.2.2.2.1 ?_
        refine I.bald dX9_readsChain_59 rfl (by omega) (by omega) ?_
        refine I.sx ((q2.1.1.1 _ (by omega) (by omega)).trans g1) ?_
        refine I.bipush dX9_readsChain_60 (by decide) ?_
        refine I.sub dX9_readsChain_62 ?_
        refine I.mul dX9_readsChain_63 ?_
        refine J.aload_n 0 dX9_readsChain_64 rfl rfl ?_
        refine I.getR dX9_readsChain_65 jcls fX9_13 rfl (by decide) rfl rfl ?_
        refine J.aload_n 0 dX9_readsChain_68 rfl rfl ?_
        refine I.gI 14 rfl dX9_readsChain_69 jcls fX9_169 rfl (by decide) rfl ?_
        refine I.sx q2.1.2.2.2.1 ?_
        refine I.iconst dX9_readsChain_72 ?_
        refine I.add dX9_readsChain_73 ?_
        refine I.bald dX9_readsChain_74 rfl (by omega) (by omega) ?_
        refine I.sx ((q2.1.1.1 _ (by omega) (by omega)).trans g2) ?_
        refine I.add dX9_readsChain_75 ?_
        refine I.bipush dX9_readsChain_76 (by decide) ?_
        refine I.sub dX9_readsChain_78 ?_
        refine I.sx (show _ = pTi T n p by omega) ?_
        refine J.istore dX9_readsChain_79 (by decide) rfl ?_
        refine J.iload dX9_readsChain_81 rfl ?_
        refine I.bipush dX9_readsChain_83 (by decide) ?_
        refine I.div dX9_readsChain_85 (by omega) (by omega) ?_
        refine I.bipush dX9_readsChain_86 (by decide) ?_
        refine I.icmp_gt 101 dX9_readsChain_88 (by decide) (by omega) (by omega) (fun h88 => ?_) (fun h88 => ?_)
        · skip
          have e9 : pC3 T n r c ((k + 1) + 1) t p h = (2, p, h) := pC3_e kp (pTE_b dd (by omega)) (by decide)
          refine J.aload_n 0 dX9_readsChain_101 rfl rfl ?_
          refine I.iconst dX9_readsChain_102 ?_
          refine I.callV1i (d' := d - 1) (mi' := mX9_faults) dX9_readsChain_103 lX9_175 eX9_faults rfl rfl (c_X9_faults (d := d - 1) hl (by omega) ) (show d - 1 + 1 ≤ d from by omega) (Nat.le_of_ble_eq_true rfl) ?_
          exact I.zretQ dX9_readsChain_106 rfl (by first | exact Or.inl rfl | exact Or.inr rfl | exact bI_01 _ | omega) (MR.bad q3 q2.1 e9 (by decide))
        · skip
          refine J.iload dX9_readsChain_91 rfl ?_
          refine I.bipush dX9_readsChain_93 (by decide) ?_
          refine I.rem dX9_readsChain_95 (by omega) (by omega) ?_
          refine I.bipush dX9_readsChain_96 (by decide) ?_
          refine I.icmp_le 107 dX9_readsChain_98 (by decide) (by omega) (by omega) (fun h98 => ?_) (fun h98 => ?_)
          · skip
            have n6 : ¬ (6 < pT1 T n p ∨ 6 < pT2 T n p) := by omega
            refine J.iload_n 3 dX9_readsChain_107 rfl rfl ?_
            refine I.if_le 140 dX9_readsChain_108 (by decide) (by omega) (fun h108 => ?_) (fun h108 => ?_)
            · skip
              have n3 : ¬ (0 < t ∧ pT1 T n p ≠ h (gTp r c (t - 1)) % 10) := by omega
              refine J.aload_n 0 dX9_readsChain_140 rfl rfl ?_
              refine J.iload_n 1 dX9_readsChain_141 rfl rfl ?_
              refine J.iload dX9_readsChain_142 rfl ?_
              refine I.callV2i (d' := d - 1) (mi' := mX9_isThere) dX9_readsChain_144 lX9_201 eX9_isThere rfl rfl (c_X9_isThere (d := d - 1) hl (by omega) q2.2.1.1 q2.2.2 (by omega) (by omega)) (show d - 1 + 1 ≤ d from by omega) (Nat.le_of_ble_eq_true rfl) ?_
              refine I.if_eqB 156 dX9_readsChain_147 (by decide) (fun h147 => ?_) (fun h147 => ?_)
              · skip
                refine J.iload_n 3 dX9_readsChain_156 rfl rfl ?_
                refine I.bipush dX9_readsChain_157 (by decide) ?_
                refine I.icmp_ne 168 dX9_readsChain_159 (by decide) (by omega) (by omega) (fun h159 => ?_) (fun h159 => ?_)
                · skip
                  have e8 : pC3 T n r c (k + 1 + 1) t p h = pTs T n r c (k + 1) (t + 1) (pN T n p) (gAdd h r c t (pTi T n p)) := pC3_s kp ((pTE_e dd n6 n3 h147).trans (if_pos (by omega)))
                  refine J.aload_n 0 dX9_readsChain_168 rfl rfl ?_
                  refine J.iload_n 1 dX9_readsChain_169 rfl rfl ?_
                  refine J.iload_n 2 dX9_readsChain_170 rfl rfl ?_
                  refine J.iload_n 3 dX9_readsChain_171 rfl rfl ?_
                  refine I.callS3i (d' := d - 1) (mi' := mX9_tilePlace) dX9_readsChain_172 lX9_63 eX9_tilePlace rfl (c_X9_tilePlace (d := d - 1) hl (by omega) ) (show d - 1 + 1 ≤ d from by omega) (Nat.le_of_ble_eq_true rfl) ?_
                  refine J.iload dX9_readsChain_175 rfl ?_
                  refine I.callV2w (d' := d - 1) (mi' := mX9_set) dX9_readsChain_177 lX9_32 eX9_set rfl rfl (c_X9_set (d := d - 1) hl (by omega) q2.2.1.1 (by omega)) (show d - 1 + 1 ≤ d from by omega) (Nat.le_of_ble_eq_true rfl) ?_
                  rintro s177 ⟨m177, f177⟩
                  refine I.iinc dX9_readsChain_180 rfl rfl ?_
                  refine J.aload_n 0 dX9_readsChain_183 rfl rfl ?_
                  refine I.bipush dX9_readsChain_184 (by decide) ?_
                  refine I.iconst dX9_readsChain_186 ?_
                  refine J.iload_n 1 dX9_readsChain_187 rfl rfl ?_
                  refine I.mul dX9_readsChain_188 ?_
                  refine I.add dX9_readsChain_189 ?_
                  refine J.iload_n 2 dX9_readsChain_190 rfl rfl ?_
                  refine I.add dX9_readsChain_191 ?_
                  refine J.iload_n 3 dX9_readsChain_192 rfl rfl ?_
                  refine I.callV2w (d' := d - 1) (mi' := mX9_set) dX9_readsChain_193 lX9_32 eX9_set rfl rfl (c_X9_set (d := d - 1) hl (by omega) m177 (by omega)) (show d - 1 + 1 ≤ d from by omega) (Nat.le_of_ble_eq_true rfl) ?_
                  rintro s193 ⟨m193, f193⟩
                  have d193 : MV s193 (gAdd h r c t (pTi T n p)) ∧ s193 137 2 = 2320 := ⟨m193, (f193.1 137 2 (by omega)).trans ((f177.1 137 2 (by omega)).trans q2.2.1.2)⟩
                  have k193 : MK T n s193 p := (q2.1.fm f177).fm f193
                  have n193 : FrN s s193 := (q3.trans (FrN.fm f177 q2.2.1.2)).trans (FrN.fm f193 ((f177.1 137 2 (by omega)).trans q2.2.1.2))
                  have p193 : FP (gAdd h r c t (pTi T n p)) := q2.2.2.add q4.2 (by omega) q5.2 (by omega) q6 (by omega) ⟨by omega, by omega, by omega⟩
                  refine J.aload_n 0 dX9_readsChain_196 rfl rfl ?_
                  refine I.callV0q (d' := d - 1) (mi' := mX9_token) dX9_readsChain_197 lX9_178 eX9_token rfl rfl (c_X9_token (d := d - 1) hl (by omega) p0 k193.1 ⟨k193.2.2.1, by omega, by omega⟩) (show d - 1 + 1 ≤ d from by omega) (Nat.le_of_ble_eq_true rfl) ?_
                  rintro w197 s197 ⟨m197, f197, o197⟩
                  refine I.if_ne 205 dX9_readsChain_200 (by decide) (by rcases o197 with x | x <;> omega) (fun h200 => ?_) (fun h200 => ?_)
                  · skip
                    have yes : pTok T n (pN T n p) := by rcases o197 with x | x; exact x.2; omega
                    have w2 := m197.w p0
                    have ks2 := pSrt_rng _ w2.2.1
                    have k22 := pSrt_2 (pK T n (pN T n p))
                    have d197 : MD T n s197 (gAdd h r c t (pTi T n p)) (pN T n p) := ⟨m197, MV.ft d193 f197, p193⟩
                    refine J.aload_n 0 dX9_readsChain_205 rfl rfl ?_
                    refine I.gI 15 rfl dX9_readsChain_206 jcls fX9_172 rfl (by decide) rfl ?_
                    refine I.sx m197.2.2.2.2 ?_
                    refine I.iconst dX9_readsChain_209 ?_
                    refine I.icmp_eq 22 dX9_readsChain_210 (by decide) (by omega) (by omega) (fun h210 => ?_) (fun h210 => ?_)
                    · skip
                      have lo : ∀ j, j < 22 → gAdd h r c t (pTi T n p) j = h j := fun j hj => gAdd_o (by omega) (by unfold gTp; omega)
                      have e6 : pC3 T n r c (k + 1 + 1) t p h = pC3 T n r c (k + 1) (t + 1) (pN T n p) (gAdd h r c t (pTi T n p)) := e8.trans (if_pos (by omega)).symm
                      rw [e6]
                      exact J.fgt (by exact ⟨Or.inr rfl, Or.inr rfl, Or.inr rfl, Or.inr rfl, Or.inl rfl, trivial⟩) (ih (by omega) (by omega) d197 (n193.trans (FrN.ft f197)) ⟨by rw [lo 0 (by omega)]; exact q4.1, q4.2⟩ ⟨by rw [lo _ (by omega)]; exact q5.1, q5.2⟩ gAdd_l.symm yes)
                    · skip
                      have e7 : pTs T n r c (k + 1) (t + 1) (pN T n p) (gAdd h r c t (pTi T n p)) = (0, pN T n p, gAdd h r c t (pTi T n p)) := (show (if _ then _ else _) = _ from if_neg (by omega))
                      refine I.iconst dX9_readsChain_213 ?_
                      exact I.zretQ dX9_readsChain_214 rfl (by first | exact Or.inl rfl | exact Or.inr rfl | exact bI_01 _ | omega) (MR.good (n193.trans (FrN.ft f197)) (by rw [e8, e7]) (by rw [e8, e7]; exact yes) (by rw [e8, e7]; exact d197))
                  · skip
                    have no : ¬ pTok T n (pN T n p) ∧ s197 137 16 = 1 := by rcases o197 with x | x; omega; exact x.2
                    have pb := @pTs_bad T n r c (t + 1) (pN T n p) (gAdd h r c t (pTi T n p)) k no.1
                    refine I.iconst dX9_readsChain_203 ?_
                    exact I.zretQ dX9_readsChain_204 rfl (by first | exact Or.inl rfl | exact Or.inr rfl | exact bI_01 _ | omega) (MR.tok (n193.trans (FrN.ft f197)) m197 no.1 no.2 (by rw [e8]; exact pb.1) (by rw [e8]; exact pb.2))
                · exact absurd h159 (by omega)
              · skip
                have e9 : pC3 T n r c ((k + 1) + 1) t p h = (4, p, h) := pC3_e kp (pTE_d dd n6 n3 h147) (by decide)
                refine J.aload_n 0 dX9_readsChain_150 rfl rfl ?_
                refine I.iconst dX9_readsChain_151 ?_
                refine I.callV1i (d' := d - 1) (mi' := mX9_faults) dX9_readsChain_152 lX9_175 eX9_faults rfl rfl (c_X9_faults (d := d - 1) hl (by omega) ) (show d - 1 + 1 ≤ d from by omega) (Nat.le_of_ble_eq_true rfl) ?_
                exact I.zretQ dX9_readsChain_155 rfl (by first | exact Or.inl rfl | exact Or.inr rfl | exact bI_01 _ | omega) (MR.bad q3 q2.1 e9 (by decide))
            · skip
              refine J.aload_n 0 dX9_readsChain_111 rfl rfl ?_
              refine J.iload_n 1 dX9_readsChain_112 rfl rfl ?_
              refine J.iload_n 2 dX9_readsChain_113 rfl rfl ?_
              refine J.iload_n 3 dX9_readsChain_114 rfl rfl ?_
              refine I.iconst dX9_readsChain_115 ?_
              refine I.sub dX9_readsChain_116 ?_
              refine I.callS3i (d' := d - 1) (mi' := mX9_tilePlace) dX9_readsChain_117 lX9_63 eX9_tilePlace rfl (c_X9_tilePlace (d := d - 1) hl (by omega) ) (show d - 1 + 1 ≤ d from by omega) (Nat.le_of_ble_eq_true rfl) ?_
              have ft := q2.2.2.2.2.2.1 r c (t - 1) q4.2 (by omega) q5.2 (by omega) (by omega) (by omega)
              refine I.callV1i (d' := d - 1) (mi' := mX9_get) dX9_readsChain_120 lX9_46 eX9_get rfl rfl (c_X9_get (d := d - 1) hl (by omega) q2.2.1.1 (by omega)) (show d - 1 + 1 ≤ d from by omega) (Nat.le_of_ble_eq_true rfl) ?_
              refine I.sx (show _ = h (gTp r c (t - 1)) from rfl) ?_
              refine I.bipush dX9_readsChain_123 (by decide) ?_
              refine I.rem dX9_readsChain_125 (by omega) (by omega) ?_
              refine J.iload dX9_readsChain_126 rfl ?_
              refine I.bipush dX9_readsChain_128 (by decide) ?_
              refine I.div dX9_readsChain_130 (by omega) (by omega) ?_
              refine I.icmp_eq 140 dX9_readsChain_131 (by decide) (by omega) (by omega) (fun h131 => ?_) (fun h131 => ?_)
              · skip
                have n3 : ¬ (0 < t ∧ pT1 T n p ≠ h (gTp r c (t - 1)) % 10) := by omega
                refine J.aload_n 0 dX9_readsChain_140 rfl rfl ?_
                refine J.iload_n 1 dX9_readsChain_141 rfl rfl ?_
                refine J.iload dX9_readsChain_142 rfl ?_
                refine I.callV2i (d' := d - 1) (mi' := mX9_isThere) dX9_readsChain_144 lX9_201 eX9_isThere rfl rfl (c_X9_isThere (d := d - 1) hl (by omega) q2.2.1.1 q2.2.2 (by omega) (by omega)) (show d - 1 + 1 ≤ d from by omega) (Nat.le_of_ble_eq_true rfl) ?_
                refine I.if_eqB 156 dX9_readsChain_147 (by decide) (fun h147 => ?_) (fun h147 => ?_)
                · skip
                  refine J.iload_n 3 dX9_readsChain_156 rfl rfl ?_
                  refine I.bipush dX9_readsChain_157 (by decide) ?_
                  refine I.icmp_ne 168 dX9_readsChain_159 (by decide) (by omega) (by omega) (fun h159 => ?_) (fun h159 => ?_)
                  · skip
                    have e8 : pC3 T n r c (k + 1 + 1) t p h = pTs T n r c (k + 1) (t + 1) (pN T n p) (gAdd h r c t (pTi T n p)) := pC3_s kp ((pTE_e dd n6 n3 h147).trans (if_pos (by omega)))
                    refine J.aload_n 0 dX9_readsChain_168 rfl rfl ?_
                    refine J.iload_n 1 dX9_readsChain_169 rfl rfl ?_
                    refine J.iload_n 2 dX9_readsChain_170 rfl rfl ?_
                    refine J.iload_n 3 dX9_readsChain_171 rfl rfl ?_
                    refine I.callS3i (d' := d - 1) (mi' := mX9_tilePlace) dX9_readsChain_172 lX9_63 eX9_tilePlace rfl (c_X9_tilePlace (d := d - 1) hl (by omega) ) (show d - 1 + 1 ≤ d from by omega) (Nat.le_of_ble_eq_true rfl) ?_
                    refine J.iload dX9_readsChain_175 rfl ?_
                    refine I.callV2w (d' := d - 1) (mi' := mX9_set) dX9_readsChain_177 lX9_32 eX9_set rfl rfl (c_X9_set (d := d - 1) hl (by omega) q2.2.1.1 (by omega)) (show d - 1 + 1 ≤ d from by omega) (Nat.le_of_ble_eq_true rfl) ?_
                    rintro s177 ⟨m177, f177⟩
                    refine I.iinc dX9_readsChain_180 rfl rfl ?_
                    refine J.aload_n 0 dX9_readsChain_183 rfl rfl ?_
                    refine I.bipush dX9_readsChain_184 (by decide) ?_
                    refine I.iconst dX9_readsChain_186 ?_
                    refine J.iload_n 1 dX9_readsChain_187 rfl rfl ?_
                    refine I.mul dX9_readsChain_188 ?_
                    refine I.add dX9_readsChain_189 ?_
                    refine J.iload_n 2 dX9_readsChain_190 rfl rfl ?_
                    refine I.add dX9_readsChain_191 ?_
                    refine J.iload_n 3 dX9_readsChain_192 rfl rfl ?_
                    refine I.callV2w (d' := d - 1) (mi' := mX9_set) dX9_readsChain_193 lX9_32 eX9_set rfl rfl (c_X9_set (d := d - 1) hl (by omega) m177 (by omega)) (show d - 1 + 1 ≤ d from by omega) (Nat.le_of_ble_eq_true rfl) ?_
                    rintro s193 ⟨m193, f193⟩
                    have d193 : MV s193 (gAdd h r c t (pTi T n p)) ∧ s193 137 2 = 2320 := ⟨m193, (f193.1 137 2 (by omega)).trans ((f177.1 137 2 (by omega)).trans q2.2.1.2)⟩
                    have k193 : MK T n s193 p := (q2.1.fm f177).fm f193
                    have n193 : FrN s s193 := (q3.trans (FrN.fm f177 q2.2.1.2)).trans (FrN.fm f193 ((f177.1 137 2 (by omega)).trans q2.2.1.2))
                    have p193 : FP (gAdd h r c t (pTi T n p)) := q2.2.2.add q4.2 (by omega) q5.2 (by omega) q6 (by omega) ⟨by omega, by omega, by omega⟩
                    refine J.aload_n 0 dX9_readsChain_196 rfl rfl ?_
                    refine I.callV0q (d' := d - 1) (mi' := mX9_token) dX9_readsChain_197 lX9_178 eX9_token rfl rfl (c_X9_token (d := d - 1) hl (by omega) p0 k193.1 ⟨k193.2.2.1, by omega, by omega⟩) (show d - 1 + 1 ≤ d from by omega) (Nat.le_of_ble_eq_true rfl) ?_
                    rintro w197 s197 ⟨m197, f197, o197⟩
                    refine I.if_ne 205 dX9_readsChain_200 (by decide) (by rcases o197 with x | x <;> omega) (fun h200 => ?_) (fun h200 => ?_)
                    · skip
                      have yes : pTok T n (pN T n p) := by rcases o197 with x | x; exact x.2; omega
                      have w2 := m197.w p0
                      have ks2 := pSrt_rng _ w2.2.1
                      have k22 := pSrt_2 (pK T n (pN T n p))
                      have d197 : MD T n s197 (gAdd h r c t (pTi T n p)) (pN T n p) := ⟨m197, MV.ft d193 f197, p193⟩
                      refine J.aload_n 0 dX9_readsChain_205 rfl rfl ?_
                      refine I.gI 15 rfl dX9_readsChain_206 jcls fX9_172 rfl (by decide) rfl ?_
                      refine I.sx m197.2.2.2.2 ?_
                      refine I.iconst dX9_readsChain_209 ?_
                      refine I.icmp_eq 22 dX9_readsChain_210 (by decide) (by omega) (by omega) (fun h210 => ?_) (fun h210 => ?_)
                      · skip
                        have lo : ∀ j, j < 22 → gAdd h r c t (pTi T n p) j = h j := fun j hj => gAdd_o (by omega) (by unfold gTp; omega)
                        have e6 : pC3 T n r c (k + 1 + 1) t p h = pC3 T n r c (k + 1) (t + 1) (pN T n p) (gAdd h r c t (pTi T n p)) := e8.trans (if_pos (by omega)).symm
                        rw [e6]
                        exact J.fgt (by exact ⟨Or.inr rfl, Or.inr rfl, Or.inr rfl, Or.inr rfl, Or.inl rfl, trivial⟩) (ih (by omega) (by omega) d197 (n193.trans (FrN.ft f197)) ⟨by rw [lo 0 (by omega)]; exact q4.1, q4.2⟩ ⟨by rw [lo _ (by omega)]; exact q5.1, q5.2⟩ gAdd_l.symm yes)
                      · skip
                        have e7 : pTs T n r c (k + 1) (t + 1) (pN T n p) (gAdd h r c t (pTi T n p)) = (0, pN T n p, gAdd h r c t (pTi T n p)) := (show (if _ then _ else _) = _ from if_neg (by omega))
                        refine I.iconst dX9_readsChain_213 ?_
                        exact I.zretQ dX9_readsChain_214 rfl (by first | exact Or.inl rfl | exact Or.inr rfl | exact bI_01 _ | omega) (MR.good (n193.trans (FrN.ft f197)) (by rw [e8, e7]) (by rw [e8, e7]; exact yes) (by rw [e8, e7]; exact d197))
                    · skip
                      have no : ¬ pTok T n (pN T n p) ∧ s197 137 16 = 1 := by rcases o197 with x | x; omega; exact x.2
                      have pb := @pTs_bad T n r c (t + 1) (pN T n p) (gAdd h r c t (pTi T n p)) k no.1
                      refine I.iconst dX9_readsChain_203 ?_
                      exact I.zretQ dX9_readsChain_204 rfl (by first | exact Or.inl rfl | exact Or.inr rfl | exact bI_01 _ | omega) (MR.tok (n193.trans (FrN.ft f197)) m197 no.1 no.2 (by rw [e8]; exact pb.1) (by rw [e8]; exact pb.2))
                  · exact absurd h159 (by omega)
                · skip
                  have e9 : pC3 T n r c ((k + 1) + 1) t p h = (4, p, h) := pC3_e kp (pTE_d dd n6 n3 h147) (by decide)
                  refine J.aload_n 0 dX9_readsChain_150 rfl rfl ?_
                  refine I.iconst dX9_readsChain_151 ?_
                  refine I.callV1i (d' := d - 1) (mi' := mX9_faults) dX9_readsChain_152 lX9_175 eX9_faults rfl rfl (c_X9_faults (d := d - 1) hl (by omega) ) (show d - 1 + 1 ≤ d from by omega) (Nat.le_of_ble_eq_true rfl) ?_
                  exact I.zretQ dX9_readsChain_155 rfl (by first | exact Or.inl rfl | exact Or.inr rfl | exact bI_01 _ | omega) (MR.bad q3 q2.1 e9 (by decide))
              · skip
                have e9 : pC3 T n r c ((k + 1) + 1) t p h = (3, p, h) := pC3_e kp (pTE_c dd n6 ⟨by omega, by omega⟩) (by decide)
                refine J.aload_n 0 dX9_readsChain_134 rfl rfl ?_
                refine I.iconst dX9_readsChain_135 ?_
                refine I.callV1i (d' := d - 1) (mi' := mX9_faults) dX9_readsChain_136 lX9_175 eX9_faults rfl rfl (c_X9_faults (d := d - 1) hl (by omega) ) (show d - 1 + 1 ≤ d from by omega) (Nat.le_of_ble_eq_true rfl) ?_
                exact I.zretQ dX9_readsChain_139 rfl (by first | exact Or.inl rfl | exact Or.inr rfl | exact bI_01 _ | omega) (MR.bad q3 q2.1 e9 (by decide))
          · skip
            have e9 : pC3 T n r c ((k + 1) + 1) t p h = (2, p, h) := pC3_e kp (pTE_b dd (by omega)) (by decide)
            refine J.aload_n 0 dX9_readsChain_101 rfl rfl ?_
            refine I.iconst dX9_readsChain_102 ?_
            refine I.callV1i (d' := d - 1) (mi' := mX9_faults) dX9_readsChain_103 lX9_175 eX9_faults rfl rfl (c_X9_faults (d := d - 1) hl (by omega) ) (show d - 1 + 1 ≤ d from by omega) (Nat.le_of_ble_eq_true rfl) ?_
            exact I.zretQ dX9_readsChain_106 rfl (by first | exact Or.inl rfl | exact Or.inr rfl | exact bI_01 _ | omega) (MR.bad q3 q2.1 e9 (by decide))
      · skip
        have kp : pK T n p = 2 := by omega
        have nd : ¬ pD T n p 2 := fun x => h40 x.2
        have e9 : pC3 T n r c ((k + 1) + 1) t p h = (1, p, h) := pC3_e kp (pTE_a nd) (by decide)
        refine J.aload_n 0 dX9_readsChain_43 rfl rfl ?_
        refine I.iconst dX9_readsChain_44 ?_
        refine I.callV1i (d' := d - 1) (mi' := mX9_faults) dX9_readsChain_45 lX9_175 eX9_faults rfl rfl (c_X9_faults (d := d - 1) hl (by omega) ) (show d - 1 + 1 ≤ d from by omega) (Nat.le_of_ble_eq_true rfl) ?_
        exact I.zretQ dX9_readsChain_48 rfl (by first | exact Or.inl rfl | exact Or.inr rfl | exact bI_01 _ | omega) (MR.bad q3 q2.1 e9 (by decide))
set_option maxHeartbeats 1000000 in
theorem c_X9_readsChain {Γ : jE} (hl : Γ.1.stackTraces = false) {s : Nat → Int → Int} {ε : jEps} {d : Nat} {r : Int} {T : Int → Int} {n q c : Int} {g : Int → Int} (hd : 2 ≤ d) (p0 : PTx T n) (p1 : MD T n s g q) (p2 : pTok T n q) (p3 : g 0 = r + 1 ∧ 0 ≤ r) (p4 : c = g (18 + r) ∧ c < 3) : Con Γ (d, 0, 0) mX9_readsChain [.ref 137, .int (iI r)] (jmem s ε) (RQ (fun w s' => MR T n s s' w (pCh T n r q g) (MD T n s' (pCh T n r q g).2.2 (pCh T n r q g).2.1)) ε) X0 := by
  refine Con.ofJ (by decide +kernel) (by simp [Value.category]) (Nat.le_of_ble_eq_true rfl) ?_ hl
  have t0 := p0.2
  have f1 := p1.2.2.1
  have f2 := p1.2.2.2.1 r (by omega) (by omega)
  have f3 := (p1.2.2.2.2.1 r c (by omega) (by omega) (by omega) (by omega)).2.2 (by omega)
  refine J.aload_n 0 dX9_readsChain_0 rfl rfl ?_
  refine I.bipush dX9_readsChain_1 (by decide) ?_
  refine J.iload_n 1 dX9_readsChain_3 rfl rfl ?_
  refine I.add dX9_readsChain_4 ?_
  refine I.callV1i (d' := d - 1) (mi' := mX9_get) dX9_readsChain_5 lX9_46 eX9_get rfl rfl (c_X9_get (d := d - 1) hl (by omega) p1.2.1.1 (by omega)) (show d - 1 + 1 ≤ d from by omega) (Nat.le_of_ble_eq_true rfl) ?_
  refine I.sx p4.1.symm ?_
  refine J.istore_n 2 dX9_readsChain_8 rfl (by decide) rfl ?_
  refine J.aload_n 0 dX9_readsChain_9 rfl rfl ?_
  refine I.bipush dX9_readsChain_10 (by decide) ?_
  refine J.iload_n 1 dX9_readsChain_12 rfl rfl ?_
  refine I.add dX9_readsChain_13 ?_
  refine J.iload_n 2 dX9_readsChain_14 rfl rfl ?_
  refine I.iconst dX9_readsChain_15 ?_
  refine I.add dX9_readsChain_16 ?_
  refine I.callV2w (d' := d - 1) (mi' := mX9_set) dX9_readsChain_17 lX9_32 eX9_set rfl rfl (c_X9_set (d := d - 1) hl (by omega) p1.2.1.1 (by omega)) (show d - 1 + 1 ≤ d from by omega) (Nat.le_of_ble_eq_true rfl) ?_
  rintro s17 ⟨m17, f17⟩
  rw [show c + 1 = g (18 + r) + 1 by omega] at m17
  have d17 : MD T n s17 (gOCh g r) q := ⟨p1.1.fm f17, ⟨m17, MV.at0 p1.2.1 f17⟩, p1.2.2.och p3.2 (by omega) (by omega)⟩
  have f18 : FrN s s17 := FrN.fm f17 p1.2.1.2
  have e0 : pCh T n r q g = pC3 T n r c (8 + 1) 0 q (gOCh g r) := by rw [p4.1]; rfl
  rw [e0]
  refine I.iconst dX9_readsChain_20 ?_
  refine J.istore_n 3 dX9_readsChain_21 rfl (by decide) rfl ?_
  exact J.fgt (by exact ⟨Or.inr rfl, Or.inr rfl, Or.inr rfl, Or.inr rfl, Or.inl rfl, trivial⟩) (k_X9_readsChain_22 hl (by omega) p0 p1 p2 p3 p4 (8) (by omega) (by omega) d17 f18 ⟨by show gOCh g r 0 = r + 1; unfold gOCh; rw [upr_ne (by omega)]; exact p3.1, p3.2⟩ ⟨by show gOCh g r (18 + r) = c + 1; unfold gOCh; rw [upr_eqq rfl]; omega, by omega⟩ (by show 0 = gOCh g r (22 + 3 * r + c); unfold gOCh; rw [upr_ne (by omega)]; exact f3.symm) p2)
