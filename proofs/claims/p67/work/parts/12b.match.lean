set_option maxHeartbeats 1000000 in
theorem c_X2_copyFrom {Γ : jE} (hl : Γ.1.stackTraces = false) {s : Nat → Int → Int} {ε : jEps} {d : Nat} {m : Nat} {o : Nat} {f : Int → Int} (hd : 2 ≤ d) (hm : jIsM m) (ho : jIsM o) (p0 : RM s o f) (p1 : m + 15 ≤ o ∨ o + 15 ≤ m) : Con Γ (d, 0, 0) mX2_copyFrom [.ref m, .ref o] (jmem s ε) (RW (fun s' => RM s' m f ∧ ∀ q i, (q ≤ m ∨ m + 15 ≤ q) → s' q i = s q i) ε) X0 := by
  refine Con.ofJ (by decide +kernel) (by simp [Value.category]) (Nat.le_of_ble_eq_true rfl) ?_ hl
  refine J.aload_n 0 dX2_copyFrom_0 rfl rfl ?_
  refine I.getR dX2_copyFrom_1 jcls fX2_12 (shM hm) (by decide) rfl (taM0 hm) ?_
  refine J.aload_n 1 dX2_copyFrom_4 rfl rfl ?_
  refine I.getR dX2_copyFrom_5 jcls fX2_12 (shM ho) (by decide) rfl (taM0 ho) ?_
  refine I.callV1w (d' := d - 1) (mi' := mX1_copyFrom) dX2_copyFrom_8 lX2_25 eX1_copyFrom (shL hm) rfl (c_X1_copyFrom (d := d - 1) hl (by omega) (yM hm) (yM ho) (by first | omega | assumption)) (show d - 1 + 1 ≤ d from by omega) (Nat.le_of_ble_eq_true rfl) ?_
  rintro s1 ⟨a, a0, a1, a2, a3, a4, a5⟩
  refine J.aload_n 0 dX2_copyFrom_11 rfl rfl ?_
  refine I.getR dX2_copyFrom_12 jcls fX2_21 (shM hm) (by decide) rfl (taM1 hm) ?_
  refine J.aload_n 1 dX2_copyFrom_15 rfl rfl ?_
  refine I.getR dX2_copyFrom_16 jcls fX2_21 (shM ho) (by decide) rfl (taM1 ho) ?_
  refine I.callV1w (d' := d - 1) (mi' := mX6_copyFrom) dX2_copyFrom_19 lX2_29 eX6_copyFrom (shS hm) rfl (c_X6_copyFrom (d := d - 1) hl (by omega) (tM hm) (tM ho) (by first | omega | assumption) (by rw [a _ _ (by omega), RM.over p0]; exact bI_01 _)) (show d - 1 + 1 ≤ d from by omega) (Nat.le_of_ble_eq_true rfl) ?_
  rintro s2 ⟨b, b0, b1, b2, b3, b4, b5, b6, b7⟩
  exact I.vretQ dX2_copyFrom_22 rfl ⟨⟨(RY.copy p0.y p0.l a0 a1 a2 a3 a4 a5).congr (fun q i q1 q2 => b q i (by omega)), RT.copy (p0.t.congr (s' := s1) fun q i q1 q2 => a q i (by omega)) p0.v.moves.2.2 b0 b1 b2 b3 b4 b5 b6 b7, p0.l, p0.v⟩, fun q i g => by rw [b q i (by omega), a q i (by omega)]⟩
set_option maxHeartbeats 1000000 in
theorem c_X6_clearCounts {Γ : jE} (hl : Γ.1.stackTraces = false) {s : Nat → Int → Int} {ε : jEps} {d : Nat} {t : Nat} (hd : 1 ≤ d) (ht : jIsT t) : Con Γ (d, 0, 0) mX6_clearCounts [.ref t] (jmem s ε) (RW (fun s' => (∀ q i, (q < t + 3 ∨ t + 6 ≤ q) → s' q i = s q i) ∧ (∀ i, 0 ≤ i → i < 8 → s' (t + 3) i = 0) ∧ (∀ i, 0 ≤ i → i < 2 → s' (t + 4) i = 0) ∧ ∀ i, 0 ≤ i → i < 2 → s' (t + 5) i = 0) ε) X0 := by
  refine Con.ofJ (by decide +kernel) (by simp [Value.category]) (Nat.le_of_ble_eq_true rfl) ?_ hl
  refine I.iconst dX6_clearCounts_0 ?_
  refine J.istore_n 1 dX6_clearCounts_1 rfl (by decide) rfl ?_
  refine J.iload_n 1 dX6_clearCounts_2 rfl rfl ?_
  refine J.aload_n 0 dX6_clearCounts_3 rfl rfl ?_
  refine I.getR dX6_clearCounts_4 jcls fX6_18 (shT ht) (by decide) rfl (taT8 ht) ?_
  refine I.alen dX6_clearCounts_7 (shT8 ht) (by decide) ?_
  refine I.icmp_ge 24 dX6_clearCounts_8 (by decide) (by omega) (by omega) (fun h8 => ?_) (fun h8 => ?_)
  · exact absurd h8 (by omega)
  · skip
    refine J.aload_n 0 dX6_clearCounts_11 rfl rfl ?_
    refine I.getR dX6_clearCounts_12 jcls fX6_18 (shT ht) (by decide) rfl (taT8 ht) ?_
    refine J.iload_n 1 dX6_clearCounts_15 rfl rfl ?_
    refine I.iconst dX6_clearCounts_16 ?_
    refine I.iast dX6_clearCounts_17 (shT8 ht) (by omega) (by omega) ?_
    refine I.iinc dX6_clearCounts_18 rfl rfl ?_
    refine J.goto 2 dX6_clearCounts_21 (by decide) ?_
    refine J.iload_n 1 dX6_clearCounts_2 rfl rfl ?_
    refine J.aload_n 0 dX6_clearCounts_3 rfl rfl ?_
    refine I.getR dX6_clearCounts_4 jcls fX6_18 (shT ht) (by decide) rfl (taT8 ht) ?_
    refine I.alen dX6_clearCounts_7 (shT8 ht) (by decide) ?_
    refine I.icmp_ge 24 dX6_clearCounts_8 (by decide) (by omega) (by omega) (fun h8 => ?_) (fun h8 => ?_)
    · exact absurd h8 (by omega)
    · skip
      refine J.aload_n 0 dX6_clearCounts_11 rfl rfl ?_
      refine I.getR dX6_clearCounts_12 jcls fX6_18 (shT ht) (by decide) rfl (taT8 ht) ?_
      refine J.iload_n 1 dX6_clearCounts_15 rfl rfl ?_
      refine I.iconst dX6_clearCounts_16 ?_
      refine I.iast dX6_clearCounts_17 (shT8 ht) (by omega) (by omega) ?_
      refine I.iinc dX6_clearCounts_18 rfl rfl ?_
      refine J.goto 2 dX6_clearCounts_21 (by decide) ?_
      refine J.iload_n 1 dX6_clearCounts_2 rfl rfl ?_
      refine J.aload_n 0 dX6_clearCounts_3 rfl rfl ?_
      refine I.getR dX6_clearCounts_4 jcls fX6_18 (shT ht) (by decide) rfl (taT8 ht) ?_
      refine I.alen dX6_clearCounts_7 (shT8 ht) (by decide) ?_
      refine I.icmp_ge 24 dX6_clearCounts_8 (by decide) (by omega) (by omega) (fun h8 => ?_) (fun h8 => ?_)
      · exact absurd h8 (by omega)
      · skip
        refine J.aload_n 0 dX6_clearCounts_11 rfl rfl ?_
        refine I.getR dX6_clearCounts_12 jcls fX6_18 (shT ht) (by decide) rfl (taT8 ht) ?_
        refine J.iload_n 1 dX6_clearCounts_15 rfl rfl ?_
        refine I.iconst dX6_clearCounts_16 ?_
        refine I.iast dX6_clearCounts_17 (shT8 ht) (by omega) (by omega) ?_
        refine I.iinc dX6_clearCounts_18 rfl rfl ?_
        refine J.goto 2 dX6_clearCounts_21 (by decide) ?_
        refine J.iload_n 1 dX6_clearCounts_2 rfl rfl ?_
        refine J.aload_n 0 dX6_clearCounts_3 rfl rfl ?_
        refine I.getR dX6_clearCounts_4 jcls fX6_18 (shT ht) (by decide) rfl (taT8 ht) ?_
        refine I.alen dX6_clearCounts_7 (shT8 ht) (by decide) ?_
        refine I.icmp_ge 24 dX6_clearCounts_8 (by decide) (by omega) (by omega) (fun h8 => ?_) (fun h8 => ?_)
        · exact absurd h8 (by omega)
        · skip
          refine J.aload_n 0 dX6_clearCounts_11 rfl rfl ?_
          refine I.getR dX6_clearCounts_12 jcls fX6_18 (shT ht) (by decide) rfl (taT8 ht) ?_
          refine J.iload_n 1 dX6_clearCounts_15 rfl rfl ?_
          refine I.iconst dX6_clearCounts_16 ?_
          refine I.iast dX6_clearCounts_17 (shT8 ht) (by omega) (by omega) ?_
          refine I.iinc dX6_clearCounts_18 rfl rfl ?_
          refine J.goto 2 dX6_clearCounts_21 (by decide) ?_
          refine J.iload_n 1 dX6_clearCounts_2 rfl rfl ?_
          refine J.aload_n 0 dX6_clearCounts_3 rfl rfl ?_
          refine I.getR dX6_clearCounts_4 jcls fX6_18 (shT ht) (by decide) rfl (taT8 ht) ?_
          refine I.alen dX6_clearCounts_7 (shT8 ht) (by decide) ?_
          refine I.icmp_ge 24 dX6_clearCounts_8 (by decide) (by omega) (by omega) (fun h8 => ?_) (fun h8 => ?_)
          · exact absurd h8 (by omega)
          · skip
            refine J.aload_n 0 dX6_clearCounts_11 rfl rfl ?_
            refine I.getR dX6_clearCounts_12 jcls fX6_18 (shT ht) (by decide) rfl (taT8 ht) ?_
            refine J.iload_n 1 dX6_clearCounts_15 rfl rfl ?_
            refine I.iconst dX6_clearCounts_16 ?_
            refine I.iast dX6_clearCounts_17 (shT8 ht) (by omega) (by omega) ?_
            refine I.iinc dX6_clearCounts_18 rfl rfl ?_
            refine J.goto 2 dX6_clearCounts_21 (by decide) ?_
            refine J.iload_n 1 dX6_clearCounts_2 rfl rfl ?_
            refine J.aload_n 0 dX6_clearCounts_3 rfl rfl ?_
            refine I.getR dX6_clearCounts_4 jcls fX6_18 (shT ht) (by decide) rfl (taT8 ht) ?_
            refine I.alen dX6_clearCounts_7 (shT8 ht) (by decide) ?_
            refine I.icmp_ge 24 dX6_clearCounts_8 (by decide) (by omega) (by omega) (fun h8 => ?_) (fun h8 => ?_)
            · exact absurd h8 (by omega)
            · skip
              refine J.aload_n 0 dX6_clearCounts_11 rfl rfl ?_
              refine I.getR dX6_clearCounts_12 jcls fX6_18 (shT ht) (by decide) rfl (taT8 ht) ?_
              refine J.iload_n 1 dX6_clearCounts_15 rfl rfl ?_
              refine I.iconst dX6_clearCounts_16 ?_
              refine I.iast dX6_clearCounts_17 (shT8 ht) (by omega) (by omega) ?_
              refine I.iinc dX6_clearCounts_18 rfl rfl ?_
              refine J.goto 2 dX6_clearCounts_21 (by decide) ?_
              refine J.iload_n 1 dX6_clearCounts_2 rfl rfl ?_
              refine J.aload_n 0 dX6_clearCounts_3 rfl rfl ?_
              refine I.getR dX6_clearCounts_4 jcls fX6_18 (shT ht) (by decide) rfl (taT8 ht) ?_
              refine I.alen dX6_clearCounts_7 (shT8 ht) (by decide) ?_
              refine I.icmp_ge 24 dX6_clearCounts_8 (by decide) (by omega) (by omega) (fun h8 => ?_) (fun h8 => ?_)
              · exact absurd h8 (by omega)
              · skip
                refine J.aload_n 0 dX6_clearCounts_11 rfl rfl ?_
                refine I.getR dX6_clearCounts_12 jcls fX6_18 (shT ht) (by decide) rfl (taT8 ht) ?_
                refine J.iload_n 1 dX6_clearCounts_15 rfl rfl ?_
                refine I.iconst dX6_clearCounts_16 ?_
                refine I.iast dX6_clearCounts_17 (shT8 ht) (by omega) (by omega) ?_
                refine I.iinc dX6_clearCounts_18 rfl rfl ?_
                refine J.goto 2 dX6_clearCounts_21 (by decide) ?_
                refine J.iload_n 1 dX6_clearCounts_2 rfl rfl ?_
                refine J.aload_n 0 dX6_clearCounts_3 rfl rfl ?_
                refine I.getR dX6_clearCounts_4 jcls fX6_18 (shT ht) (by decide) rfl (taT8 ht) ?_
                refine I.alen dX6_clearCounts_7 (shT8 ht) (by decide) ?_
                refine I.icmp_ge 24 dX6_clearCounts_8 (by decide) (by omega) (by omega) (fun h8 => ?_) (fun h8 => ?_)
                · exact absurd h8 (by omega)
                · skip
                  refine J.aload_n 0 dX6_clearCounts_11 rfl rfl ?_
                  refine I.getR dX6_clearCounts_12 jcls fX6_18 (shT ht) (by decide) rfl (taT8 ht) ?_
                  refine J.iload_n 1 dX6_clearCounts_15 rfl rfl ?_
                  refine I.iconst dX6_clearCounts_16 ?_
                  refine I.iast dX6_clearCounts_17 (shT8 ht) (by omega) (by omega) ?_
                  refine I.iinc dX6_clearCounts_18 rfl rfl ?_
                  refine J.goto 2 dX6_clearCounts_21 (by decide) ?_
                  refine J.iload_n 1 dX6_clearCounts_2 rfl rfl ?_
                  refine J.aload_n 0 dX6_clearCounts_3 rfl rfl ?_
                  refine I.getR dX6_clearCounts_4 jcls fX6_18 (shT ht) (by decide) rfl (taT8 ht) ?_
                  refine I.alen dX6_clearCounts_7 (shT8 ht) (by decide) ?_
                  refine I.icmp_ge 24 dX6_clearCounts_8 (by decide) (by omega) (by omega) (fun h8 => ?_) (fun h8 => ?_)
                  · skip
                    refine I.iconst dX6_clearCounts_24 ?_
                    refine J.istore_n 1 dX6_clearCounts_25 rfl (by decide) rfl ?_
                    refine J.iload_n 1 dX6_clearCounts_26 rfl rfl ?_
                    refine I.iconst dX6_clearCounts_27 ?_
                    refine I.icmp_ge 55 dX6_clearCounts_28 (by decide) (by omega) (by omega) (fun h28 => ?_) (fun h28 => ?_)
                    · exact absurd h28 (by omega)
                    · skip
                      refine J.aload_n 0 dX6_clearCounts_31 rfl rfl ?_
                      refine I.getR dX6_clearCounts_32 jcls fX6_21 (shT ht) (by decide) rfl (taT9 ht) ?_
                      refine J.iload_n 1 dX6_clearCounts_35 rfl rfl ?_
                      refine I.iconst dX6_clearCounts_36 ?_
                      refine I.callSN3v (d' := d - 1) (mi' := mX8_put) dX6_clearCounts_37 nX6_57 eX8_put (c_X8_put (d := d - 1) hl (by omega) (shT9 ht) (by first | omega | assumption) (by first | omega | assumption)) (show d - 1 + 1 ≤ d from by omega) (Nat.le_of_ble_eq_true rfl) ?_
                      refine J.aload_n 0 dX6_clearCounts_40 rfl rfl ?_
                      refine I.getR dX6_clearCounts_41 jcls fX6_24 (shT ht) (by decide) rfl (taT10 ht) ?_
                      refine J.iload_n 1 dX6_clearCounts_44 rfl rfl ?_
                      refine I.iconst dX6_clearCounts_45 ?_
                      refine I.callSN3v (d' := d - 1) (mi' := mX8_put) dX6_clearCounts_46 nX6_57 eX8_put (c_X8_put (d := d - 1) hl (by omega) (shT10 ht) (by first | omega | assumption) (by first | omega | assumption)) (show d - 1 + 1 ≤ d from by omega) (Nat.le_of_ble_eq_true rfl) ?_
                      refine I.iinc dX6_clearCounts_49 rfl rfl ?_
                      refine J.goto 26 dX6_clearCounts_52 (by decide) ?_
                      refine J.iload_n 1 dX6_clearCounts_26 rfl rfl ?_
                      refine I.iconst dX6_clearCounts_27 ?_
                      refine I.icmp_ge 55 dX6_clearCounts_28 (by decide) (by omega) (by omega) (fun h28 => ?_) (fun h28 => ?_)
                      · exact absurd h28 (by omega)
                      · skip
                        refine J.aload_n 0 dX6_clearCounts_31 rfl rfl ?_
                        refine I.getR dX6_clearCounts_32 jcls fX6_21 (shT ht) (by decide) rfl (taT9 ht) ?_
                        refine J.iload_n 1 dX6_clearCounts_35 rfl rfl ?_
                        refine I.iconst dX6_clearCounts_36 ?_
                        refine I.callSN3v (d' := d - 1) (mi' := mX8_put) dX6_clearCounts_37 nX6_57 eX8_put (c_X8_put (d := d - 1) hl (by omega) (shT9 ht) (by first | omega | assumption) (by first | omega | assumption)) (show d - 1 + 1 ≤ d from by omega) (Nat.le_of_ble_eq_true rfl) ?_
                        refine J.aload_n 0 dX6_clearCounts_40 rfl rfl ?_
                        refine I.getR dX6_clearCounts_41 jcls fX6_24 (shT ht) (by decide) rfl (taT10 ht) ?_
                        refine J.iload_n 1 dX6_clearCounts_44 rfl rfl ?_
                        refine I.iconst dX6_clearCounts_45 ?_
                        refine I.callSN3v (d' := d - 1) (mi' := mX8_put) dX6_clearCounts_46 nX6_57 eX8_put (c_X8_put (d := d - 1) hl (by omega) (shT10 ht) (by first | omega | assumption) (by first | omega | assumption)) (show d - 1 + 1 ≤ d from by omega) (Nat.le_of_ble_eq_true rfl) ?_
                        refine I.iinc dX6_clearCounts_49 rfl rfl ?_
                        refine J.goto 26 dX6_clearCounts_52 (by decide) ?_
                        refine J.iload_n 1 dX6_clearCounts_26 rfl rfl ?_
                        refine I.iconst dX6_clearCounts_27 ?_
                        refine I.icmp_ge 55 dX6_clearCounts_28 (by decide) (by omega) (by omega) (fun h28 => ?_) (fun h28 => ?_)
                        · skip
                          exact I.vretQ dX6_clearCounts_55 rfl (by
                            refine ⟨?_, ?_, ?_, ?_⟩
                            · intro q i g; (repeat (first | rw [up_ne (Or.inl (by omega))] | rw [up_eqq ⟨by omega, by omega⟩] | rw [up_ne (Or.inr (by omega))] | rw [cpA_ne (by omega)] | rw [cpA_in ⟨by omega, by omega, by omega⟩])); first | done | rfl
                            · intro i a b; have : i = 0 ∨ i = 1 ∨ i = 2 ∨ i = 3 ∨ i = 4 ∨ i = 5 ∨ i = 6 ∨ i = 7 := by omega
                              rcases this with rfl | rfl | rfl | rfl | rfl | rfl | rfl | rfl <;> ((repeat (first | rw [up_ne (Or.inl (by omega))] | rw [up_eqq ⟨by omega, by omega⟩] | rw [up_ne (Or.inr (by omega))] | rw [cpA_ne (by omega)] | rw [cpA_in ⟨by omega, by omega, by omega⟩])); first | done | rfl)
                            · intro i a b; have : i = 0 ∨ i = 1 := by omega
                              rcases this with rfl | rfl <;> ((repeat (first | rw [up_ne (Or.inl (by omega))] | rw [up_eqq ⟨by omega, by omega⟩] | rw [up_ne (Or.inr (by omega))] | rw [cpA_ne (by omega)] | rw [cpA_in ⟨by omega, by omega, by omega⟩])); first | done | rfl)
                            · intro i a b; have : i = 0 ∨ i = 1 := by omega
                              rcases this with rfl | rfl <;> ((repeat (first | rw [up_ne (Or.inl (by omega))] | rw [up_eqq ⟨by omega, by omega⟩] | rw [up_ne (Or.inr (by omega))] | rw [cpA_ne (by omega)] | rw [cpA_in ⟨by omega, by omega, by omega⟩])); first | done | rfl))
                        · exact absurd h28 (by omega)
                  · exact absurd h8 (by omega)
set_option maxHeartbeats 1000000 in
theorem c_X2_beginRound {Γ : jE} (hl : Γ.1.stackTraces = false) {s : Nat → Int → Int} {ε : jEps} {d : Nat} {m : Nat} {r : Int} {st : Int} {f : Int → Int} (hd : 2 ≤ d) (hm : jIsM m) (p0 : RY s (m + 1) f) (p1 : FL f) (p2 : RC s (m + 7) f) (p3 : FD f r) (p4 : 0 ≤ st ∧ st ≤ 1) : Con Γ (d, 0, 0) mX2_beginRound [.ref m, .int (iI r), .int (iI st)] (jmem s ε) (RW (fun s' => RM s' m (gDeal f r st) ∧ ∀ q i, (q < m + 7 ∨ m + 15 ≤ q) → s' q i = s q i) ε) X0 := by
  refine Con.ofJ (by decide +kernel) (by simp [Value.category]) (Nat.le_of_ble_eq_true rfl) ?_ hl
  have hd1 := p3.1
  have hl0 := FL.rn p1
  have hlc := FL.ch p1 r hd1.1 hd1.2
  have hln := fun c a b => FL.len p1 r c hd1.1 hd1.2 a b
  refine J.aload_n 0 dX2_beginRound_0 rfl rfl ?_
  refine I.getR dX2_beginRound_1 jcls fX2_21 (shM hm) (by decide) rfl (taM1 hm) ?_
  refine J.iload_n 1 dX2_beginRound_4 rfl rfl ?_
  refine I.pI 0 rfl dX2_beginRound_5 jcls fX2_54 (shS hm) (by decide) rfl ?_
  refine J.aload_n 0 dX2_beginRound_8 rfl rfl ?_
  refine I.getR dX2_beginRound_9 jcls fX2_21 (shM hm) (by decide) rfl (taM1 hm) ?_
  refine J.iload_n 2 dX2_beginRound_12 rfl rfl ?_
  refine I.pI 1 rfl dX2_beginRound_13 jcls fX2_58 (shS hm) (by decide) rfl ?_
  refine J.aload_n 0 dX2_beginRound_16 rfl rfl ?_
  refine I.getR dX2_beginRound_17 jcls fX2_21 (shM hm) (by decide) rfl (taM1 hm) ?_
  refine J.iload_n 2 dX2_beginRound_20 rfl rfl ?_
  refine I.pI 2 rfl dX2_beginRound_21 jcls fX2_61 (shS hm) (by decide) rfl ?_
  refine J.aload_n 0 dX2_beginRound_24 rfl rfl ?_
  refine I.getR dX2_beginRound_25 jcls fX2_21 (shM hm) (by decide) rfl (taM1 hm) ?_
  refine I.iconst dX2_beginRound_28 ?_
  refine I.pI 3 rfl dX2_beginRound_29 jcls fX2_64 (shS hm) (by decide) rfl ?_
  refine J.aload_n 0 dX2_beginRound_32 rfl rfl ?_
  refine I.getR dX2_beginRound_33 jcls fX2_21 (shM hm) (by decide) rfl (taM1 hm) ?_
  refine I.iconst dX2_beginRound_36 ?_
  refine I.pI 5 rfl dX2_beginRound_37 jcls fX2_67 (shS hm) (by decide) rfl ?_
  refine I.iconst dX2_beginRound_40 ?_
  refine J.istore_n 3 dX2_beginRound_41 rfl (by decide) rfl ?_
  refine J.iload_n 3 dX2_beginRound_42 rfl rfl ?_
  refine I.iconst dX2_beginRound_43 ?_
  refine I.icmp_ge 91 dX2_beginRound_44 (by decide) (by omega) (by omega) (fun h44 => ?_) (fun h44 => ?_)
  · exact absurd h44 (by omega)
  · skip
    refine J.aload_n 0 dX2_beginRound_47 rfl rfl ?_
    refine I.getR dX2_beginRound_48 jcls fX2_21 (shM hm) (by decide) rfl (taM1 hm) ?_
    refine I.getR dX2_beginRound_51 jcls fX2_70 (shS hm) (by decide) rfl (taS6 hm) ?_
    refine J.iload_n 3 dX2_beginRound_54 rfl rfl ?_
    refine I.iconst dX2_beginRound_55 ?_
    refine I.callSN3v (d' := d - 1) (mi' := mX8_put) dX2_beginRound_56 nX2_74 eX8_put (c_X8_put (d := d - 1) hl (by omega) (shS6 hm) (by first | omega | assumption) (by first | omega | assumption)) (show d - 1 + 1 ≤ d from by omega) (Nat.le_of_ble_eq_true rfl) ?_
    refine J.aload_n 0 dX2_beginRound_59 rfl rfl ?_
    refine I.getR dX2_beginRound_60 jcls fX2_21 (shM hm) (by decide) rfl (taM1 hm) ?_
    refine I.getR dX2_beginRound_63 jcls fX2_78 (shS hm) (by decide) rfl (taS7 hm) ?_
    refine J.iload_n 3 dX2_beginRound_66 rfl rfl ?_
    refine I.iconst dX2_beginRound_67 ?_
    refine J.aload_n 0 dX2_beginRound_68 rfl rfl ?_
    refine I.getR dX2_beginRound_69 jcls fX2_12 (shM hm) (by decide) rfl (taM0 hm) ?_
    refine J.iload_n 1 dX2_beginRound_72 rfl rfl ?_
    refine J.iload_n 3 dX2_beginRound_73 rfl rfl ?_
    refine I.callV2i (d' := d - 1) (mi' := mX1_lengthOf) dX2_beginRound_74 lX2_81 eX1_lengthOf (shL hm) rfl (c_X1_lengthOf (d := d - 1) hl (by omega) (yM hm) (RY.congr p0 fun q i q1 q2 => by (repeat (first | rw [up_ne (Or.inl (by omega))] | rw [up_ne (Or.inr (by omega))] | rw [cpA_ne (by omega)])); first | done | rfl) (by assumption) (by first | omega | assumption) (by first | omega | assumption)) (show d - 1 + 1 ≤ d from by omega) (Nat.le_of_ble_eq_true rfl) ?_
    refine I.iconst dX2_beginRound_77 ?_
    refine I.sub dX2_beginRound_78 ?_
    refine I.mmax dX2_beginRound_79 lX2_85 (by omega) (by have := hln 0 (by omega); have := hln (0 + 1) (by omega); have := hln (0 + 1 + 1) (by omega); split <;> omega) (Nat.le_of_ble_eq_true rfl) ?_
    refine I.callSN3v (d' := d - 1) (mi' := mX8_put) dX2_beginRound_82 nX2_74 eX8_put (c_X8_put (d := d - 1) hl (by omega) (shS7 hm) (by first | omega | assumption) (by first | omega | assumption)) (show d - 1 + 1 ≤ d from by omega) (Nat.le_of_ble_eq_true rfl) ?_
    refine I.iinc dX2_beginRound_85 rfl rfl ?_
    refine J.goto 42 dX2_beginRound_88 (by decide) ?_
    refine J.iload_n 3 dX2_beginRound_42 rfl rfl ?_
    refine I.iconst dX2_beginRound_43 ?_
    refine I.icmp_ge 91 dX2_beginRound_44 (by decide) (by omega) (by omega) (fun h44 => ?_) (fun h44 => ?_)
    · exact absurd h44 (by omega)
    · skip
      refine J.aload_n 0 dX2_beginRound_47 rfl rfl ?_
      refine I.getR dX2_beginRound_48 jcls fX2_21 (shM hm) (by decide) rfl (taM1 hm) ?_
      refine I.getR dX2_beginRound_51 jcls fX2_70 (shS hm) (by decide) rfl (taS6 hm) ?_
      refine J.iload_n 3 dX2_beginRound_54 rfl rfl ?_
      refine I.iconst dX2_beginRound_55 ?_
      refine I.callSN3v (d' := d - 1) (mi' := mX8_put) dX2_beginRound_56 nX2_74 eX8_put (c_X8_put (d := d - 1) hl (by omega) (shS6 hm) (by first | omega | assumption) (by first | omega | assumption)) (show d - 1 + 1 ≤ d from by omega) (Nat.le_of_ble_eq_true rfl) ?_
      refine J.aload_n 0 dX2_beginRound_59 rfl rfl ?_
      refine I.getR dX2_beginRound_60 jcls fX2_21 (shM hm) (by decide) rfl (taM1 hm) ?_
      refine I.getR dX2_beginRound_63 jcls fX2_78 (shS hm) (by decide) rfl (taS7 hm) ?_
      refine J.iload_n 3 dX2_beginRound_66 rfl rfl ?_
      refine I.iconst dX2_beginRound_67 ?_
      refine J.aload_n 0 dX2_beginRound_68 rfl rfl ?_
      refine I.getR dX2_beginRound_69 jcls fX2_12 (shM hm) (by decide) rfl (taM0 hm) ?_
      refine J.iload_n 1 dX2_beginRound_72 rfl rfl ?_
      refine J.iload_n 3 dX2_beginRound_73 rfl rfl ?_
      refine I.callV2i (d' := d - 1) (mi' := mX1_lengthOf) dX2_beginRound_74 lX2_81 eX1_lengthOf (shL hm) rfl (c_X1_lengthOf (d := d - 1) hl (by omega) (yM hm) (RY.congr p0 fun q i q1 q2 => by (repeat (first | rw [up_ne (Or.inl (by omega))] | rw [up_ne (Or.inr (by omega))] | rw [cpA_ne (by omega)])); first | done | rfl) (by assumption) (by first | omega | assumption) (by first | omega | assumption)) (show d - 1 + 1 ≤ d from by omega) (Nat.le_of_ble_eq_true rfl) ?_
      refine I.iconst dX2_beginRound_77 ?_
      refine I.sub dX2_beginRound_78 ?_
      refine I.mmax dX2_beginRound_79 lX2_85 (by omega) (by have := hln 0 (by omega); have := hln (0 + 1) (by omega); have := hln (0 + 1 + 1) (by omega); split <;> omega) (Nat.le_of_ble_eq_true rfl) ?_
      refine I.callSN3v (d' := d - 1) (mi' := mX8_put) dX2_beginRound_82 nX2_74 eX8_put (c_X8_put (d := d - 1) hl (by omega) (shS7 hm) (by first | omega | assumption) (by first | omega | assumption)) (show d - 1 + 1 ≤ d from by omega) (Nat.le_of_ble_eq_true rfl) ?_
      refine I.iinc dX2_beginRound_85 rfl rfl ?_
      refine J.goto 42 dX2_beginRound_88 (by decide) ?_
      refine J.iload_n 3 dX2_beginRound_42 rfl rfl ?_
      refine I.iconst dX2_beginRound_43 ?_
      refine I.icmp_ge 91 dX2_beginRound_44 (by decide) (by omega) (by omega) (fun h44 => ?_) (fun h44 => ?_)
      · exact absurd h44 (by omega)
      · skip
        refine J.aload_n 0 dX2_beginRound_47 rfl rfl ?_
        refine I.getR dX2_beginRound_48 jcls fX2_21 (shM hm) (by decide) rfl (taM1 hm) ?_
        refine I.getR dX2_beginRound_51 jcls fX2_70 (shS hm) (by decide) rfl (taS6 hm) ?_
        refine J.iload_n 3 dX2_beginRound_54 rfl rfl ?_
        refine I.iconst dX2_beginRound_55 ?_
        refine I.callSN3v (d' := d - 1) (mi' := mX8_put) dX2_beginRound_56 nX2_74 eX8_put (c_X8_put (d := d - 1) hl (by omega) (shS6 hm) (by first | omega | assumption) (by first | omega | assumption)) (show d - 1 + 1 ≤ d from by omega) (Nat.le_of_ble_eq_true rfl) ?_
        refine J.aload_n 0 dX2_beginRound_59 rfl rfl ?_
        refine I.getR dX2_beginRound_60 jcls fX2_21 (shM hm) (by decide) rfl (taM1 hm) ?_
        refine I.getR dX2_beginRound_63 jcls fX2_78 (shS hm) (by decide) rfl (taS7 hm) ?_
        refine J.iload_n 3 dX2_beginRound_66 rfl rfl ?_
        refine I.iconst dX2_beginRound_67 ?_
        refine J.aload_n 0 dX2_beginRound_68 rfl rfl ?_
        refine I.getR dX2_beginRound_69 jcls fX2_12 (shM hm) (by decide) rfl (taM0 hm) ?_
        refine J.iload_n 1 dX2_beginRound_72 rfl rfl ?_
        refine J.iload_n 3 dX2_beginRound_73 rfl rfl ?_
        refine I.callV2i (d' := d - 1) (mi' := mX1_lengthOf) dX2_beginRound_74 lX2_81 eX1_lengthOf (shL hm) rfl (c_X1_lengthOf (d := d - 1) hl (by omega) (yM hm) (RY.congr p0 fun q i q1 q2 => by (repeat (first | rw [up_ne (Or.inl (by omega))] | rw [up_ne (Or.inr (by omega))] | rw [cpA_ne (by omega)])); first | done | rfl) (by assumption) (by first | omega | assumption) (by first | omega | assumption)) (show d - 1 + 1 ≤ d from by omega) (Nat.le_of_ble_eq_true rfl) ?_
        refine I.iconst dX2_beginRound_77 ?_
        refine I.sub dX2_beginRound_78 ?_
        refine I.mmax dX2_beginRound_79 lX2_85 (by omega) (by have := hln 0 (by omega); have := hln (0 + 1) (by omega); have := hln (0 + 1 + 1) (by omega); split <;> omega) (Nat.le_of_ble_eq_true rfl) ?_
        refine I.callSN3v (d' := d - 1) (mi' := mX8_put) dX2_beginRound_82 nX2_74 eX8_put (c_X8_put (d := d - 1) hl (by omega) (shS7 hm) (by first | omega | assumption) (by first | omega | assumption)) (show d - 1 + 1 ≤ d from by omega) (Nat.le_of_ble_eq_true rfl) ?_
        refine I.iinc dX2_beginRound_85 rfl rfl ?_
        refine J.goto 42 dX2_beginRound_88 (by decide) ?_
        refine J.iload_n 3 dX2_beginRound_42 rfl rfl ?_
        refine I.iconst dX2_beginRound_43 ?_
        refine I.icmp_ge 91 dX2_beginRound_44 (by decide) (by omega) (by omega) (fun h44 => ?_) (fun h44 => ?_)
        · skip
          refine J.aload_n 0 dX2_beginRound_91 rfl rfl ?_
          refine I.getR dX2_beginRound_92 jcls fX2_21 (shM hm) (by decide) rfl (taM1 hm) ?_
          refine J.aload_n 0 dX2_beginRound_95 rfl rfl ?_
          refine I.callV0i (d' := d - 1) (mi' := mX2_burnsNow) dX2_beginRound_96 lX2_90 eX2_burnsNow (shM hm) rfl (c_X2_burnsNow (d := d - 1) hl (by omega) hm) (show d - 1 + 1 ≤ d from by omega) (Nat.le_of_ble_eq_true rfl) ?_
          refine I.if_ne 106 dX2_beginRound_99 (by decide) (by have a0 := hln 0 (by omega); have a1 := hln 1 (by omega); have a2 := hln 2 (by omega); simp only [Int.add_zero] at a0; simp [up]; (repeat' split) <;> omega) (fun h99 => ?_) (fun h99 => ?_)
          · skip
            refine I.iconst dX2_beginRound_106 ?_
            refine I.pZ 4 rfl dX2_beginRound_107 jcls fX2_94 (shS hm) (by decide) rfl (by first | exact Or.inl rfl | exact Or.inr rfl | exact bI_01 _ | omega) ?_
            exact I.vretQ dX2_beginRound_110 rfl (by
              have a0 := hln 0 (by omega); have a1 := hln 1 (by omega); have a2 := hln 2 (by omega)
              refine RM_deal p0 p1 p2 p3 p4 ?_ ?_ ?_ ?_ ?_ ?_ ?_ ?_ ?_
              · intro q i g; (repeat (first | rw [up_ne (Or.inl (by omega))] | rw [up_eqq ⟨by omega, by omega⟩] | rw [up_ne (Or.inr (by omega))] | rw [cpA_ne (by omega)] | rw [cpA_in ⟨by omega, by omega, by omega⟩])); first | done | rfl
              · (repeat (first | rw [up_ne (Or.inl (by omega))] | rw [up_eqq ⟨by omega, by omega⟩] | rw [up_ne (Or.inr (by omega))] | rw [cpA_ne (by omega)] | rw [cpA_in ⟨by omega, by omega, by omega⟩])); first | done | rfl
              · (repeat (first | rw [up_ne (Or.inl (by omega))] | rw [up_eqq ⟨by omega, by omega⟩] | rw [up_ne (Or.inr (by omega))] | rw [cpA_ne (by omega)] | rw [cpA_in ⟨by omega, by omega, by omega⟩])); first | done | rfl
              · (repeat (first | rw [up_ne (Or.inl (by omega))] | rw [up_eqq ⟨by omega, by omega⟩] | rw [up_ne (Or.inr (by omega))] | rw [cpA_ne (by omega)] | rw [cpA_in ⟨by omega, by omega, by omega⟩])); first | done | rfl
              · (repeat (first | rw [up_ne (Or.inl (by omega))] | rw [up_eqq ⟨by omega, by omega⟩] | rw [up_ne (Or.inr (by omega))] | rw [cpA_ne (by omega)] | rw [cpA_in ⟨by omega, by omega, by omega⟩])); first | done | rfl
              · (repeat (first | rw [up_ne (Or.inl (by omega))] | rw [up_eqq ⟨by omega, by omega⟩] | rw [up_ne (Or.inr (by omega))] | rw [cpA_ne (by omega)] | rw [cpA_in ⟨by omega, by omega, by omega⟩])); first | done | rfl
              · intro i g0 g1; have : i = 0 ∨ i = 1 ∨ i = 2 := by omega
                rcases this with rfl | rfl | rfl <;> ((repeat (first | rw [up_ne (Or.inl (by omega))] | rw [up_eqq ⟨by omega, by omega⟩] | rw [up_ne (Or.inr (by omega))] | rw [cpA_ne (by omega)] | rw [cpA_in ⟨by omega, by omega, by omega⟩])); first | done | rfl)
              · intro i g0 g1; have : i = 0 ∨ i = 1 ∨ i = 2 := by omega
                rcases this with rfl | rfl | rfl <;> ((repeat (first | rw [up_ne (Or.inl (by omega))] | rw [up_eqq ⟨by omega, by omega⟩] | rw [up_ne (Or.inr (by omega))])); (try simp only [Int.zero_add, Int.reduceAdd]); split <;> omega)
              · first | exact (bI_t (by assumption)).symm | exact (bI_f (by assumption)).symm)
          · skip
            refine I.iconst dX2_beginRound_102 ?_
            refine J.goto 107 dX2_beginRound_103 (by decide) ?_
            refine I.pZ 4 rfl dX2_beginRound_107 jcls fX2_94 (shS hm) (by decide) rfl (by first | exact Or.inl rfl | exact Or.inr rfl | exact bI_01 _ | omega) ?_
            exact I.vretQ dX2_beginRound_110 rfl (by
              have a0 := hln 0 (by omega); have a1 := hln 1 (by omega); have a2 := hln 2 (by omega)
              refine RM_deal p0 p1 p2 p3 p4 ?_ ?_ ?_ ?_ ?_ ?_ ?_ ?_ ?_
              · intro q i g; (repeat (first | rw [up_ne (Or.inl (by omega))] | rw [up_eqq ⟨by omega, by omega⟩] | rw [up_ne (Or.inr (by omega))] | rw [cpA_ne (by omega)] | rw [cpA_in ⟨by omega, by omega, by omega⟩])); first | done | rfl
              · (repeat (first | rw [up_ne (Or.inl (by omega))] | rw [up_eqq ⟨by omega, by omega⟩] | rw [up_ne (Or.inr (by omega))] | rw [cpA_ne (by omega)] | rw [cpA_in ⟨by omega, by omega, by omega⟩])); first | done | rfl
              · (repeat (first | rw [up_ne (Or.inl (by omega))] | rw [up_eqq ⟨by omega, by omega⟩] | rw [up_ne (Or.inr (by omega))] | rw [cpA_ne (by omega)] | rw [cpA_in ⟨by omega, by omega, by omega⟩])); first | done | rfl
              · (repeat (first | rw [up_ne (Or.inl (by omega))] | rw [up_eqq ⟨by omega, by omega⟩] | rw [up_ne (Or.inr (by omega))] | rw [cpA_ne (by omega)] | rw [cpA_in ⟨by omega, by omega, by omega⟩])); first | done | rfl
              · (repeat (first | rw [up_ne (Or.inl (by omega))] | rw [up_eqq ⟨by omega, by omega⟩] | rw [up_ne (Or.inr (by omega))] | rw [cpA_ne (by omega)] | rw [cpA_in ⟨by omega, by omega, by omega⟩])); first | done | rfl
              · (repeat (first | rw [up_ne (Or.inl (by omega))] | rw [up_eqq ⟨by omega, by omega⟩] | rw [up_ne (Or.inr (by omega))] | rw [cpA_ne (by omega)] | rw [cpA_in ⟨by omega, by omega, by omega⟩])); first | done | rfl
              · intro i g0 g1; have : i = 0 ∨ i = 1 ∨ i = 2 := by omega
                rcases this with rfl | rfl | rfl <;> ((repeat (first | rw [up_ne (Or.inl (by omega))] | rw [up_eqq ⟨by omega, by omega⟩] | rw [up_ne (Or.inr (by omega))] | rw [cpA_ne (by omega)] | rw [cpA_in ⟨by omega, by omega, by omega⟩])); first | done | rfl)
              · intro i g0 g1; have : i = 0 ∨ i = 1 ∨ i = 2 := by omega
                rcases this with rfl | rfl | rfl <;> ((repeat (first | rw [up_ne (Or.inl (by omega))] | rw [up_eqq ⟨by omega, by omega⟩] | rw [up_ne (Or.inr (by omega))])); (try simp only [Int.zero_add, Int.reduceAdd]); split <;> omega)
              · first | exact (bI_t (by assumption)).symm | exact (bI_f (by assumption)).symm)
        · exact absurd h44 (by omega)
set_option maxHeartbeats 1000000 in
theorem c_X2_beginNext {Γ : jE} (hl : Γ.1.stackTraces = false) {s : Nat → Int → Int} {ε : jEps} {d : Nat} {m : Nat} {f : Int → Int} (hd : 3 ≤ d) (hm : jIsM m) (p0 : RM s m f) (p1 : f 1 + 1 < f 0) : Con Γ (d, 0, 0) mX2_beginNext [.ref m] (jmem s ε) (RW (fun s' => RM s' m (gNext f) ∧ ∀ q i, (q < m + 7 ∨ m + 15 ≤ q) → s' q i = s q i) ε) X0 := by
  refine Con.ofJ (by decide +kernel) (by simp [Value.category]) (Nat.le_of_ble_eq_true rfl) ?_ hl
  have hw := RM.w p0
  have r0 := RM.sr p0 (f 1) 0 (by omega) (by omega) (by omega) (by omega)
  have r1 := RM.sr p0 (f 1) 1 (by omega) (by omega) (by omega) (by omega)
  refine J.aload_n 0 dX2_beginNext_0 rfl rfl ?_
  refine I.iconst dX2_beginNext_1 ?_
  refine I.callV1i (d' := d - 1) (mi' := mX2_scoreNow) dX2_beginNext_2 lX2_98 eX2_scoreNow (shM hm) rfl (c_X2_scoreNow (d := d - 1) hl (by omega) hm (by assumption) (by first | omega | assumption)) (show d - 1 + 1 ≤ d from by omega) (Nat.le_of_ble_eq_true rfl) ?_
  refine J.aload_n 0 dX2_beginNext_5 rfl rfl ?_
  refine I.iconst dX2_beginNext_6 ?_
  refine I.callV1i (d' := d - 1) (mi' := mX2_scoreNow) dX2_beginNext_7 lX2_98 eX2_scoreNow (shM hm) rfl (c_X2_scoreNow (d := d - 1) hl (by omega) hm (by assumption) (by first | omega | assumption)) (show d - 1 + 1 ≤ d from by omega) (Nat.le_of_ble_eq_true rfl) ?_
  refine I.sub dX2_beginNext_10 ?_
  refine I.callSN1i (d' := d - 1) (mi' := mX8_leader) dX2_beginNext_11 nX2_102 eX8_leader (c_X8_leader (d := d - 1) hl (by omega) (by first | omega | assumption)) (show d - 1 + 1 ≤ d from by omega) (Nat.le_of_ble_eq_true rfl) ?_
  refine J.istore_n 1 dX2_beginNext_14 rfl (by decide) rfl ?_
  refine J.aload_n 0 dX2_beginNext_15 rfl rfl ?_
  refine J.aload_n 0 dX2_beginNext_16 rfl rfl ?_
  refine I.getR dX2_beginNext_17 jcls fX2_21 (shM hm) (by decide) rfl (taM1 hm) ?_
  refine I.gI 0 rfl dX2_beginNext_20 jcls fX2_54 (shS hm) (by decide) rfl ?_
  refine I.sx (RM.round p0) ?_
  refine I.iconst dX2_beginNext_23 ?_
  refine I.add dX2_beginNext_24 ?_
  refine J.iload_n 1 dX2_beginNext_25 rfl rfl ?_
  refine I.iconst dX2_beginNext_26 ?_
  refine I.icmp_ne 40 dX2_beginNext_27 (by decide) (by omega) (by omega) (fun h27 => ?_) (fun h27 => ?_)
  · skip
    refine I.iconst dX2_beginNext_40 ?_
    refine J.iload_n 1 dX2_beginNext_41 rfl rfl ?_
    refine I.sub dX2_beginNext_42 ?_
    refine I.sx (y := gNextSt f) (by unfold gNextSt; omega) ?_
    refine I.callV2w (d' := d - 1) (mi' := mX2_beginRound) dX2_beginNext_43 lX2_51 eX2_beginRound (shM hm) rfl (c_X2_beginRound (d := d - 1) hl (f := f) (st := gNextSt f) (by omega) hm p0.y p0.l p0.t.rc (FD_next p0.l p0.v p1) (by unfold gNextSt; omega)) (show d - 1 + 1 ≤ d from by omega) (Nat.le_of_ble_eq_true rfl) ?_
    rintro s43 h43
    exact I.vretQ dX2_beginNext_46 rfl h43
  · skip
    refine J.aload_n 0 dX2_beginNext_30 rfl rfl ?_
    refine I.getR dX2_beginNext_31 jcls fX2_21 (shM hm) (by decide) rfl (taM1 hm) ?_
    refine I.gI 1 rfl dX2_beginNext_34 jcls fX2_58 (shS hm) (by decide) rfl ?_
    refine I.sx (RM.starter p0) ?_
    refine J.goto 43 dX2_beginNext_37 (by decide) ?_
    refine I.sx (y := gNextSt f) (by unfold gNextSt; omega) ?_
    refine I.callV2w (d' := d - 1) (mi' := mX2_beginRound) dX2_beginNext_43 lX2_51 eX2_beginRound (shM hm) rfl (c_X2_beginRound (d := d - 1) hl (f := f) (st := gNextSt f) (by omega) hm p0.y p0.l p0.t.rc (FD_next p0.l p0.v p1) (by unfold gNextSt; omega)) (show d - 1 + 1 ≤ d from by omega) (Nat.le_of_ble_eq_true rfl) ?_
    rintro s43 h43
    exact I.vretQ dX2_beginNext_46 rfl h43
set_option maxHeartbeats 1000000 in
theorem c_X2_beginMatch {Γ : jE} (hl : Γ.1.stackTraces = false) {s : Nat → Int → Int} {ε : jEps} {d : Nat} {m : Nat} {f : Int → Int} (hd : 3 ≤ d) (hm : jIsM m) (p0 : RY s (m + 1) f) (p1 : FL f) (p2 : ∀ j, 6 ≤ j → j < 18 → f j = 0) : Con Γ (d, 0, 0) mX2_beginMatch [.ref m] (jmem s ε) (RW (fun s' => RM s' m (gDeal f 0 0) ∧ ∀ q i, (q < m + 7 ∨ m + 15 ≤ q) → s' q i = s q i) ε) X0 := by
  refine Con.ofJ (by decide +kernel) (by simp [Value.category]) (Nat.le_of_ble_eq_true rfl) ?_ hl
  have hr := FL.rn p1
  refine J.aload_n 0 dX2_beginMatch_0 rfl rfl ?_
  refine I.getR dX2_beginMatch_1 jcls fX2_21 (shM hm) (by decide) rfl (taM1 hm) ?_
  refine I.callV0w (d' := d - 1) (mi' := mX6_clearCounts) dX2_beginMatch_4 lX2_48 eX6_clearCounts (shS hm) rfl (c_X6_clearCounts (d := d - 1) hl (by omega) (tM hm)) (show d - 1 + 1 ≤ d from by omega) (Nat.le_of_ble_eq_true rfl) ?_
  rintro s1 ⟨a, a3, a4, a5⟩
  refine J.aload_n 0 dX2_beginMatch_7 rfl rfl ?_
  refine I.iconst dX2_beginMatch_8 ?_
  refine I.iconst dX2_beginMatch_9 ?_
  refine I.callV2w (d' := d - 1) (mi' := mX2_beginRound) dX2_beginMatch_10 lX2_51 eX2_beginRound (shM hm) rfl (c_X2_beginRound (d := d - 1) hl (f := f) (by omega) hm (p0.congr fun q i q1 q2 => a q i (by omega)) p1 ⟨fun r p r0 r1 p0' p1' => by rw [p2 _ (by omega) (by omega)]; exact a3 _ (by omega) (by omega), fun p p0' p1' => by rw [p2 _ (by omega) (by omega)]; exact a4 _ (by omega) (by omega), fun p p0' p1' => by rw [p2 _ (by omega) (by omega)]; exact a5 _ (by omega) (by omega)⟩ ⟨by omega, fun x p x0 x1 p0' p1' => by rw [p2 _ (by omega) (by omega), if_neg (by omega)]; omega, fun p p0' p1' => by rw [p2 _ (by omega) (by omega)]; omega⟩ (by first | omega | assumption)) (show d - 1 + 1 ≤ d from by omega) (Nat.le_of_ble_eq_true rfl) ?_
  rintro s10 h10
  exact I.vretQ dX2_beginMatch_13 rfl ⟨h10.1, fun q i g => by rw [h10.2 q i g, a q i (by omega)]⟩
