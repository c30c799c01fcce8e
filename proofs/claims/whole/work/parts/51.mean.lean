/-- a double answer -/
def RD (Q : UInt64 → (Nat → Int → Int) → Prop) (ε : jEps) : Option Value → jM → Prop := fun v M => ∃ x s', v = some (.double x) ∧ M = jmem s' ε ∧ Q x s'
theorem I.dretQ {Γ : jE} {b : Nat × Nat × Nat} {mi : jMI} {pc : Nat} {L : List (Option Value)} {X : String → jM → Prop} {s : Nat → Int → Int} {ε : jEps} {x : UInt64} {Q : UInt64 → (Nat → Int → Int) → Prop} (d : decode mi.2.1 pc = .ok (.dreturn, 1)) (hr : mi.2.2.2 = some .double) (hq : Q x s) : J Γ b mi pc L [.double x] (jmem s ε) (RD Q ε) X := J.dret hr d ⟨x, s, rfl, rfl, hq⟩
theorem fp_enc (s : Bool) (n m : Nat) (e : Int) : Jvm.FP.Core.encode Jvm.FP.Core.b64 (Jvm.FP.Core.roundRatio Jvm.FP.Core.b64 s n m e) < 18446744073709551616 ∧ Jvm.FP.Core.encode Jvm.FP.Core.b64 (Jvm.FP.Core.roundRatio Jvm.FP.Core.b64 s n m e) % 9223372036854775808 ≤ 9218868437227405312 := by
  have hF : ∀ (c : Nat) (q : Int), c < 9007199254740992 → q ≤ 971 → Jvm.FP.Core.encode Jvm.FP.Core.b64 (.fin s c q) < 18446744073709551616 ∧ Jvm.FP.Core.encode Jvm.FP.Core.b64 (.fin s c q) % 9223372036854775808 ≤ 9218868437227405312 := by
    intro c q hc hq
    have e1 : Jvm.FP.Core.encode Jvm.FP.Core.b64 (.fin s c q) = if c < 4503599627370496 then (s.toNat * 2048 + 0) * 4503599627370496 + c else (s.toNat * 2048 + ((q - -1074).toNat + 1)) * 4503599627370496 + (c - 4503599627370496) := rfl
    rw [e1]
    have hs : s.toNat = 0 ∨ s.toNat = 1 := by cases s <;> simp
    split <;> rcases hs with hs | hs <;> rw [hs] <;> omega
  have hI : Jvm.FP.Core.encode Jvm.FP.Core.b64 (.inf s) < 18446744073709551616 ∧ Jvm.FP.Core.encode Jvm.FP.Core.b64 (.inf s) % 9223372036854775808 ≤ 9218868437227405312 := by cases s <;> decide +kernel
  have hB : ∀ (c : Nat) (q : Int), c < 9007199254740992 → Jvm.FP.Core.encode Jvm.FP.Core.b64 (Jvm.FP.Core.bound Jvm.FP.Core.b64 s c q) < 18446744073709551616 ∧ Jvm.FP.Core.encode Jvm.FP.Core.b64 (Jvm.FP.Core.bound Jvm.FP.Core.b64 s c q) % 9223372036854775808 ≤ 9218868437227405312 := by
    intro c q hc
    unfold Jvm.FP.Core.bound
    split
    · rename_i h
      exact hF c q hc h
    · exact hI
  unfold Jvm.FP.Core.roundRatio
  split
  · exact hF 0 _ (by decide) (by decide)
  · unfold Jvm.FP.Core.roundAt Jvm.FP.Core.settle
    split
    · rename_i h
      exact hB _ _ h
    · exact hB _ _ (by decide)
theorem fp_dec (x : Int32) : Jvm.FP.Core.decode Jvm.FP.Core.b64 (Jvm.FP.i2d x).toNat ≠ .nan := by
  obtain ⟨h1, h2⟩ := fp_enc (decide (x.toInt < 0)) x.toInt.natAbs 1 0
  have e : (Jvm.FP.i2d x).toNat = Jvm.FP.Core.encode Jvm.FP.Core.b64 (Jvm.FP.Core.roundRatio Jvm.FP.Core.b64 (decide (x.toInt < 0)) x.toInt.natAbs 1 0) := UInt64.toNat_ofNat_of_lt h1
  rw [e]
  generalize Jvm.FP.Core.encode Jvm.FP.Core.b64 (Jvm.FP.Core.roundRatio Jvm.FP.Core.b64 (decide (x.toInt < 0)) x.toInt.natAbs 1 0) = n at h1 h2
  have e1 : Jvm.FP.Core.decode Jvm.FP.Core.b64 n = if n / 4503599627370496 % 2048 = 2047 then (if n % 4503599627370496 = 0 then .inf (Jvm.FP.Core.fieldS Jvm.FP.Core.b64 n) else .nan) else if n / 4503599627370496 % 2048 = 0 then .fin (Jvm.FP.Core.fieldS Jvm.FP.Core.b64 n) (Jvm.FP.Core.fieldT Jvm.FP.Core.b64 n) Jvm.FP.Core.b64.qmin else .fin (Jvm.FP.Core.fieldS Jvm.FP.Core.b64 n) (Jvm.FP.Core.b64.tails + Jvm.FP.Core.fieldT Jvm.FP.Core.b64 n) (Jvm.FP.Core.b64.qmin + ((Jvm.FP.Core.fieldE Jvm.FP.Core.b64 n : Int) - 1)) := rfl
  rw [e1]
  split
  · split
    · exact fun h => by cases h
    · omega
  · split <;> exact fun h => by cases h
def fpY (d : Jvm.FP.Core.Datum) : Bool := match d with | .fin _ c _ => c != 0 | _ => false
theorem fp_small : ∀ k : Fin 100, k.val ≠ 0 → fpY (Jvm.FP.Core.decode Jvm.FP.Core.b64 (Jvm.FP.i2d (Int32.ofInt (k.val : Int))).toNat) = true := by decide +kernel
theorem fp_div (x : Int32) {y : Int} (h0 : 1 ≤ y) (h1 : y < 100) : vf_n64 (Jvm.FP.ddiv (Jvm.FP.i2d x) (Jvm.FP.i2d (iI y))) := by
  have hx := fp_dec x
  have hy := fp_small ⟨y.toNat, by omega⟩ (by dsimp only; omega)
  dsimp only at hy
  rw [show ((y.toNat : Nat) : Int) = y by omega] at hy
  change fpY (Jvm.FP.Core.decode Jvm.FP.Core.b64 (Jvm.FP.i2d (iI y)).toNat) = true at hy
  have hq : Jvm.FP.Core.encode Jvm.FP.Core.b64 (Jvm.FP.Core.quotient Jvm.FP.Core.b64 (Jvm.FP.Core.decode Jvm.FP.Core.b64 (Jvm.FP.i2d x).toNat) (Jvm.FP.Core.decode Jvm.FP.Core.b64 (Jvm.FP.i2d (iI y)).toNat)) < 18446744073709551616 ∧ Jvm.FP.Core.encode Jvm.FP.Core.b64 (Jvm.FP.Core.quotient Jvm.FP.Core.b64 (Jvm.FP.Core.decode Jvm.FP.Core.b64 (Jvm.FP.i2d x).toNat) (Jvm.FP.Core.decode Jvm.FP.Core.b64 (Jvm.FP.i2d (iI y)).toNat)) % 9223372036854775808 ≤ 9218868437227405312 := by
    generalize Jvm.FP.Core.decode Jvm.FP.Core.b64 (Jvm.FP.i2d x).toNat = a at hx
    generalize Jvm.FP.Core.decode Jvm.FP.Core.b64 (Jvm.FP.i2d (iI y)).toNat = c at hy
    cases c with
    | nan => cases hy
    | inf t => cases hy
    | fin t m r =>
      have hm : m ≠ 0 := by simpa [fpY] using hy
      cases a with
      | nan => exact absurd rfl hx
      | inf u =>
        show Jvm.FP.Core.encode Jvm.FP.Core.b64 (.inf (u != t)) < _ ∧ Jvm.FP.Core.encode Jvm.FP.Core.b64 (.inf (u != t)) % _ ≤ _
        generalize (u != t) = w
        cases w <;> decide +kernel
      | fin u n q =>
        have e : Jvm.FP.Core.quotient Jvm.FP.Core.b64 (.fin u n q) (.fin t m r) = Jvm.FP.Core.roundRatio Jvm.FP.Core.b64 (u != t) n m (q - r) := by
          show (if m = 0 then _ else _) = _
          rw [if_neg hm]
        rw [e]
        exact fp_enc _ _ _ _
  obtain ⟨h2, h3⟩ := hq
  have e : (Jvm.FP.ddiv (Jvm.FP.i2d x) (Jvm.FP.i2d (iI y))).toNat = Jvm.FP.Core.encode Jvm.FP.Core.b64 (Jvm.FP.Core.quotient Jvm.FP.Core.b64 (Jvm.FP.Core.decode Jvm.FP.Core.b64 (Jvm.FP.i2d x).toNat) (Jvm.FP.Core.decode Jvm.FP.Core.b64 (Jvm.FP.i2d (iI y)).toNat)) := UInt64.toNat_ofNat_of_lt h2
  unfold vf_n64
  rw [UInt64.le_iff_toNat_le, UInt64.toNat_and, e, show (0x7fffffffffffffff : UInt64).toNat = 2 ^ 63 - 1 by decide, Nat.and_two_pow_sub_one_eq_mod]
  exact h3
theorem fp_cmp (x : UInt64) (op : CmpOp) : Op.cmpValue (Jvm.FP.dcmp x x) op = 0 ∨ Op.cmpValue (Jvm.FP.dcmp x x) op ≠ 0 ∧ Jvm.FP.dcmp x x = none := by
  show Op.cmpValue (Jvm.FP.Core.order (Jvm.FP.Core.decode Jvm.FP.Core.b64 x.toNat) (Jvm.FP.Core.decode Jvm.FP.Core.b64 x.toNat)) op = 0 ∨ Op.cmpValue (Jvm.FP.Core.order (Jvm.FP.Core.decode Jvm.FP.Core.b64 x.toNat) (Jvm.FP.Core.decode Jvm.FP.Core.b64 x.toNat)) op ≠ 0 ∧ Jvm.FP.Core.order (Jvm.FP.Core.decode Jvm.FP.Core.b64 x.toNat) (Jvm.FP.Core.decode Jvm.FP.Core.b64 x.toNat) = none
  generalize Jvm.FP.Core.decode Jvm.FP.Core.b64 x.toNat = a
  cases a with
  | nan => right; exact ⟨by cases op <;> decide, rfl⟩
  | inf u => left; cases u <;> cases op <;> rfl
  | fin u n q =>
    left
    have e : Jvm.FP.Core.order (.fin u n q) (.fin u n q) = some .eq := by
      show some (compare _ _) = _
      simp
    rw [e]
    cases op <;> rfl
noncomputable def gMean (f : Int → Int) (p : Int) : UInt64 := if f (14 + p) = 0 then 0 else Jvm.FP.ddiv (Jvm.FP.i2d (iI (gTot f p))) (Jvm.FP.i2d (iI (f (14 + p))))
set_option maxHeartbeats 1000000 in
theorem c_X8_meanTileScore {Γ : jE} (hl : Γ.1.stackTraces = false) {s : Nat → Int → Int} {ε : jEps} {d : Nat} {p : Int} {f : Int → Int} (hd : 3 ≤ d) (p0 : RM s 21 f) (p1 : -2147483648 ≤ p ∧ p < 2147483648) : Con Γ (d, 1, 6) mX8_meanTileScore [.ref 0, .int (iI p)] (jmem s ε) (RD (fun w s' => (0 ≤ p ∧ p ≤ 1) ∧ gMean f p = w ∧ s = s') ε) (XT "java/lang/IndexOutOfBoundsException" (¬ (0 ≤ p ∧ p ≤ 1)) s ε) := by
  refine Con.ofJ (by decide +kernel) (by simp [Value.category]) (Nat.le_of_ble_eq_true rfl) ?_ hl
  have hw := RM.w p0
  refine J.aload_n 0 dX8_meanTileScore_0 rfl rfl ?_
  refine J.iload_n 1 dX8_meanTileScore_1 rfl rfl ?_
  refine I.callV1wX (b' := (d - 1, 1, 6)) (mi' := mX8_needPlayer) dX8_meanTileScore_2 lX8_148 eX8_needPlayer rfl rfl (c_X8_needPlayer (d := d - 1) hl (by omega) (by assumption) (by first | omega | assumption)) (show d - 1 + 1 ≤ d ∧ 1 ≤ 1 ∧ 6 ≤ 6 from ⟨by omega, by decide, by decide⟩) (by rintro E M' ⟨rfl, hc, rfl⟩; exact ⟨rfl, by first | exact hc | omega, rfl⟩) (Nat.le_of_ble_eq_true rfl) ?_
  rintro _ ⟨rfl, ok2⟩
  have hb := p0.v.bu p ok2.1 ok2.2
  have hb2 := gBt_rng p0.l p0.v
  refine J.aload_n 0 dX8_meanTileScore_5 rfl rfl ?_
  refine I.getR dX8_meanTileScore_6 jcls fX8_30 rfl (by decide) rfl rfl ?_
  refine I.getR dX8_meanTileScore_9 jcls fX8_129 rfl (by decide) rfl rfl ?_
  refine I.getR dX8_meanTileScore_12 jcls fX8_167 rfl (by decide) rfl rfl ?_
  refine J.iload_n 1 dX8_meanTileScore_15 rfl rfl ?_
  refine I.callS2i (d' := d - 1) (mi' := mX8_at) dX8_meanTileScore_16 lX8_170 eX8_at rfl (c_X8_at (d := d - 1) hl (by omega) rfl (by omega) (by omega)) (show d - 1 + 1 ≤ d from by omega) (Nat.le_of_ble_eq_true rfl) ?_
  refine I.sx (p0.burnt p ok2.1 ok2.2) ?_
  refine J.istore_n 2 dX8_meanTileScore_19 rfl (by decide) rfl ?_
  refine J.iload_n 2 dX8_meanTileScore_20 rfl rfl ?_
  refine I.if_ne 28 dX8_meanTileScore_21 (by decide) (by omega) (fun h21 => ?_) (fun h21 => ?_)
  · refine J.aload_n 0 dX8_meanTileScore_28 rfl rfl ?_
    refine I.getR dX8_meanTileScore_29 jcls fX8_30 rfl (by decide) rfl rfl ?_
    refine J.iload_n 1 dX8_meanTileScore_32 rfl rfl ?_
    refine I.callV1i (d' := d - 1) (mi' := mX2_totalOf) dX8_meanTileScore_33 lX8_154 eX2_totalOf rfl rfl (c_X2_totalOf (d := d - 1) hl (by omega) jm21 (by assumption) (by first | omega | assumption)) (show d - 1 + 1 ≤ d from by omega) (Nat.le_of_ble_eq_true rfl) ?_
    refine J.i2d dX8_meanTileScore_36 ?_
    refine J.iload_n 2 dX8_meanTileScore_37 rfl rfl ?_
    refine J.i2d dX8_meanTileScore_38 ?_
    refine J.ddiv dX8_meanTileScore_39 (fp_div _ (by omega) (by omega)) ?_
    exact I.dretQ dX8_meanTileScore_40 rfl ⟨ok2, by unfold gMean; rw [if_neg (by omega)], rfl⟩
  · refine J.dconst0 dX8_meanTileScore_24 ?_
    refine J.goto 40 dX8_meanTileScore_25 (by decide) ?_
    exact I.dretQ dX8_meanTileScore_40 rfl ⟨ok2, by unfold gMean; rw [if_pos (by omega)], rfl⟩
set_option maxHeartbeats 1000000 in
theorem c_X9_meanTileScore {Γ : jE} (hl : Γ.1.stackTraces = false) {s : Nat → Int → Int} {ε : jEps} {d : Nat} {p : Int} {f : Int → Int} (hd : 3 ≤ d) (p0 : MW s f) (p1 : -2147483648 ≤ p ∧ p < 2147483648) : Con Γ (d, 0, 0) mX9_meanTileScore [.ref 137, .int (iI p)] (jmem s ε) (RD (fun w s' => ((0 ≤ p ∧ p ≤ 1) ∧ gMean f p = w ∧ s' = up s 137 0 0) ∨ (¬ (0 ≤ p ∧ p ≤ 1) ∧ s' = up s 137 0 1)) ε) X0 := by
  refine Con.ofJ (by decide +kernel) (by simp [Value.category]) (Nat.le_of_ble_eq_true rfl) ?_ hl
  have hw := MW.w p0
  refine J.aload_n 0 dX9_meanTileScore_0 rfl rfl ?_
  refine I.iconst dX9_meanTileScore_1 ?_
  refine I.pI 0 rfl dX9_meanTileScore_2 jcls fX9_40 rfl (by decide) rfl ?_
  refine J.iload_n 1 dX9_meanTileScore_5 rfl rfl ?_
  refine I.callS1i (d' := d - 1) (mi' := mX9_isPlayer) dX9_meanTileScore_6 lX9_244 eX9_isPlayer rfl (c_X9_isPlayer (d := d - 1) hl (by omega) (by first | omega | assumption)) (show d - 1 + 1 ≤ d from by omega) (Nat.le_of_ble_eq_true rfl) ?_
  refine I.if_neB 19 dX9_meanTileScore_9 (by decide) (fun h9 => ?_) (fun h9 => ?_)
  · have ok2 : 0 ≤ p ∧ p ≤ 1 := by omega
    have hb := p0.2.2.bu p ok2.1 ok2.2
    have hb2 := gBt_rng p0.2.1 p0.2.2
    refine J.aload_n 0 dX9_meanTileScore_19 rfl rfl ?_
    refine I.bipush dX9_meanTileScore_20 (by decide) ?_
    refine J.iload_n 1 dX9_meanTileScore_22 rfl rfl ?_
    refine I.add dX9_meanTileScore_23 ?_
    refine I.callV1i (d' := d - 1) (mi' := mX9_get) dX9_meanTileScore_24 lX9_46 eX9_get rfl rfl (c_X9_get (d := d - 1) hl (by omega) (MW.m (MW.th p0)) (by omega)) (show d - 1 + 1 ≤ d from by omega) (Nat.le_of_ble_eq_true rfl) ?_
    refine I.if_ne 34 dX9_meanTileScore_27 (by decide) (by omega) (fun h27 => ?_) (fun h27 => ?_)
    · refine J.aload_n 0 dX9_meanTileScore_34 rfl rfl ?_
      refine J.iload_n 1 dX9_meanTileScore_35 rfl rfl ?_
      refine I.callV1i (d' := d - 1) (mi' := mX9_totalOf) dX9_meanTileScore_36 lX9_250 eX9_totalOf rfl rfl (c_X9_totalOf (d := d - 1) hl (by omega) (MW.th p0) (by omega)) (show d - 1 + 1 ≤ d from by omega) (Nat.le_of_ble_eq_true rfl) ?_
      refine J.i2d dX9_meanTileScore_39 ?_
      refine J.aload_n 0 dX9_meanTileScore_40 rfl rfl ?_
      refine I.bipush dX9_meanTileScore_41 (by decide) ?_
      refine J.iload_n 1 dX9_meanTileScore_43 rfl rfl ?_
      refine I.add dX9_meanTileScore_44 ?_
      refine I.callV1i (d' := d - 1) (mi' := mX9_get) dX9_meanTileScore_45 lX9_46 eX9_get rfl rfl (c_X9_get (d := d - 1) hl (by omega) (MW.m (MW.th p0)) (by omega)) (show d - 1 + 1 ≤ d from by omega) (Nat.le_of_ble_eq_true rfl) ?_
      refine J.i2d dX9_meanTileScore_48 ?_
      refine J.ddiv dX9_meanTileScore_49 (fp_div _ (by omega) (by omega)) ?_
      exact I.dretQ dX9_meanTileScore_50 rfl (Or.inl ⟨ok2, by unfold gMean; rw [if_neg (by omega)], rfl⟩)
    · refine J.dconst0 dX9_meanTileScore_30 ?_
      refine J.goto 50 dX9_meanTileScore_31 (by decide) ?_
      exact I.dretQ dX9_meanTileScore_50 rfl (Or.inl ⟨ok2, by unfold gMean; rw [if_pos (by omega)], rfl⟩)
  · refine J.aload_n 0 dX9_meanTileScore_12 rfl rfl ?_
    refine I.iconst dX9_meanTileScore_13 ?_
    refine I.callV1i (d' := d - 1) (mi' := mX9_fails) dX9_meanTileScore_14 lX9_219 eX9_fails rfl rfl (c_X9_fails (d := d - 1) hl (by omega) ) (show d - 1 + 1 ≤ d from by omega) (Nat.le_of_ble_eq_true rfl) ?_
    refine J.i2d dX9_meanTileScore_17 ?_
    exact I.dretQ dX9_meanTileScore_18 rfl (Or.inr ⟨by omega, up_up⟩)
