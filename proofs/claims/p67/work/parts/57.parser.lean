theorem up2_congr {s s' : Nat → Int → Int} {q : Nat} {i j x y : Int} (h : ∀ k, s' q k = s q k) (k : Int) : up (up s' q i x) q j y q k = up (up s q i x) q j y q k := by
  unfold up
  (repeat' split) <;> first | rfl | exact h k
theorem pRn_in {T : Int → Int} {n kd : Int} : ∀ (k : Nat) (p j : Int), p ≤ j → j < pRn T n kd k p → pK1 (T j) = kd
  | 0, p, j, h0, h1 => by unfold pRn at h1; omega
  | k + 1, p, j, h0, h1 => by
    unfold pRn at h1
    split at h1
    · rename_i q
      by_cases e : j = p
      · rw [e]; exact q.2
      · exact pRn_in k (p + 1) j (by omega) h1
    · omega
/-- a token's letters -/
theorem pN_in {T : Int → Int} {n p : Int} (h : pK T n p = 1 ∨ pK T n p = 2) {j : Int} (h0 : pS T n p ≤ j) (h1 : j < pN T n p) : pK1 (T j) = pK T n p := by
  unfold pN at h1
  rw [if_pos h] at h1
  exact pRn_in _ _ j h0 h1
theorem pK1_d {x : Int} (h : pK1 x = 2) : 48 ≤ x ∧ x ≤ 57 := by
  unfold pK1 at h
  (repeat' split at h) <;> omega
theorem pT1_rng {T : Int → Int} {n q : Int} (hq : q ≤ n) (h : pK T n q = 2) : 0 ≤ pT1 T n q ∧ pT1 T n q ≤ 9 := by
  have a := (pN_gt (T := T) hq (by omega)).1
  have b := pK1_d ((pN_in (Or.inr h) (Int.le_refl _) a).trans h)
  unfold pT1; omega
theorem pT2_rng {T : Int → Int} {n q : Int} (h : pD T n q 2) : 0 ≤ pT2 T n q ∧ pT2 T n q ≤ 9 := by
  have b := pK1_d ((pN_in (Or.inr h.1) (j := pS T n q + 1) (by omega) (by have := h.2; omega)).trans h.1)
  unfold pT2; omega
/-- the tiles of the open round, marked -/
def SN (s : Nat → Int → Int) (g : Int → Int) (r : Int) : Prop := ∀ a b, 0 ≤ a → a ≤ 6 → 0 ≤ b → b ≤ 6 → s 20 (a * 7 + b) = bI (gThere g r (10 * a + b))
theorem SN.congr {s s' : Nat → Int → Int} {g : Int → Int} {r : Int} (h : SN s g r) (k : ∀ i, s' 20 i = s 20 i) : SN s' g r := fun a b a0 a1 b0 b1 => (k _).trans (h a b a0 a1 b0 b1)
theorem SN.add {s s' : Nat → Int → Int} {g : Int → Int} {r c t a b : Int} (h : SN s g r) (p : FP g) (r0 : 0 ≤ r) (r1 : r < g 0) (c0 : 0 ≤ c) (c1 : c < g (18 + r)) (ht : t = g (22 + 3 * r + c)) (t8 : t < 8) (ha : 0 ≤ a ∧ a ≤ 6) (hb : 0 ≤ b ∧ b ≤ 6) (k : ∀ i, s' 20 i = up (up s 20 (a * 7 + b) 1) 20 (b * 7 + a) 1 20 i) : SN s' (gAdd g r c t (10 * a + b)) r := by
  intro x y x0 x1 y0 y1
  rw [k]
  have e := p.there_add (z := 10 * a + b) (y := 10 * x + y) r0 r1 c0 c1 ht t8
  rw [show (10 * a + b) % 10 = b by omega, show (10 * a + b) / 10 = a by omega, show (10 * x + y) % 10 = y by omega, show (10 * x + y) / 10 = x by omega] at e
  by_cases q1 : x = b ∧ y = a
  · rw [up_eqq ⟨rfl, by omega⟩]
    exact (bI_t (e.mpr (Or.inr (Or.inr ⟨by omega, by omega⟩)))).symm
  · rw [up_ne (by omega)]
    by_cases q2 : x = a ∧ y = b
    · rw [up_eqq ⟨rfl, by omega⟩]
      exact (bI_t (e.mpr (Or.inr (Or.inl (by omega))))).symm
    · rw [up_ne (by omega), h x y x0 x1 y0 y1]
      refine bI_congr ⟨fun h => e.mpr (Or.inl h), fun h => ?_⟩
      rcases e.mp h with h | h | h
      · exact h
      · omega
      · omega
/-- the class, reading the rounds -/
def CP (T : Int → Int) (n : Int) (s : Nat → Int → Int) (g : Int → Int) (q : Int) : Prop := SC T n s q ∧ RY s 4 g ∧ FP g ∧ s 2 4 = 0 ∧ s 2 5 = -1
def FrP (s s' : Nat → Int → Int) : Prop := ∀ q j, (q < 2 ∨ 20 < q) → s' q j = s q j
theorem SC.keep {T : Int → Int} {n q : Int} {s s' : Nat → Int → Int} (h : SC T n s q) (k : ∀ a j, a = 18 ∨ a = 19 → s' a j = s a j) : SC T n s' q :=
  ⟨⟨fun i a b => (k _ _ (Or.inr rfl)).trans (h.1.1 i a b), (k _ _ (Or.inl rfl)).trans h.1.2⟩, h.2.1, (k _ _ (Or.inl rfl)).trans h.2.2.1, (k _ _ (Or.inl rfl)).trans h.2.2.2.1, (k _ _ (Or.inl rfl)).trans h.2.2.2.2⟩
/-- one token on -/
theorem SC.next {T : Int → Int} {n q : Int} {s s' : Nat → Int → Int} (t : PTx T n) (h : SC T n s q) (k : s' 18 2 = pK T n (pN T n q) ∧ s' 18 3 = pS T n (pN T n q) ∧ s' 18 4 = pN T n (pN T n q)) (f : FrS s s') : SC T n s' (pN T n q) := by
  have w := h.w t
  exact ⟨h.1.fr f, ⟨by omega, by omega⟩, k⟩
theorem CP.keep {T : Int → Int} {n q : Int} {g : Int → Int} {s s' : Nat → Int → Int} (h : CP T n s g q) (k : ∀ a j, (a = 18 ∨ a = 19 ∨ 4 ≤ a ∧ a < 10 ∨ a = 2 ∧ 4 ≤ j) → s' a j = s a j) : CP T n s' g q :=
  ⟨h.1.keep fun a j x => k a j (by omega), h.2.1.congr fun a j x y => k a j (by omega), h.2.2.1, (k 2 4 (by omega)).trans h.2.2.2.1, (k 2 5 (by omega)).trans h.2.2.2.2⟩
theorem CP.next {T : Int → Int} {n q : Int} {g : Int → Int} {s s' : Nat → Int → Int} (t : PTx T n) (h : CP T n s g q) (k : s' 18 2 = pK T n (pN T n q) ∧ s' 18 3 = pS T n (pN T n q) ∧ s' 18 4 = pN T n (pN T n q)) (f : FrS s s') : CP T n s' g (pN T n q) :=
  ⟨h.1.next t k f, h.2.1.congr fun a j x y => f a j (by omega), h.2.2.1, (f 2 4 (by omega)).trans h.2.2.2.1, (f 2 5 (by omega)).trans h.2.2.2.2⟩
/-- what came of reading -/
def CR (T : Int → Int) (n : Int) (s s' : Nat → Int → Int) (w : Int) (z : Int × Int × (Int → Int)) (ok : Prop) : Prop := FrP s s' ∧ (z.1 = 0 ∧ w = 1 ∧ ok ∨ z.1 ≠ 0 ∧ w = 0 ∧ s' 2 4 = z.1 ∧ s' 2 5 = pS T n z.2.1)
set_option maxHeartbeats 1000000 in
theorem c_X3_pairOf {Γ : jE} (hl : Γ.1.stackTraces = false) {s : Nat → Int → Int} {ε : jEps} {d : Nat} {a : Int} {b : Int} (hd : 0 ≤ d) : Con Γ (d, 0, 0) mX3_pairOf [.int (iI a), .int (iI b)] (jmem s ε) (RI (a * 7 + b) (s) ε) X0 := by
  refine Con.ofJ (by decide +kernel) (by simp [Value.category]) (Nat.le_of_ble_eq_true rfl) ?_ hl
  refine J.iload_n 0 dX3_pairOf_0 rfl rfl ?_
  refine I.bipush dX3_pairOf_1 (by decide) ?_
  refine I.mul dX3_pairOf_3 ?_
  refine J.iload_n 1 dX3_pairOf_4 rfl rfl ?_
  refine I.add dX3_pairOf_5 ?_
  exact I.iretI dX3_pairOf_6 rfl (by first | rfl | omega) rfl
set_option maxHeartbeats 1000000 in
theorem c_X3_fail {Γ : jE} (hl : Γ.1.stackTraces = false) {s : Nat → Int → Int} {ε : jEps} {d : Nat} {e : Int} (hd : 0 ≤ d) : Con Γ (d, 0, 0) mX3_fail [.ref 2, .int (iI e)] (jmem s ε) (RQ (fun w s' => w = 0 ∧ s' = up (up s 2 4 e) 2 5 (s 18 3)) ε) X0 := by
  refine Con.ofJ (by decide +kernel) (by simp [Value.category]) (Nat.le_of_ble_eq_true rfl) ?_ hl
  refine J.aload_n 0 dX3_fail_0 rfl rfl ?_
  refine J.iload_n 1 dX3_fail_1 rfl rfl ?_
  refine I.pI 4 rfl dX3_fail_2 jcls fX3_29 rfl (by decide) rfl ?_
  refine J.aload_n 0 dX3_fail_5 rfl rfl ?_
  refine J.aload_n 0 dX3_fail_6 rfl rfl ?_
  refine I.getR dX3_fail_7 jcls fX3_21 rfl (by decide) rfl rfl ?_
  refine I.gI 3 rfl dX3_fail_10 jcls fX3_168 rfl (by decide) rfl ?_
  refine I.sx (up_ne (by omega)) ?_
  refine I.pI 5 rfl dX3_fail_13 jcls fX3_33 rfl (by decide) rfl ?_
  refine I.iconst dX3_fail_16 ?_
  exact I.zretQ dX3_fail_17 rfl (by first | exact Or.inl rfl | exact Or.inr rfl | exact bI_01 _ | omega) ⟨rfl, rfl⟩
set_option maxHeartbeats 1000000 in
theorem c_X3_tileFault {Γ : jE} (hl : Γ.1.stackTraces = false) {s : Nat → Int → Int} {ε : jEps} {d : Nat} {t : Int} {T : Int → Int} {n q : Int} {g : Int → Int} {r c : Int} (hd : 2 ≤ d) (p0 : PTx T n) (p1 : SC T n s q) (p2 : SN s g r) (p3 : 0 ≤ t ∧ t ≤ 8) (p4 : 0 < t → s 2 3 = g (gTp r c (t - 1)) % 10) (p5 : pK T n q = 2) (p6 : FP g) (p7 : (0 ≤ r ∧ r < 4) ∧ (0 ≤ c ∧ c < 3) ∧ t = g (22 + 3 * r + c)) : Con Γ (d, 0, 0) mX3_tileFault [.ref 2, .int (iI t)] (jmem s ε) (RI (pTE T n g r c t q) (s) ε) X0 := by
  refine Con.ofJ (by decide +kernel) (by simp [Value.category]) (Nat.le_of_ble_eq_true rfl) ?_ hl
  have w := p1.w p0
  have t0 := p0.2
  have d1 := pT1_rng (T := T) w.1.2.1 p5
  refine J.aload_n 0 dX3_tileFault_0 rfl rfl ?_
  refine I.getR dX3_tileFault_1 jcls fX3_21 rfl (by decide) rfl rfl ?_
  refine I.iconst dX3_tileFault_4 ?_
  refine I.callV1i (d' := d - 1) (mi' := mX4_isRun) dX3_tileFault_5 lX3_95 eX4_isRun rfl rfl (c_X4_isRun (d := d - 1) hl (by omega) (by assumption) (by assumption) (by first | omega | assumption)) (show d - 1 + 1 ≤ d from by omega) (Nat.le_of_ble_eq_true rfl) ?_
  refine I.if_neB 13 dX3_tileFault_8 (by decide) (fun h8 => ?_) (fun h8 => ?_)
  · skip
    refine J.aload_n 0 dX3_tileFault_13 rfl rfl ?_
    refine I.getR dX3_tileFault_14 jcls fX3_21 rfl (by decide) rfl rfl ?_
    refine I.iconst dX3_tileFault_17 ?_
    have d2 := pT2_rng h8
    refine I.callV1i (d' := d - 1) (mi' := mX4_digit) dX3_tileFault_18 lX3_88 eX4_digit rfl rfl (c_X4_digit (d := d - 1) hl (by omega) (by assumption) (by assumption) (by have := h8.2; omega)) (show d - 1 + 1 ≤ d from by omega) (Nat.le_of_ble_eq_true rfl) ?_
    refine I.sx (show _ = pT1 T n q by unfold pT1; rw [Int.add_zero]) ?_
    refine J.istore_n 2 dX3_tileFault_21 rfl (by decide) rfl ?_
    refine J.aload_n 0 dX3_tileFault_22 rfl rfl ?_
    refine I.getR dX3_tileFault_23 jcls fX3_21 rfl (by decide) rfl rfl ?_
    refine I.iconst dX3_tileFault_26 ?_
    refine I.callV1i (d' := d - 1) (mi' := mX4_digit) dX3_tileFault_27 lX3_88 eX4_digit rfl rfl (c_X4_digit (d := d - 1) hl (by omega) (by assumption) (by assumption) (by have := h8.2; omega)) (show d - 1 + 1 ≤ d from by omega) (Nat.le_of_ble_eq_true rfl) ?_
    refine I.sx (show _ = pT2 T n q from rfl) ?_
    refine J.istore_n 3 dX3_tileFault_30 rfl (by decide) rfl ?_
    refine J.iload_n 2 dX3_tileFault_31 rfl rfl ?_
    refine I.bipush dX3_tileFault_32 (by decide) ?_
    refine I.icmp_gt 43 dX3_tileFault_34 (by decide) (by omega) (by omega) (fun h34 => ?_) (fun h34 => ?_)
    · skip
      refine I.iconst dX3_tileFault_43 ?_
      exact I.iretI dX3_tileFault_44 rfl (by unfold pTE; rw [pIf_f (not_not_intro h8), if_pos (by omega)]) rfl
    · skip
      refine J.iload_n 3 dX3_tileFault_37 rfl rfl ?_
      refine I.bipush dX3_tileFault_38 (by decide) ?_
      refine I.icmp_le 45 dX3_tileFault_40 (by decide) (by omega) (by omega) (fun h40 => ?_) (fun h40 => ?_)
      · skip
        refine J.iload_n 1 dX3_tileFault_45 rfl rfl ?_
        refine I.if_le 59 dX3_tileFault_46 (by decide) (by omega) (fun h46 => ?_) (fun h46 => ?_)
        · skip
          have e0 : ¬ (0 < t ∧ pT1 T n q ≠ g (gTp r c (t - 1)) % 10) := (by intro x; first | exact absurd x.1 (by omega) | exact x.2 (by assumption))
          refine J.aload_n 0 dX3_tileFault_59 rfl rfl ?_
          refine I.getR dX3_tileFault_60 jcls fX3_25 rfl (by decide) rfl rfl ?_
          refine J.iload_n 2 dX3_tileFault_63 rfl rfl ?_
          refine J.iload_n 3 dX3_tileFault_64 rfl rfl ?_
          refine I.callS2i (d' := d - 1) (mi' := mX3_pairOf) dX3_tileFault_65 lX3_101 eX3_pairOf rfl (c_X3_pairOf (d := d - 1) hl (by omega) ) (show d - 1 + 1 ≤ d from by omega) (Nat.le_of_ble_eq_true rfl) ?_
          refine I.callSN2i (d' := d - 1) (mi' := mX8_at) dX3_tileFault_68 nX3_105 eX8_at (c_X8_at (d := d - 1) hl (by omega) rfl (by first | omega | assumption) (by first | omega | assumption)) (show d - 1 + 1 ≤ d from by omega) (Nat.le_of_ble_eq_true rfl) ?_
          refine I.sx (show _ = bI (gThere g r (pTi T n q)) from p2 _ _ (by omega) (by omega) (by omega) (by omega)) ?_
          refine I.if_eqB 76 dX3_tileFault_71 (by decide) (fun h71 => ?_) (fun h71 => ?_)
          · skip
            refine J.iload_n 1 dX3_tileFault_76 rfl rfl ?_
            refine I.bipush dX3_tileFault_77 (by decide) ?_
            refine I.icmp_ge 86 dX3_tileFault_79 (by decide) (by omega) (by omega) (fun h79 => ?_) (fun h79 => ?_)
            · skip
              refine I.iconst dX3_tileFault_86 ?_
              exact I.iretI dX3_tileFault_87 rfl (by unfold pTE; rw [pIf_f (not_not_intro h8), if_neg (by omega), if_neg e0, pIf_f h71, if_neg (by omega)]) rfl
            · skip
              refine I.iconst dX3_tileFault_82 ?_
              refine J.goto 87 dX3_tileFault_83 (by decide) ?_
              exact I.iretI dX3_tileFault_87 rfl (by unfold pTE; rw [pIf_f (not_not_intro h8), if_neg (by omega), if_neg e0, pIf_f h71, if_pos (by omega)]) rfl
          · skip
            refine I.iconst dX3_tileFault_74 ?_
            exact I.iretI dX3_tileFault_75 rfl (by unfold pTE; rw [pIf_f (not_not_intro h8), if_neg (by omega), if_neg e0, pIf_t h71]) rfl
        · skip
          have ft := p6.2.2.2.1 r c (t - 1) p7.1.1 p7.1.2 p7.2.1.1 p7.2.1.2 (by omega) (by omega)
          refine J.iload_n 2 dX3_tileFault_49 rfl rfl ?_
          refine J.aload_n 0 dX3_tileFault_50 rfl rfl ?_
          refine I.gI 3 rfl dX3_tileFault_51 jcls fX3_98 rfl (by decide) rfl ?_
          refine I.sx (p4 (by omega)) ?_
          refine I.icmp_eq 59 dX3_tileFault_54 (by decide) (by omega) (by omega) (fun h54 => ?_) (fun h54 => ?_)
          · skip
            have e0 : ¬ (0 < t ∧ pT1 T n q ≠ g (gTp r c (t - 1)) % 10) := (by intro x; first | exact absurd x.1 (by omega) | exact x.2 (by assumption))
            refine J.aload_n 0 dX3_tileFault_59 rfl rfl ?_
            refine I.getR dX3_tileFault_60 jcls fX3_25 rfl (by decide) rfl rfl ?_
            refine J.iload_n 2 dX3_tileFault_63 rfl rfl ?_
            refine J.iload_n 3 dX3_tileFault_64 rfl rfl ?_
            refine I.callS2i (d' := d - 1) (mi' := mX3_pairOf) dX3_tileFault_65 lX3_101 eX3_pairOf rfl (c_X3_pairOf (d := d - 1) hl (by omega) ) (show d - 1 + 1 ≤ d from by omega) (Nat.le_of_ble_eq_true rfl) ?_
            refine I.callSN2i (d' := d - 1) (mi' := mX8_at) dX3_tileFault_68 nX3_105 eX8_at (c_X8_at (d := d - 1) hl (by omega) rfl (by first | omega | assumption) (by first | omega | assumption)) (show d - 1 + 1 ≤ d from by omega) (Nat.le_of_ble_eq_true rfl) ?_
            refine I.sx (show _ = bI (gThere g r (pTi T n q)) from p2 _ _ (by omega) (by omega) (by omega) (by omega)) ?_
            refine I.if_eqB 76 dX3_tileFault_71 (by decide) (fun h71 => ?_) (fun h71 => ?_)
            · skip
              refine J.iload_n 1 dX3_tileFault_76 rfl rfl ?_
              refine I.bipush dX3_tileFault_77 (by decide) ?_
              refine I.icmp_ge 86 dX3_tileFault_79 (by decide) (by omega) (by omega) (fun h79 => ?_) (fun h79 => ?_)
              · skip
                refine I.iconst dX3_tileFault_86 ?_
                exact I.iretI dX3_tileFault_87 rfl (by unfold pTE; rw [pIf_f (not_not_intro h8), if_neg (by omega), if_neg e0, pIf_f h71, if_neg (by omega)]) rfl
              · skip
                refine I.iconst dX3_tileFault_82 ?_
                refine J.goto 87 dX3_tileFault_83 (by decide) ?_
                exact I.iretI dX3_tileFault_87 rfl (by unfold pTE; rw [pIf_f (not_not_intro h8), if_neg (by omega), if_neg e0, pIf_f h71, if_pos (by omega)]) rfl
            · skip
              refine I.iconst dX3_tileFault_74 ?_
              exact I.iretI dX3_tileFault_75 rfl (by unfold pTE; rw [pIf_f (not_not_intro h8), if_neg (by omega), if_neg e0, pIf_t h71]) rfl
          · skip
            refine I.iconst dX3_tileFault_57 ?_
            exact I.iretI dX3_tileFault_58 rfl (by unfold pTE; rw [pIf_f (not_not_intro h8), if_neg (by omega), if_pos ⟨by omega, h54⟩]) rfl
      · skip
        refine I.iconst dX3_tileFault_43 ?_
        exact I.iretI dX3_tileFault_44 rfl (by unfold pTE; rw [pIf_f (not_not_intro h8), if_pos (by omega)]) rfl
  · skip
    refine I.iconst dX3_tileFault_11 ?_
    exact I.iretI dX3_tileFault_12 rfl (by unfold pTE; exact (pIf_t h8).symm) rfl
set_option maxHeartbeats 1000000 in
theorem c_X3_takeTile {Γ : jE} (hl : Γ.1.stackTraces = false) {s : Nat → Int → Int} {ε : jEps} {d : Nat} {a : Int} {b : Int} {g : Int → Int} {c t : Int} (hd : 3 ≤ d) (p0 : RY s 4 g) (p1 : FP g) (p2 : 1 ≤ g 0) (p3 : c = g (18 + (g 0 - 1)) - 1 ∧ 0 ≤ c) (p4 : t = g (22 + 3 * (g 0 - 1) + c) ∧ t < 8) (p5 : 0 ≤ a ∧ a ≤ 6) (p6 : 0 ≤ b ∧ b ≤ 6) (p7 : SN s g (g 0 - 1)) : Con Γ (d, 0, 0) mX3_takeTile [.ref 2, .int (iI a), .int (iI b)] (jmem s ε) (RW (fun s' => RY s' 4 (gAdd g (g 0 - 1) c t (10 * a + b)) ∧ SN s' (gAdd g (g 0 - 1) c t (10 * a + b)) (g 0 - 1) ∧ s' 2 3 = b ∧ ∀ q i, (q < 4 ∨ 10 ≤ q) → q ≠ 20 → (q ≠ 2 ∨ i ≠ 3) → s' q i = s q i) ε) X0 := by
  refine Con.ofJ (by decide +kernel) (by simp [Value.category]) (Nat.le_of_ble_eq_true rfl) ?_ hl
  have t0 := p4.2
  have x2 := p1.2.1 (g 0 - 1) (by omega) (by have := p1.1; omega)
  refine J.aload_n 0 dX3_takeTile_0 rfl rfl ?_
  refine I.getR dX3_takeTile_1 jcls fX3_12 rfl (by decide) rfl rfl ?_
  refine I.getR dX3_takeTile_4 jcls fX3_36 rfl (by decide) rfl rfl ?_
  refine J.iload_n 1 dX3_takeTile_7 rfl rfl ?_
  refine J.iload_n 2 dX3_takeTile_8 rfl rfl ?_
  refine I.callV2w (d' := d - 1) (mi' := mX1_addTile) dX3_takeTile_9 lX3_109 eX1_addTile rfl rfl (c_X1_addTile (d := d - 1) hl (c := c) (t := t) (by omega) jy4 (by assumption) (by assumption) (by first | omega | assumption) (by first | omega | assumption) (by first | omega | assumption) (by first | omega | assumption) (by first | omega | assumption)) (show d - 1 + 1 ≤ d from by omega) (Nat.le_of_ble_eq_true rfl) ?_
  rintro s9 ⟨r9, f9⟩
  refine J.aload_n 0 dX3_takeTile_12 rfl rfl ?_
  refine I.getR dX3_takeTile_13 jcls fX3_25 rfl (by decide) rfl rfl ?_
  refine J.iload_n 1 dX3_takeTile_16 rfl rfl ?_
  refine J.iload_n 2 dX3_takeTile_17 rfl rfl ?_
  refine I.callS2i (d' := d - 1) (mi' := mX3_pairOf) dX3_takeTile_18 lX3_101 eX3_pairOf rfl (c_X3_pairOf (d := d - 1) hl (by omega) ) (show d - 1 + 1 ≤ d from by omega) (Nat.le_of_ble_eq_true rfl) ?_
  refine I.iconst dX3_takeTile_21 ?_
  refine I.callSN3v (d' := d - 1) (mi' := mX8_put) dX3_takeTile_22 nX3_112 eX8_put (c_X8_put (d := d - 1) hl (by omega) rfl (by first | omega | assumption) (by first | omega | assumption)) (show d - 1 + 1 ≤ d from by omega) (Nat.le_of_ble_eq_true rfl) ?_
  refine J.aload_n 0 dX3_takeTile_25 rfl rfl ?_
  refine I.getR dX3_takeTile_26 jcls fX3_25 rfl (by decide) rfl rfl ?_
  refine J.iload_n 2 dX3_takeTile_29 rfl rfl ?_
  refine J.iload_n 1 dX3_takeTile_30 rfl rfl ?_
  refine I.callS2i (d' := d - 1) (mi' := mX3_pairOf) dX3_takeTile_31 lX3_101 eX3_pairOf rfl (c_X3_pairOf (d := d - 1) hl (by omega) ) (show d - 1 + 1 ≤ d from by omega) (Nat.le_of_ble_eq_true rfl) ?_
  refine I.iconst dX3_takeTile_34 ?_
  refine I.callSN3v (d' := d - 1) (mi' := mX8_put) dX3_takeTile_35 nX3_112 eX8_put (c_X8_put (d := d - 1) hl (by omega) rfl (by first | omega | assumption) (by first | omega | assumption)) (show d - 1 + 1 ≤ d from by omega) (Nat.le_of_ble_eq_true rfl) ?_
  refine J.aload_n 0 dX3_takeTile_38 rfl rfl ?_
  refine J.iload_n 2 dX3_takeTile_39 rfl rfl ?_
  refine I.pI 3 rfl dX3_takeTile_40 jcls fX3_98 rfl (by decide) rfl ?_
  exact I.vretQ dX3_takeTile_43 rfl ⟨r9.congr fun q i x y => (up_ne (by omega)).trans ((up_ne (by omega)).trans (up_ne (by omega))), p7.add p1 (by omega) (by omega) (by omega) (by omega) p4.1 p4.2 p5 p6 (fun i => (up_ne (by omega)).trans (up2_congr (fun k => f9 20 k (by omega)) i)), up_eq _ _ _ _, fun q i x y z => (up_ne (by omega)).trans ((up_ne (by omega)).trans ((up_ne (by omega)).trans (f9 q i (by omega))))⟩
