/-- any memory of which so much is known -/
theorem J.gen {Γ : jE} {b : Nat × Nat × Nat} {mi : jMI} {pc : Nat} {L : List (Option Value)} {S : List Value} {P : Option Value → jM → Prop} {X : String → jM → Prop} {ε : jEps} {s : Nat → Int → Int} (R : (Nat → Int → Int) → Prop) (h : R s) (k : ∀ z, R z → J Γ b mi pc L S (jmem z ε) P X) : J Γ b mi pc L S (jmem s ε) P X := k s h
/-- the scanner's text -/
def SB (T : Int → Int) (n : Int) (s : Nat → Int → Int) : Prop := (∀ i, 0 ≤ i → i < n → s 19 i = T i) ∧ s 18 1 = n
/-- the scanner stands at the token that it stepped to from q -/
def SC (T : Int → Int) (n : Int) (s : Nat → Int → Int) (q : Int) : Prop := SB T n s ∧ (0 ≤ q ∧ q ≤ n) ∧ s 18 2 = pK T n q ∧ s 18 3 = pS T n q ∧ s 18 4 = pN T n q
def FrS (s s' : Nat → Int → Int) : Prop := ∀ q j, (q ≠ 18 ∨ j < 2) → s' q j = s q j
theorem SB.fr {T : Int → Int} {n : Int} {s s' : Nat → Int → Int} (h : SB T n s) (f : FrS s s') : SB T n s' := ⟨fun i a b => (f _ _ (by omega)).trans (h.1 i a b), (f _ _ (by omega)).trans h.2⟩
/-- what a walk uses of it -/
theorem SC.w {T : Int → Int} {n q : Int} {s : Nat → Int → Int} (t : PTx T n) (h : SC T n s q) : (0 ≤ q ∧ q ≤ n ∧ n ≤ 500) ∧ (0 ≤ pK T n q ∧ pK T n q ≤ 5) ∧ (q ≤ pS T n q ∧ pS T n q ≤ n) ∧ (pS T n q ≤ pN T n q ∧ pN T n q ≤ n) ∧ (pK T n q ≠ 0 → pS T n q < pN T n q) := by
  have a := pS_le (T := T) h.2.1.2
  have b := pN_le (T := T) h.2.1.2
  refine ⟨⟨h.2.1.1, h.2.1.2, t.1.2⟩, pK_rng, a, ⟨?_, b.2⟩, fun k => (pN_gt h.2.1.2 k).1⟩
  by_cases k : pK T n q = 0
  · have := pK_end h.2.1.2 k; omega
  · have := pN_gt h.2.1.2 k; omega
set_option maxHeartbeats 1000000 in
theorem c_X4_isBlank {Γ : jE} (hl : Γ.1.stackTraces = false) {s : Nat → Int → Int} {ε : jEps} {d : Nat} {x : Int} (hd : 0 ≤ d) (p0 : -2147483648 ≤ x ∧ x < 2147483648) : Con Γ (d, 0, 0) mX4_isBlank [.int (iI x)] (jmem s ε) (RI (bI (x = 32 ∨ x = 10)) (s) ε) X0 := by
  refine Con.ofJ (by decide +kernel) (by simp [Value.category]) (Nat.le_of_ble_eq_true rfl) ?_ hl
  refine J.iload_n 0 dX4_isBlank_0 rfl rfl ?_
  refine I.bipush dX4_isBlank_1 (by decide) ?_
  refine I.icmp_eq 12 dX4_isBlank_3 (by decide) (by omega) (by omega) (fun h3 => ?_) (fun h3 => ?_)
  · skip
    refine I.iconst dX4_isBlank_12 ?_
    refine J.goto 17 dX4_isBlank_13 (by decide) ?_
    exact I.zretI dX4_isBlank_17 rfl (by first | exact Or.inl rfl | exact Or.inr rfl | exact bI_01 _ | omega) (by first | exact (bI_t (by omega)).symm | exact (bI_f (by omega)).symm) rfl
  · skip
    refine J.iload_n 0 dX4_isBlank_6 rfl rfl ?_
    refine I.bipush dX4_isBlank_7 (by decide) ?_
    refine I.icmp_ne 16 dX4_isBlank_9 (by decide) (by omega) (by omega) (fun h9 => ?_) (fun h9 => ?_)
    · skip
      refine I.iconst dX4_isBlank_16 ?_
      exact I.zretI dX4_isBlank_17 rfl (by first | exact Or.inl rfl | exact Or.inr rfl | exact bI_01 _ | omega) (by first | exact (bI_t (by omega)).symm | exact (bI_f (by omega)).symm) rfl
    · skip
      refine I.iconst dX4_isBlank_12 ?_
      refine J.goto 17 dX4_isBlank_13 (by decide) ?_
      exact I.zretI dX4_isBlank_17 rfl (by first | exact Or.inl rfl | exact Or.inr rfl | exact bI_01 _ | omega) (by first | exact (bI_t (by omega)).symm | exact (bI_f (by omega)).symm) rfl
set_option maxHeartbeats 1000000 in
theorem c_X4_kindOf {Γ : jE} (hl : Γ.1.stackTraces = false) {s : Nat → Int → Int} {ε : jEps} {d : Nat} {x : Int} (hd : 0 ≤ d) (p0 : -2147483648 ≤ x ∧ x < 2147483648) : Con Γ (d, 0, 0) mX4_kindOf [.int (iI x)] (jmem s ε) (RI (pK1 x) (s) ε) X0 := by
  refine Con.ofJ (by decide +kernel) (by simp [Value.category]) (Nat.le_of_ble_eq_true rfl) ?_ hl
  refine J.iload_n 0 dX4_kindOf_0 rfl rfl ?_
  refine I.bipush dX4_kindOf_1 (by decide) ?_
  refine I.icmp_lt 14 dX4_kindOf_3 (by decide) (by omega) (by omega) (fun h3 => ?_) (fun h3 => ?_)
  · skip
    refine J.iload_n 0 dX4_kindOf_14 rfl rfl ?_
    refine I.bipush dX4_kindOf_15 (by decide) ?_
    refine I.icmp_lt 28 dX4_kindOf_17 (by decide) (by omega) (by omega) (fun h17 => ?_) (fun h17 => ?_)
    · skip
      refine J.iload_n 0 dX4_kindOf_28 rfl rfl ?_
      refine I.bipush dX4_kindOf_29 (by decide) ?_
      refine I.icmp_ne 36 dX4_kindOf_31 (by decide) (by omega) (by omega) (fun h31 => ?_) (fun h31 => ?_)
      · skip
        refine J.iload_n 0 dX4_kindOf_36 rfl rfl ?_
        refine I.bipush dX4_kindOf_37 (by decide) ?_
        refine I.icmp_ne 46 dX4_kindOf_39 (by decide) (by omega) (by omega) (fun h39 => ?_) (fun h39 => ?_)
        · skip
          refine I.iconst dX4_kindOf_46 ?_
          exact I.iretI dX4_kindOf_47 rfl (by unfold pK1; (repeat' split) <;> omega) rfl
        · skip
          refine I.iconst dX4_kindOf_42 ?_
          refine J.goto 47 dX4_kindOf_43 (by decide) ?_
          exact I.iretI dX4_kindOf_47 rfl (by unfold pK1; (repeat' split) <;> omega) rfl
      · skip
        refine I.iconst dX4_kindOf_34 ?_
        exact I.iretI dX4_kindOf_35 rfl (by unfold pK1; (repeat' split) <;> omega) rfl
    · skip
      refine J.iload_n 0 dX4_kindOf_20 rfl rfl ?_
      refine I.bipush dX4_kindOf_21 (by decide) ?_
      refine I.icmp_gt 28 dX4_kindOf_23 (by decide) (by omega) (by omega) (fun h23 => ?_) (fun h23 => ?_)
      · skip
        refine J.iload_n 0 dX4_kindOf_28 rfl rfl ?_
        refine I.bipush dX4_kindOf_29 (by decide) ?_
        refine I.icmp_ne 36 dX4_kindOf_31 (by decide) (by omega) (by omega) (fun h31 => ?_) (fun h31 => ?_)
        · skip
          refine J.iload_n 0 dX4_kindOf_36 rfl rfl ?_
          refine I.bipush dX4_kindOf_37 (by decide) ?_
          refine I.icmp_ne 46 dX4_kindOf_39 (by decide) (by omega) (by omega) (fun h39 => ?_) (fun h39 => ?_)
          · skip
            refine I.iconst dX4_kindOf_46 ?_
            exact I.iretI dX4_kindOf_47 rfl (by unfold pK1; (repeat' split) <;> omega) rfl
          · skip
            refine I.iconst dX4_kindOf_42 ?_
            refine J.goto 47 dX4_kindOf_43 (by decide) ?_
            exact I.iretI dX4_kindOf_47 rfl (by unfold pK1; (repeat' split) <;> omega) rfl
        · skip
          refine I.iconst dX4_kindOf_34 ?_
          exact I.iretI dX4_kindOf_35 rfl (by unfold pK1; (repeat' split) <;> omega) rfl
      · skip
        refine I.iconst dX4_kindOf_26 ?_
        exact I.iretI dX4_kindOf_27 rfl (by unfold pK1; (repeat' split) <;> omega) rfl
  · skip
    refine J.iload_n 0 dX4_kindOf_6 rfl rfl ?_
    refine I.bipush dX4_kindOf_7 (by decide) ?_
    refine I.icmp_gt 14 dX4_kindOf_9 (by decide) (by omega) (by omega) (fun h9 => ?_) (fun h9 => ?_)
    · skip
      refine J.iload_n 0 dX4_kindOf_14 rfl rfl ?_
      refine I.bipush dX4_kindOf_15 (by decide) ?_
      refine I.icmp_lt 28 dX4_kindOf_17 (by decide) (by omega) (by omega) (fun h17 => ?_) (fun h17 => ?_)
      · skip
        refine J.iload_n 0 dX4_kindOf_28 rfl rfl ?_
        refine I.bipush dX4_kindOf_29 (by decide) ?_
        refine I.icmp_ne 36 dX4_kindOf_31 (by decide) (by omega) (by omega) (fun h31 => ?_) (fun h31 => ?_)
        · skip
          refine J.iload_n 0 dX4_kindOf_36 rfl rfl ?_
          refine I.bipush dX4_kindOf_37 (by decide) ?_
          refine I.icmp_ne 46 dX4_kindOf_39 (by decide) (by omega) (by omega) (fun h39 => ?_) (fun h39 => ?_)
          · skip
            refine I.iconst dX4_kindOf_46 ?_
            exact I.iretI dX4_kindOf_47 rfl (by unfold pK1; (repeat' split) <;> omega) rfl
          · skip
            refine I.iconst dX4_kindOf_42 ?_
            refine J.goto 47 dX4_kindOf_43 (by decide) ?_
            exact I.iretI dX4_kindOf_47 rfl (by unfold pK1; (repeat' split) <;> omega) rfl
        · skip
          refine I.iconst dX4_kindOf_34 ?_
          exact I.iretI dX4_kindOf_35 rfl (by unfold pK1; (repeat' split) <;> omega) rfl
      · skip
        refine J.iload_n 0 dX4_kindOf_20 rfl rfl ?_
        refine I.bipush dX4_kindOf_21 (by decide) ?_
        refine I.icmp_gt 28 dX4_kindOf_23 (by decide) (by omega) (by omega) (fun h23 => ?_) (fun h23 => ?_)
        · skip
          refine J.iload_n 0 dX4_kindOf_28 rfl rfl ?_
          refine I.bipush dX4_kindOf_29 (by decide) ?_
          refine I.icmp_ne 36 dX4_kindOf_31 (by decide) (by omega) (by omega) (fun h31 => ?_) (fun h31 => ?_)
          · skip
            refine J.iload_n 0 dX4_kindOf_36 rfl rfl ?_
            refine I.bipush dX4_kindOf_37 (by decide) ?_
            refine I.icmp_ne 46 dX4_kindOf_39 (by decide) (by omega) (by omega) (fun h39 => ?_) (fun h39 => ?_)
            · skip
              refine I.iconst dX4_kindOf_46 ?_
              exact I.iretI dX4_kindOf_47 rfl (by unfold pK1; (repeat' split) <;> omega) rfl
            · skip
              refine I.iconst dX4_kindOf_42 ?_
              refine J.goto 47 dX4_kindOf_43 (by decide) ?_
              exact I.iretI dX4_kindOf_47 rfl (by unfold pK1; (repeat' split) <;> omega) rfl
          · skip
            refine I.iconst dX4_kindOf_34 ?_
            exact I.iretI dX4_kindOf_35 rfl (by unfold pK1; (repeat' split) <;> omega) rfl
        · skip
          refine I.iconst dX4_kindOf_26 ?_
          exact I.iretI dX4_kindOf_27 rfl (by unfold pK1; (repeat' split) <;> omega) rfl
    · skip
      refine I.iconst dX4_kindOf_12 ?_
      exact I.iretI dX4_kindOf_13 rfl (by unfold pK1; (repeat' split) <;> omega) rfl
set_option maxHeartbeats 1000000 in
theorem k_X4_step_106 {Γ : jE} (hl : Γ.1.stackTraces = false) {s : Nat → Int → Int} {ε : jEps} {d : Nat} {T : Int → Int} {n p : Int} (hd : 1 ≤ d) (p0 : PTx T n) (p1 : SB T n s) (p2 : s 18 4 = p ∧ 0 ≤ p ∧ p ≤ n) {mc ms : Nat} {P : Option Value → jM → Prop} {X : String → jM → Prop} : ∀ (k : Nat) {z : Nat → Int → Int} {i kd st : Int} (q0 : k = (n - i).toNat) (q1 : z 18 4 = i ∧ 0 ≤ i ∧ i ≤ n) (q2 : z 18 2 = kd ∧ z 18 3 = st) (q3 : FrS s z) (q4 : 0 ≤ kd ∧ kd ≤ 5) (kx : ∀ s', (s' 18 4 = pE T n kd i ∧ s' 18 2 = kd ∧ s' 18 3 = st ∧ FrS s s') → J Γ (d, mc, ms) mX4_step 168 [some (.ref 18)] [] (jmem s' ε) P X), J Γ (d, mc, ms) mX4_step 106 [some (.ref 18)] [] (jmem z ε) P X := by
  have n0 := p0.1
  have t0 := p0.2
  have eS := pS_le (T := T) p2.2.2
  have eK := @pK_rng T n p
  intro k
  induction k with
  | zero =>
    intro z i kd st q0 q1 q2 q3 q4 kx
    refine J.aload_n 0 dX4_step_106 rfl rfl ?_
    refine I.gI 4 rfl dX4_step_107 jcls fX4_23 rfl (by decide) rfl ?_
    refine I.sx q1.1 ?_
    refine J.aload_n 0 dX4_step_110 rfl rfl ?_
    refine I.gI 1 rfl dX4_step_111 jcls fX4_19 rfl (by decide) rfl ?_
    refine I.sx ((q3 18 1 (by omega)).trans p1.2) ?_
    refine I.icmp_ge 168 dX4_step_114 (by decide) (by omega) (by omega) (fun h114 => ?_) (fun h114 => ?_)
    · skip
      exact J.fgt (by exact ⟨Or.inr rfl, trivial⟩) (kx _ ⟨q1.1.trans (pE_f (by omega)).symm, q2.1, q2.2, q3⟩)
    · exact absurd h114 (by omega)
  | succ k ih =>
    intro z i kd st q0 q1 q2 q3 q4 kx
    refine J.aload_n 0 dX4_step_106 rfl rfl ?_
    refine I.gI 4 rfl dX4_step_107 jcls fX4_23 rfl (by decide) rfl ?_
    refine I.sx q1.1 ?_
    refine J.aload_n 0 dX4_step_110 rfl rfl ?_
    refine I.gI 1 rfl dX4_step_111 jcls fX4_19 rfl (by decide) rfl ?_
    refine I.sx ((q3 18 1 (by omega)).trans p1.2) ?_
    refine I.icmp_ge 168 dX4_step_114 (by decide) (by omega) (by omega) (fun h114 => ?_) (fun h114 => ?_)
    · exact absurd h114 (by omega)
    · skip
      have t1 := t0 i (by omega) (by omega)
      refine J.aload_n 0 dX4_step_117 rfl rfl ?_
      refine I.getR dX4_step_118 jcls fX4_9 rfl (by decide) rfl rfl ?_
      refine J.aload_n 0 dX4_step_121 rfl rfl ?_
      refine I.gI 4 rfl dX4_step_122 jcls fX4_23 rfl (by decide) rfl ?_
      refine I.sx q1.1 ?_
      refine I.callSN2i (d' := d - 1) (mi' := mX8_at) dX4_step_125 nX4_32 eX8_at (c_X8_at (d := d - 1) hl (by omega) rfl (by first | omega | assumption) (by first | omega | assumption)) (show d - 1 + 1 ≤ d from by omega) (Nat.le_of_ble_eq_true rfl) ?_
      refine I.sx ((q3 19 i (by omega)).trans (p1.1 i (by omega) (by omega))) ?_
      refine I.callS1i (d' := d - 1) (mi' := mX4_kindOf) dX4_step_128 lX4_40 eX4_kindOf rfl (c_X4_kindOf (d := d - 1) hl (by omega) (by first | omega | assumption)) (show d - 1 + 1 ≤ d from by omega) (Nat.le_of_ble_eq_true rfl) ?_
      refine J.aload_n 0 dX4_step_131 rfl rfl ?_
      refine I.gI 2 rfl dX4_step_132 jcls fX4_44 rfl (by decide) rfl ?_
      refine I.sx q2.1 ?_
      refine I.icmp_ne 168 dX4_step_135 (by decide) (by have := pK1_rng (T i); omega) (by omega) (fun h135 => ?_) (fun h135 => ?_)
      · skip
        have e := pE_f (T := T) (n := n) (p := i) (kd := kd) (by rintro ⟨_, h⟩; exact h135 h)
        exact J.fgt (by exact ⟨Or.inr rfl, trivial⟩) (kx _ ⟨q1.1.trans e.symm, q2.1, q2.2, q3⟩)
      · skip
        have e := pE_t (T := T) (n := n) (p := i) (kd := kd) (by omega) h135
        refine J.aload_n 0 dX4_step_138 rfl rfl ?_
        refine J.dupR dX4_step_139 ?_
        refine I.gI 4 rfl dX4_step_140 jcls fX4_23 rfl (by decide) rfl ?_
        refine I.sx q1.1 ?_
        refine I.iconst dX4_step_143 ?_
        refine I.add dX4_step_144 ?_
        refine I.pI 4 rfl dX4_step_145 jcls fX4_23 rfl (by decide) rfl ?_
        refine J.goto 106 dX4_step_148 (by decide) ?_
        exact J.fgt (by exact ⟨Or.inr rfl, trivial⟩) (ih (by omega) ⟨up_eq _ _ _ _, by omega, by omega⟩ ⟨(up_ne (by omega)).trans q2.1, (up_ne (by omega)).trans q2.2⟩ (fun q j h => (up_ne (by omega)).trans (q3 q j h)) q4 (fun s' h => kx s' ⟨h.1.trans e.symm, h.2⟩))
set_option maxHeartbeats 1000000 in
theorem k_X4_step_8 {Γ : jE} (hl : Γ.1.stackTraces = false) {s : Nat → Int → Int} {ε : jEps} {d : Nat} {T : Int → Int} {n p : Int} (hd : 1 ≤ d) (p0 : PTx T n) (p1 : SB T n s) (p2 : s 18 4 = p ∧ 0 ≤ p ∧ p ≤ n) {mc ms : Nat} {P : Option Value → jM → Prop} {X : String → jM → Prop} : ∀ (k : Nat) {z : Nat → Int → Int} {i : Int} (q0 : k = (n - i).toNat) (q1 : z 18 3 = i ∧ 0 ≤ i ∧ i ≤ n) (q2 : ∀ q j, (q ≠ 18 ∨ j ≠ 3) → z q j = s q j) (kx : ∀ s', (s' 18 3 = pS T n i ∧ ∀ q j, (q ≠ 18 ∨ j ≠ 3) → s' q j = s q j) → J Γ (d, mc, ms) mX4_step 49 [some (.ref 18)] [] (jmem s' ε) P X), J Γ (d, mc, ms) mX4_step 8 [some (.ref 18)] [] (jmem z ε) P X := by
  have n0 := p0.1
  have t0 := p0.2
  have eS := pS_le (T := T) p2.2.2
  have eK := @pK_rng T n p
  intro k
  induction k with
  | zero =>
    intro z i q0 q1 q2 kx
    refine J.aload_n 0 dX4_step_8 rfl rfl ?_
    refine I.gI 3 rfl dX4_step_9 jcls fX4_29 rfl (by decide) rfl ?_
    refine I.sx q1.1 ?_
    refine J.aload_n 0 dX4_step_12 rfl rfl ?_
    refine I.gI 1 rfl dX4_step_13 jcls fX4_19 rfl (by decide) rfl ?_
    refine I.sx ((q2 18 1 (by omega)).trans p1.2) ?_
    refine I.icmp_ge 49 dX4_step_16 (by decide) (by omega) (by omega) (fun h16 => ?_) (fun h16 => ?_)
    · skip
      exact J.fgt (by exact ⟨Or.inr rfl, trivial⟩) (kx _ ⟨q1.1.trans (pS_f (by omega)).symm, q2⟩)
    · exact absurd h16 (by omega)
  | succ k ih =>
    intro z i q0 q1 q2 kx
    refine J.aload_n 0 dX4_step_8 rfl rfl ?_
    refine I.gI 3 rfl dX4_step_9 jcls fX4_29 rfl (by decide) rfl ?_
    refine I.sx q1.1 ?_
    refine J.aload_n 0 dX4_step_12 rfl rfl ?_
    refine I.gI 1 rfl dX4_step_13 jcls fX4_19 rfl (by decide) rfl ?_
    refine I.sx ((q2 18 1 (by omega)).trans p1.2) ?_
    refine I.icmp_ge 49 dX4_step_16 (by decide) (by omega) (by omega) (fun h16 => ?_) (fun h16 => ?_)
    · exact absurd h16 (by omega)
    · skip
      have t1 := t0 i (by omega) (by omega)
      refine J.aload_n 0 dX4_step_19 rfl rfl ?_
      refine I.getR dX4_step_20 jcls fX4_9 rfl (by decide) rfl rfl ?_
      refine J.aload_n 0 dX4_step_23 rfl rfl ?_
      refine I.gI 3 rfl dX4_step_24 jcls fX4_29 rfl (by decide) rfl ?_
      refine I.sx q1.1 ?_
      refine I.callSN2i (d' := d - 1) (mi' := mX8_at) dX4_step_27 nX4_32 eX8_at (c_X8_at (d := d - 1) hl (by omega) rfl (by first | omega | assumption) (by first | omega | assumption)) (show d - 1 + 1 ≤ d from by omega) (Nat.le_of_ble_eq_true rfl) ?_
      refine I.sx ((q2 19 i (by omega)).trans (p1.1 i (by omega) (by omega))) ?_
      refine I.callS1i (d' := d - 1) (mi' := mX4_isBlank) dX4_step_30 lX4_36 eX4_isBlank rfl (c_X4_isBlank (d := d - 1) hl (by omega) (by first | omega | assumption)) (show d - 1 + 1 ≤ d from by omega) (Nat.le_of_ble_eq_true rfl) ?_
      refine I.if_eqB 49 dX4_step_33 (by decide) (fun h33 => ?_) (fun h33 => ?_)
      · skip
        have e := pS_f (T := T) (n := n) (p := i) (by rintro ⟨_, h⟩; exact h33 h)
        exact J.fgt (by exact ⟨Or.inr rfl, trivial⟩) (kx _ ⟨q1.1.trans e.symm, q2⟩)
      · skip
        have e := pS_t (T := T) (n := n) (p := i) (by omega) h33
        refine J.aload_n 0 dX4_step_36 rfl rfl ?_
        refine J.dupR dX4_step_37 ?_
        refine I.gI 3 rfl dX4_step_38 jcls fX4_29 rfl (by decide) rfl ?_
        refine I.sx q1.1 ?_
        refine I.iconst dX4_step_41 ?_
        refine I.add dX4_step_42 ?_
        refine I.pI 3 rfl dX4_step_43 jcls fX4_29 rfl (by decide) rfl ?_
        refine J.goto 8 dX4_step_46 (by decide) ?_
        exact J.fgt (by exact ⟨Or.inr rfl, trivial⟩) (ih (by omega) ⟨up_eq _ _ _ _, by omega, by omega⟩ (fun q j h => (up_ne (by omega)).trans (q2 q j h)) (fun s' h => kx s' ⟨h.1.trans e.symm, h.2⟩))
set_option maxHeartbeats 1000000 in
theorem c_X4_step {Γ : jE} (hl : Γ.1.stackTraces = false) {s : Nat → Int → Int} {ε : jEps} {d : Nat} {T : Int → Int} {n p : Int} (hd : 1 ≤ d) (p0 : PTx T n) (p1 : SB T n s) (p2 : s 18 4 = p ∧ 0 ≤ p ∧ p ≤ n) : Con Γ (d, 0, 0) mX4_step [.ref 18] (jmem s ε) (RW (fun s' => (s' 18 2 = pK T n p ∧ s' 18 3 = pS T n p ∧ s' 18 4 = pN T n p) ∧ FrS s s') ε) X0 := by
  refine Con.ofJ (by decide +kernel) (by simp [Value.category]) (Nat.le_of_ble_eq_true rfl) ?_ hl
  have n0 := p0.1
  have t0 := p0.2
  have eS := pS_le (T := T) p2.2.2
  have eK := @pK_rng T n p
  refine J.aload_n 0 dX4_step_0 rfl rfl ?_
  refine J.aload_n 0 dX4_step_1 rfl rfl ?_
  refine I.gI 4 rfl dX4_step_2 jcls fX4_23 rfl (by decide) rfl ?_
  refine I.sx p2.1 ?_
  refine I.pI 3 rfl dX4_step_5 jcls fX4_29 rfl (by decide) rfl ?_
  refine J.fgt (by exact ⟨Or.inr rfl, trivial⟩) (k_X4_step_8 hl (by omega) p0 p1 p2 ((n - p).toNat) rfl ⟨up_eq _ _ _ _, p2.2⟩ (fun q j h => up_ne (by omega)) ?_)
  rintro s8 ⟨a8, f8⟩
  refine J.aload_n 0 dX4_step_49 rfl rfl ?_
  refine J.aload_n 0 dX4_step_50 rfl rfl ?_
  refine I.gI 3 rfl dX4_step_51 jcls fX4_29 rfl (by decide) rfl ?_
  refine I.sx a8 ?_
  refine I.pI 4 rfl dX4_step_54 jcls fX4_23 rfl (by decide) rfl ?_
  refine J.aload_n 0 dX4_step_57 rfl rfl ?_
  refine J.aload_n 0 dX4_step_58 rfl rfl ?_
  refine I.gI 3 rfl dX4_step_59 jcls fX4_29 rfl (by decide) rfl ?_
  refine I.sx ((up_ne (by omega)).trans a8) ?_
  refine J.aload_n 0 dX4_step_62 rfl rfl ?_
  refine I.gI 1 rfl dX4_step_63 jcls fX4_19 rfl (by decide) rfl ?_
  refine I.sx ((up_ne (by omega)).trans ((f8 18 1 (by omega)).trans p1.2)) ?_
  refine I.icmp_ge 86 dX4_step_66 (by decide) (by omega) (by omega) (fun h66 => ?_) (fun h66 => ?_)
  · skip
    refine I.iconst dX4_step_86 ?_
    refine I.pI 2 rfl dX4_step_87 jcls fX4_44 rfl (by decide) rfl ?_
    refine J.gen (fun z => z 18 2 = pK T n p ∧ z 18 3 = pS T n p ∧ z 18 4 = pS T n p ∧ FrS s z) ⟨(up_eq _ _ _ _).trans (by unfold pK; first | (rw [if_pos (by assumption)]; done) | (rw [if_neg (by omega)]; done)), (up_ne (by omega)).trans ((up_ne (by omega)).trans a8), (up_ne (by omega)).trans (up_eq _ _ _ _), fun q j h => (up_ne (by omega)).trans ((up_ne (by omega)).trans (f8 q j (by omega)))⟩ ?_
    intro z z9
    refine J.aload_n 0 dX4_step_90 rfl rfl ?_
    refine I.gI 2 rfl dX4_step_91 jcls fX4_44 rfl (by decide) rfl ?_
    refine I.sx z9.1 ?_
    refine I.iconst dX4_step_94 ?_
    refine I.icmp_eq 106 dX4_step_95 (by decide) (by omega) (by omega) (fun h95 => ?_) (fun h95 => ?_)
    · skip
      refine J.fgt (by exact ⟨Or.inr rfl, trivial⟩) (k_X4_step_106 hl (by omega) p0 p1 p2 ((n - pS T n p).toNat) rfl ⟨z9.2.2.1, by omega, by omega⟩ ⟨z9.1, z9.2.1⟩ z9.2.2.2 eK ?_)
      rintro s106 ⟨n106, k106, a106, f106⟩
      exact I.vretQ dX4_step_168 rfl ⟨⟨k106, a106, n106.trans (by unfold pN; rw [if_pos (by omega)])⟩, f106⟩
    · skip
      refine J.aload_n 0 dX4_step_98 rfl rfl ?_
      refine I.gI 2 rfl dX4_step_99 jcls fX4_44 rfl (by decide) rfl ?_
      refine I.sx z9.1 ?_
      refine I.iconst dX4_step_102 ?_
      refine I.icmp_ne 151 dX4_step_103 (by decide) (by omega) (by omega) (fun h103 => ?_) (fun h103 => ?_)
      · skip
        refine J.aload_n 0 dX4_step_151 rfl rfl ?_
        refine I.gI 2 rfl dX4_step_152 jcls fX4_44 rfl (by decide) rfl ?_
        refine I.sx z9.1 ?_
        refine I.if_eq 168 dX4_step_155 (by decide) (by omega) (fun h155 => ?_) (fun h155 => ?_)
        · skip
          exact I.vretQ dX4_step_168 rfl ⟨⟨z9.1, z9.2.1, z9.2.2.1.trans (by unfold pN; rw [if_neg (by omega), if_pos (by omega)])⟩, z9.2.2.2⟩
        · skip
          refine J.aload_n 0 dX4_step_158 rfl rfl ?_
          refine J.dupR dX4_step_159 ?_
          refine I.gI 4 rfl dX4_step_160 jcls fX4_23 rfl (by decide) rfl ?_
          refine I.sx z9.2.2.1 ?_
          refine I.iconst dX4_step_163 ?_
          refine I.add dX4_step_164 ?_
          refine I.pI 4 rfl dX4_step_165 jcls fX4_23 rfl (by decide) rfl ?_
          exact I.vretQ dX4_step_168 rfl ⟨⟨(up_ne (by omega)).trans z9.1, (up_ne (by omega)).trans z9.2.1, (up_eq _ _ _ _).trans (by unfold pN; rw [if_neg (by omega), if_neg (by omega)])⟩, fun q j h => (up_ne (by omega)).trans (z9.2.2.2 q j h)⟩
      · skip
        refine J.fgt (by exact ⟨Or.inr rfl, trivial⟩) (k_X4_step_106 hl (by omega) p0 p1 p2 ((n - pS T n p).toNat) rfl ⟨z9.2.2.1, by omega, by omega⟩ ⟨z9.1, z9.2.1⟩ z9.2.2.2 eK ?_)
        rintro s106 ⟨n106, k106, a106, f106⟩
        exact I.vretQ dX4_step_168 rfl ⟨⟨k106, a106, n106.trans (by unfold pN; rw [if_pos (by omega)])⟩, f106⟩
  · skip
    have t1 := t0 (pS T n p) (by omega) (by omega)
    refine J.aload_n 0 dX4_step_69 rfl rfl ?_
    refine I.getR dX4_step_70 jcls fX4_9 rfl (by decide) rfl rfl ?_
    refine J.aload_n 0 dX4_step_73 rfl rfl ?_
    refine I.gI 3 rfl dX4_step_74 jcls fX4_29 rfl (by decide) rfl ?_
    refine I.sx ((up_ne (by omega)).trans a8) ?_
    refine I.callSN2i (d' := d - 1) (mi' := mX8_at) dX4_step_77 nX4_32 eX8_at (c_X8_at (d := d - 1) hl (by omega) rfl (by first | omega | assumption) (by first | omega | assumption)) (show d - 1 + 1 ≤ d from by omega) (Nat.le_of_ble_eq_true rfl) ?_
    refine I.sx ((up_ne (by omega)).trans ((f8 19 _ (by omega)).trans (p1.1 _ (by omega) (by omega)))) ?_
    refine I.callS1i (d' := d - 1) (mi' := mX4_kindOf) dX4_step_80 lX4_40 eX4_kindOf rfl (c_X4_kindOf (d := d - 1) hl (by omega) (by first | omega | assumption)) (show d - 1 + 1 ≤ d from by omega) (Nat.le_of_ble_eq_true rfl) ?_
    refine J.goto 87 dX4_step_83 (by decide) ?_
    refine I.pI 2 rfl dX4_step_87 jcls fX4_44 rfl (by decide) rfl ?_
    refine J.gen (fun z => z 18 2 = pK T n p ∧ z 18 3 = pS T n p ∧ z 18 4 = pS T n p ∧ FrS s z) ⟨(up_eq _ _ _ _).trans (by unfold pK; first | (rw [if_pos (by assumption)]; done) | (rw [if_neg (by omega)]; done)), (up_ne (by omega)).trans ((up_ne (by omega)).trans a8), (up_ne (by omega)).trans (up_eq _ _ _ _), fun q j h => (up_ne (by omega)).trans ((up_ne (by omega)).trans (f8 q j (by omega)))⟩ ?_
    intro z z9
    refine J.aload_n 0 dX4_step_90 rfl rfl ?_
    refine I.gI 2 rfl dX4_step_91 jcls fX4_44 rfl (by decide) rfl ?_
    refine I.sx z9.1 ?_
    refine I.iconst dX4_step_94 ?_
    refine I.icmp_eq 106 dX4_step_95 (by decide) (by omega) (by omega) (fun h95 => ?_) (fun h95 => ?_)
    · skip
      refine J.fgt (by exact ⟨Or.inr rfl, trivial⟩) (k_X4_step_106 hl (by omega) p0 p1 p2 ((n - pS T n p).toNat) rfl ⟨z9.2.2.1, by omega, by omega⟩ ⟨z9.1, z9.2.1⟩ z9.2.2.2 eK ?_)
      rintro s106 ⟨n106, k106, a106, f106⟩
      exact I.vretQ dX4_step_168 rfl ⟨⟨k106, a106, n106.trans (by unfold pN; rw [if_pos (by omega)])⟩, f106⟩
    · skip
      refine J.aload_n 0 dX4_step_98 rfl rfl ?_
      refine I.gI 2 rfl dX4_step_99 jcls fX4_44 rfl (by decide) rfl ?_
      refine I.sx z9.1 ?_
      refine I.iconst dX4_step_102 ?_
      refine I.icmp_ne 151 dX4_step_103 (by decide) (by omega) (by omega) (fun h103 => ?_) (fun h103 => ?_)
      · skip
        refine J.aload_n 0 dX4_step_151 rfl rfl ?_
        refine I.gI 2 rfl dX4_step_152 jcls fX4_44 rfl (by decide) rfl ?_
        refine I.sx z9.1 ?_
        refine I.if_eq 168 dX4_step_155 (by decide) (by omega) (fun h155 => ?_) (fun h155 => ?_)
        · skip
          exact I.vretQ dX4_step_168 rfl ⟨⟨z9.1, z9.2.1, z9.2.2.1.trans (by unfold pN; rw [if_neg (by omega), if_pos (by omega)])⟩, z9.2.2.2⟩
        · skip
          refine J.aload_n 0 dX4_step_158 rfl rfl ?_
          refine J.dupR dX4_step_159 ?_
          refine I.gI 4 rfl dX4_step_160 jcls fX4_23 rfl (by decide) rfl ?_
          refine I.sx z9.2.2.1 ?_
          refine I.iconst dX4_step_163 ?_
          refine I.add dX4_step_164 ?_
          refine I.pI 4 rfl dX4_step_165 jcls fX4_23 rfl (by decide) rfl ?_
          exact I.vretQ dX4_step_168 rfl ⟨⟨(up_ne (by omega)).trans z9.1, (up_ne (by omega)).trans z9.2.1, (up_eq _ _ _ _).trans (by unfold pN; rw [if_neg (by omega), if_neg (by omega)])⟩, fun q j h => (up_ne (by omega)).trans (z9.2.2.2 q j h)⟩
      · skip
        refine J.fgt (by exact ⟨Or.inr rfl, trivial⟩) (k_X4_step_106 hl (by omega) p0 p1 p2 ((n - pS T n p).toNat) rfl ⟨z9.2.2.1, by omega, by omega⟩ ⟨z9.1, z9.2.1⟩ z9.2.2.2 eK ?_)
        rintro s106 ⟨n106, k106, a106, f106⟩
        exact I.vretQ dX4_step_168 rfl ⟨⟨k106, a106, n106.trans (by unfold pN; rw [if_pos (by omega)])⟩, f106⟩
set_option maxHeartbeats 1000000 in
theorem c_X4_open {Γ : jE} (hl : Γ.1.stackTraces = false) {s : Nat → Int → Int} {ε : jEps} {d : Nat} {n : Int} {T : Int → Int} (hd : 2 ≤ d) (p0 : PTx T n) (p1 : ∀ i, 0 ≤ i → i < n → s 1 i = T i) : Con Γ (d, 0, 0) mX4_open [.ref 18, .ref 1, .int (iI n)] (jmem s ε) (RW (fun s' => SC T n s' 0 ∧ ∀ q j, q ≠ 18 → q ≠ 19 → s' q j = s q j) ε) X0 := by
  refine Con.ofJ (by decide +kernel) (by simp [Value.category]) (Nat.le_of_ble_eq_true rfl) ?_ hl
  have n0 := p0.1
  refine J.aload_n 1 dX4_open_0 rfl rfl ?_
  refine J.aload_n 0 dX4_open_1 rfl rfl ?_
  refine I.getR dX4_open_2 jcls fX4_9 rfl (by decide) rfl rfl ?_
  refine I.callSN2v (d' := d - 1) (mi' := mX8_copyRow) dX4_open_5 nX4_15 eX8_copyRow (c_X8_copyRow (d := d - 1) hl (by omega) rfl rfl (by first | omega | assumption)) (show d - 1 + 1 ≤ d from by omega) (Nat.le_of_ble_eq_true rfl) ?_
  refine J.aload_n 0 dX4_open_8 rfl rfl ?_
  refine J.iload_n 2 dX4_open_9 rfl rfl ?_
  refine I.pI 1 rfl dX4_open_10 jcls fX4_19 rfl (by decide) rfl ?_
  refine J.aload_n 0 dX4_open_13 rfl rfl ?_
  refine I.iconst dX4_open_14 ?_
  refine I.pI 4 rfl dX4_open_15 jcls fX4_23 rfl (by decide) rfl ?_
  refine J.aload_n 0 dX4_open_18 rfl rfl ?_
  refine I.callV0w (d' := d - 1) (mi' := mX4_step) dX4_open_19 lX4_26 eX4_step rfl rfl (c_X4_step (d := d - 1) hl (by omega) p0 ⟨fun i a b => (up_ne (by omega)).trans ((up_ne (by omega)).trans ((cpA_in (by omega)).trans (p1 i a b))), (up_ne (by omega)).trans (up_eq _ _ _ _)⟩ ⟨up_eq _ _ _ _, by omega, by omega⟩) (show d - 1 + 1 ≤ d from by omega) (Nat.le_of_ble_eq_true rfl) ?_
  rintro s19 ⟨⟨k19, a19, n19⟩, f19⟩
  exact I.vretQ dX4_open_22 rfl ⟨⟨SB.fr ⟨fun i a b => (up_ne (by omega)).trans ((up_ne (by omega)).trans ((cpA_in (by omega)).trans (p1 i a b))), (up_ne (by omega)).trans (up_eq _ _ _ _)⟩ f19, by omega, k19, a19, n19⟩, fun q j x y => (f19 q j (by omega)).trans ((up_ne (by omega)).trans ((up_ne (by omega)).trans (cpA_ne (by omega))))⟩
set_option maxHeartbeats 1000000 in
theorem c_X4_isRun {Γ : jE} (hl : Γ.1.stackTraces = false) {s : Nat → Int → Int} {ε : jEps} {d : Nat} {z : Int} {T : Int → Int} {n p : Int} (hd : 0 ≤ d) (p0 : PTx T n) (p1 : SC T n s p) (p2 : -2147483648 ≤ z ∧ z < 2147483648) : Con Γ (d, 0, 0) mX4_isRun [.ref 18, .int (iI z)] (jmem s ε) (RI (bI (pD T n p z)) (s) ε) X0 := by
  refine Con.ofJ (by decide +kernel) (by simp [Value.category]) (Nat.le_of_ble_eq_true rfl) ?_ hl
  have w := p1.w p0
  have t0 := p0.2
  refine J.aload_n 0 dX4_isRun_0 rfl rfl ?_
  refine I.gI 2 rfl dX4_isRun_1 jcls fX4_44 rfl (by decide) rfl ?_
  refine I.sx p1.2.2.1 ?_
  refine I.iconst dX4_isRun_4 ?_
  refine I.icmp_ne 25 dX4_isRun_5 (by decide) (by omega) (by omega) (fun h5 => ?_) (fun h5 => ?_)
  · skip
    refine I.iconst dX4_isRun_25 ?_
    exact I.zretI dX4_isRun_26 rfl (by first | exact Or.inl rfl | exact Or.inr rfl | exact bI_01 _ | omega) (by unfold pD; first | exact (bI_t (by omega)).symm | exact (bI_f (by omega)).symm) rfl
  · skip
    refine J.aload_n 0 dX4_isRun_8 rfl rfl ?_
    refine I.gI 4 rfl dX4_isRun_9 jcls fX4_23 rfl (by decide) rfl ?_
    refine I.sx p1.2.2.2.2 ?_
    refine J.aload_n 0 dX4_isRun_12 rfl rfl ?_
    refine I.gI 3 rfl dX4_isRun_13 jcls fX4_29 rfl (by decide) rfl ?_
    refine I.sx p1.2.2.2.1 ?_
    refine I.sub dX4_isRun_16 ?_
    refine J.iload_n 1 dX4_isRun_17 rfl rfl ?_
    refine I.icmp_ne 25 dX4_isRun_18 (by decide) (by omega) (by omega) (fun h18 => ?_) (fun h18 => ?_)
    · skip
      refine I.iconst dX4_isRun_25 ?_
      exact I.zretI dX4_isRun_26 rfl (by first | exact Or.inl rfl | exact Or.inr rfl | exact bI_01 _ | omega) (by unfold pD; first | exact (bI_t (by omega)).symm | exact (bI_f (by omega)).symm) rfl
    · skip
      refine I.iconst dX4_isRun_21 ?_
      refine J.goto 26 dX4_isRun_22 (by decide) ?_
      exact I.zretI dX4_isRun_26 rfl (by first | exact Or.inl rfl | exact Or.inr rfl | exact bI_01 _ | omega) (by unfold pD; first | exact (bI_t (by omega)).symm | exact (bI_f (by omega)).symm) rfl
set_option maxHeartbeats 1000000 in
theorem c_X4_digit {Γ : jE} (hl : Γ.1.stackTraces = false) {s : Nat → Int → Int} {ε : jEps} {d : Nat} {i : Int} {T : Int → Int} {n p : Int} (hd : 1 ≤ d) (p0 : PTx T n) (p1 : SC T n s p) (p2 : 0 ≤ i ∧ pS T n p + i < n) : Con Γ (d, 0, 0) mX4_digit [.ref 18, .int (iI i)] (jmem s ε) (RI (T (pS T n p + i) - 48) (s) ε) X0 := by
  refine Con.ofJ (by decide +kernel) (by simp [Value.category]) (Nat.le_of_ble_eq_true rfl) ?_ hl
  have w := p1.w p0
  have t0 := p0.2
  refine J.aload_n 0 dX4_digit_0 rfl rfl ?_
  refine I.getR dX4_digit_1 jcls fX4_9 rfl (by decide) rfl rfl ?_
  refine J.aload_n 0 dX4_digit_4 rfl rfl ?_
  refine I.gI 3 rfl dX4_digit_5 jcls fX4_29 rfl (by decide) rfl ?_
  refine I.sx p1.2.2.2.1 ?_
  refine J.iload_n 1 dX4_digit_8 rfl rfl ?_
  refine I.add dX4_digit_9 ?_
  have t1 := t0 (pS T n p + i) (by omega) (by omega)
  refine I.callSN2i (d' := d - 1) (mi' := mX8_at) dX4_digit_10 nX4_32 eX8_at (c_X8_at (d := d - 1) hl (by omega) rfl (by first | omega | assumption) (by first | omega | assumption)) (show d - 1 + 1 ≤ d from by omega) (Nat.le_of_ble_eq_true rfl) ?_
  refine I.sx (p1.1.1 _ (by omega) (by omega)) ?_
  refine I.bipush dX4_digit_13 (by decide) ?_
  refine I.sub dX4_digit_15 ?_
  exact I.iretI dX4_digit_16 rfl (by first | rfl | omega) rfl
theorem jwd_rng (i : Nat) (hi : i < 5) (j : Int) (h0 : 0 ≤ j) (h1 : j < jwl i) : 97 ≤ jwd i j ∧ jwd i j ≤ 122 := by
  obtain ⟨k, rfl⟩ := Int.eq_ofNat_of_zero_le h0
  have hk : k < jLen.getD i 0 := by unfold jwl at h1; omega
  obtain ⟨_, _, a⟩ := kCh_eq i hi k hk
  exact a
set_option maxHeartbeats 1000000 in
theorem k_X4_isWord_28 {Γ : jE} (hl : Γ.1.stackTraces = false) {s : Nat → Int → Int} {ε : jEps} {d : Nat} {i : Nat} {T : Int → Int} {n p : Int} (hd : 4 ≤ d) (hi : i < 5) (p0 : PTx T n) (p1 : SC T n s p) : ∀ (k : Nat) {j : Int} (q0 : ((k : Nat) : Int) = jwl i - j) (q1 : 0 ≤ j) (q2 : ∀ y, 0 ≤ y → y < j → T (pS T n p + y) = jwd i y) (q3 : pK T n p = 1 ∧ pN T n p - pS T n p = jwl i), J Γ (d, 0, 0) mX4_isWord 28 [some (.ref 18), some (.ref (1000000 + i)), some (.int (iI (j)))] [] (jmem s ε) (RI (bI (pW T n p i)) (s) ε) X0 := by
  have w := p1.w p0
  have t0 := p0.2
  have w1 := jwl_rng i hi
  intro k
  induction k with
  | zero =>
    intro j q0 q1 q2 q3
    refine J.iload_n 2 dX4_isWord_28 rfl rfl ?_
    refine J.aload_n 1 dX4_isWord_29 rfl rfl ?_
    refine I.strLen hi dX4_isWord_30 rfl (show 2 ≤ d from by omega) (Nat.le_of_ble_eq_true rfl) ?_
    refine I.icmp_ge 65 dX4_isWord_33 (by decide) (by omega) (by omega) (fun h33 => ?_) (fun h33 => ?_)
    · skip
      refine I.iconst dX4_isWord_65 ?_
      exact I.zretI dX4_isWord_66 rfl (by first | exact Or.inl rfl | exact Or.inr rfl | exact bI_01 _ | omega) (bI_t ⟨q3.1, q3.2, fun y a b => q2 y a (by omega)⟩).symm rfl
    · exact absurd h33 (by omega)
  | succ k ih =>
    intro j q0 q1 q2 q3
    refine J.iload_n 2 dX4_isWord_28 rfl rfl ?_
    refine J.aload_n 1 dX4_isWord_29 rfl rfl ?_
    refine I.strLen hi dX4_isWord_30 rfl (show 2 ≤ d from by omega) (Nat.le_of_ble_eq_true rfl) ?_
    refine I.icmp_ge 65 dX4_isWord_33 (by decide) (by omega) (by omega) (fun h33 => ?_) (fun h33 => ?_)
    · exact absurd h33 (by omega)
    · skip
      refine J.aload_n 0 dX4_isWord_36 rfl rfl ?_
      refine I.getR dX4_isWord_37 jcls fX4_9 rfl (by decide) rfl rfl ?_
      refine J.aload_n 0 dX4_isWord_40 rfl rfl ?_
      refine I.gI 3 rfl dX4_isWord_41 jcls fX4_29 rfl (by decide) rfl ?_
      refine I.sx p1.2.2.2.1 ?_
      refine J.iload_n 2 dX4_isWord_44 rfl rfl ?_
      refine I.add dX4_isWord_45 ?_
      have t1 := t0 (pS T n p + j) (by omega) (by omega)
      have t2 := jwd_rng i hi j q1 (by omega)
      refine I.callSN2i (d' := d - 1) (mi' := mX8_at) dX4_isWord_46 nX4_32 eX8_at (c_X8_at (d := d - 1) hl (by omega) rfl (by first | omega | assumption) (by first | omega | assumption)) (show d - 1 + 1 ≤ d from by omega) (Nat.le_of_ble_eq_true rfl) ?_
      refine I.sx (p1.1.1 _ (by omega) (by omega)) ?_
      refine J.aload_n 1 dX4_isWord_49 rfl rfl ?_
      refine J.iload_n 2 dX4_isWord_50 rfl rfl ?_
      refine I.strCharAt hi (by omega) dX4_isWord_51 rfl (show 4 ≤ d from by omega) (Nat.le_of_ble_eq_true rfl) ?_
      refine I.icmp_eq 59 dX4_isWord_54 (by decide) (by omega) (by omega) (fun h54 => ?_) (fun h54 => ?_)
      · skip
        refine I.iinc dX4_isWord_59 rfl rfl ?_
        refine J.goto 28 dX4_isWord_62 (by decide) ?_
        exact J.fgt (by exact ⟨Or.inr rfl, Or.inr rfl, Or.inr rfl, trivial⟩) (ih (by omega) (by omega) (fun y a b => by by_cases e : y = j; (rw [e]; exact h54); exact q2 y a (by omega)) q3)
      · skip
        refine I.iconst dX4_isWord_57 ?_
        exact I.zretI dX4_isWord_58 rfl (by first | exact Or.inl rfl | exact Or.inr rfl | exact bI_01 _ | omega) (bI_f (fun h => absurd (h.2.2 j q1 (by omega)) (by omega))).symm rfl
set_option maxHeartbeats 1000000 in
theorem c_X4_isWord {Γ : jE} (hl : Γ.1.stackTraces = false) {s : Nat → Int → Int} {ε : jEps} {d : Nat} {i : Nat} {T : Int → Int} {n p : Int} (hd : 4 ≤ d) (hi : i < 5) (p0 : PTx T n) (p1 : SC T n s p) : Con Γ (d, 0, 0) mX4_isWord [.ref 18, .ref (1000000 + i)] (jmem s ε) (RI (bI (pW T n p i)) (s) ε) X0 := by
  refine Con.ofJ (by decide +kernel) (by simp [Value.category]) (Nat.le_of_ble_eq_true rfl) ?_ hl
  have w := p1.w p0
  have t0 := p0.2
  have w1 := jwl_rng i hi
  refine J.aload_n 0 dX4_isWord_0 rfl rfl ?_
  refine I.gI 2 rfl dX4_isWord_1 jcls fX4_44 rfl (by decide) rfl ?_
  refine I.sx p1.2.2.1 ?_
  refine I.iconst dX4_isWord_4 ?_
  refine I.icmp_ne 24 dX4_isWord_5 (by decide) (by omega) (by omega) (fun h5 => ?_) (fun h5 => ?_)
  · skip
    refine I.iconst dX4_isWord_24 ?_
    exact I.zretI dX4_isWord_25 rfl (by first | exact Or.inl rfl | exact Or.inr rfl | exact bI_01 _ | omega) (by unfold pW; exact (bI_f (by omega)).symm) rfl
  · skip
    refine J.aload_n 0 dX4_isWord_8 rfl rfl ?_
    refine I.gI 4 rfl dX4_isWord_9 jcls fX4_23 rfl (by decide) rfl ?_
    refine I.sx p1.2.2.2.2 ?_
    refine J.aload_n 0 dX4_isWord_12 rfl rfl ?_
    refine I.gI 3 rfl dX4_isWord_13 jcls fX4_29 rfl (by decide) rfl ?_
    refine I.sx p1.2.2.2.1 ?_
    refine I.sub dX4_isWord_16 ?_
    refine J.aload_n 1 dX4_isWord_17 rfl rfl ?_
    refine I.strLen hi dX4_isWord_18 rfl (show 2 ≤ d from by omega) (Nat.le_of_ble_eq_true rfl) ?_
    refine I.icmp_eq 26 dX4_isWord_21 (by decide) (by omega) (by omega) (fun h21 => ?_) (fun h21 => ?_)
    · skip
      refine I.iconst dX4_isWord_26 ?_
      refine J.istore_n 2 dX4_isWord_27 rfl (by decide) rfl ?_
      exact J.fgt (by exact ⟨Or.inr rfl, Or.inr rfl, Or.inr rfl, trivial⟩) (k_X4_isWord_28 hl (by omega) hi p0 p1 ((jwl i).toNat) (by omega) (by omega) (fun y a b => by omega) ⟨by omega, by omega⟩)
    · skip
      refine I.iconst dX4_isWord_24 ?_
      exact I.zretI dX4_isWord_25 rfl (by first | exact Or.inl rfl | exact Or.inr rfl | exact bI_01 _ | omega) (by unfold pW; exact (bI_f (by omega)).symm) rfl
