/-- the model's text -/
def MB (T : Int → Int) (n : Int) (s : Nat → Int → Int) : Prop := (∀ i, 0 ≤ i → i < n → s 139 i = gSg (T i)) ∧ s 137 7 = n
def pSrt (k : Int) : Int := if k = 3 then 4 else if k = 4 ∨ k = 5 then 3 else k
/-- the model looks at the token that it went to from q -/
def MK (T : Int → Int) (n : Int) (s : Nat → Int → Int) (q : Int) : Prop := MB T n s ∧ (0 ≤ q ∧ q ≤ n) ∧ s 137 13 = pN T n q ∧ s 137 14 = pS T n q ∧ s 137 15 = pSrt (pK T n q)
def FrT (s s' : Nat → Int → Int) : Prop := ∀ q j, (q ≠ 137 ∨ j < 13 ∨ 16 < j) → s' q j = s q j
section MKs
variable {T : Int → Int} {n q : Int} {s s' z : Nat → Int → Int}
theorem FrT.trans (a : FrT s z) (b : FrT z s') : FrT s s' := fun q j h => (b q j h).trans (a q j h)
theorem MB.fr (h : MB T n s) (f : FrT s s') : MB T n s' := ⟨fun i a b => (f _ _ (by omega)).trans (h.1 i a b), (f _ _ (by omega)).trans h.2⟩
theorem MK.w (t : PTx T n) (h : MK T n s q) : (0 ≤ q ∧ q ≤ n ∧ n ≤ 500) ∧ (0 ≤ pK T n q ∧ pK T n q ≤ 5) ∧ (q ≤ pS T n q ∧ pS T n q ≤ n) ∧ (pS T n q ≤ pN T n q ∧ pN T n q ≤ n) ∧ (pK T n q ≠ 0 → pS T n q < pN T n q) := by
  have a := pS_le (T := T) h.2.1.2
  have b := pN_le (T := T) h.2.1.2
  refine ⟨⟨h.2.1.1, h.2.1.2, t.1.2⟩, pK_rng, a, ⟨?_, b.2⟩, fun k => (pN_gt h.2.1.2 k).1⟩
  by_cases k : pK T n q = 0
  · have := pK_end h.2.1.2 k; omega
  · have := pN_gt h.2.1.2 k; omega
theorem MK.keep (h : MK T n s q) (f : ∀ a j, (a = 139 ∨ a = 137 ∧ (j = 7 ∨ j = 13 ∨ j = 14 ∨ j = 15)) → s' a j = s a j) : MK T n s' q :=
  ⟨⟨fun i a b => (f _ _ (by omega)).trans (h.1.1 i a b), (f _ _ (by omega)).trans h.1.2⟩, h.2.1, (f _ _ (by omega)).trans h.2.2.1, (f _ _ (by omega)).trans h.2.2.2.1, (f _ _ (by omega)).trans h.2.2.2.2⟩
theorem gSg_lt {x z : Int} (h : 0 ≤ x ∧ x ≤ 255) (hz : 0 ≤ z ∧ z < 128) : (gSg x = z ↔ x = z) := by unfold gSg; split <;> omega
theorem gSg_ge {x z : Int} (h : 0 ≤ x ∧ x ≤ 255) (hz : 0 ≤ z ∧ z < 128) : (z ≤ gSg x → z ≤ x ∧ x < 128 ∧ gSg x = x) ∧ (¬ z ≤ gSg x → x < z ∨ 128 ≤ x) := by unfold gSg; split <;> omega
end MKs
/-- a letter of the token -/
def pL (T : Int → Int) (n q k l : Int) : Prop := l = 0 ∧ pN T n q ≤ pS T n q + k ∨ l ≠ 0 ∧ pS T n q + k < pN T n q ∧ T (pS T n q + k) = l
def pWl (T : Int → Int) (n q a b c e f : Int) : Prop := pK T n q = 1 ∧ pL T n q 0 a ∧ pL T n q 1 b ∧ pL T n q 2 c ∧ pL T n q 3 e ∧ pL T n q 4 f ∧ pL T n q 5 0
theorem pWl_5 {T : Int → Int} {n q : Int} {i : Nat} (hl : jwl i = 5) (h : 0 < jwd i 0 ∧ 0 < jwd i 1 ∧ 0 < jwd i 2 ∧ 0 < jwd i 3 ∧ 0 < jwd i 4) : pW T n q i ↔ pWl T n q (jwd i 0) (jwd i 1) (jwd i 2) (jwd i 3) (jwd i 4) := by
  constructor
  · rintro ⟨a, b, c⟩
    rw [hl] at b c
    exact ⟨a, Or.inr ⟨by omega, by omega, c 0 (by omega) (by omega)⟩, Or.inr ⟨by omega, by omega, c 1 (by omega) (by omega)⟩, Or.inr ⟨by omega, by omega, c 2 (by omega) (by omega)⟩, Or.inr ⟨by omega, by omega, c 3 (by omega) (by omega)⟩, Or.inr ⟨by omega, by omega, c 4 (by omega) (by omega)⟩, Or.inl ⟨rfl, by omega⟩⟩
  · rintro ⟨a, b0, b1, b2, b3, b4, b5⟩
    unfold pL at b0 b1 b2 b3 b4 b5
    refine ⟨a, by omega, fun k k0 k1 => ?_⟩
    rw [hl] at k1
    rcases (show k = 0 ∨ k = 1 ∨ k = 2 ∨ k = 3 ∨ k = 4 by omega) with rfl | rfl | rfl | rfl | rfl <;> omega
theorem pWl_4 {T : Int → Int} {n q : Int} {i : Nat} (hl : jwl i = 4) (h : 0 < jwd i 0 ∧ 0 < jwd i 1 ∧ 0 < jwd i 2 ∧ 0 < jwd i 3) : pW T n q i ↔ pWl T n q (jwd i 0) (jwd i 1) (jwd i 2) (jwd i 3) 0 := by
  constructor
  · rintro ⟨a, b, c⟩
    rw [hl] at b c
    exact ⟨a, Or.inr ⟨by omega, by omega, c 0 (by omega) (by omega)⟩, Or.inr ⟨by omega, by omega, c 1 (by omega) (by omega)⟩, Or.inr ⟨by omega, by omega, c 2 (by omega) (by omega)⟩, Or.inr ⟨by omega, by omega, c 3 (by omega) (by omega)⟩, Or.inl ⟨rfl, by omega⟩, Or.inl ⟨rfl, by omega⟩⟩
  · rintro ⟨a, b0, b1, b2, b3, b4, b5⟩
    unfold pL at b0 b1 b2 b3 b4 b5
    refine ⟨a, by omega, fun k k0 k1 => ?_⟩
    rw [hl] at k1
    rcases (show k = 0 ∨ k = 1 ∨ k = 2 ∨ k = 3 by omega) with rfl | rfl | rfl | rfl <;> omega
theorem pW_0 {T : Int → Int} {n q : Int} : pW T n q 0 ↔ pWl T n q 114 111 117 110 100 := pWl_5 (i := 0) (by decide) (by decide)
theorem pW_1 {T : Int → Int} {n q : Int} : pW T n q 1 ↔ pWl T n q 108 101 102 116 0 := pWl_4 (i := 1) (by decide) (by decide)
theorem pW_2 {T : Int → Int} {n q : Int} : pW T n q 2 ↔ pWl T n q 114 105 103 104 116 := pWl_5 (i := 2) (by decide) (by decide)
theorem pW_3 {T : Int → Int} {n q : Int} : pW T n q 3 ↔ pWl T n q 112 97 115 115 0 := pWl_4 (i := 3) (by decide) (by decide)
theorem pW_4 {T : Int → Int} {n q : Int} : pW T n q 4 ↔ pWl T n q 110 101 120 116 0 := pWl_4 (i := 4) (by decide) (by decide)
set_option maxHeartbeats 1000000 in
theorem c_X9_isIn {Γ : jE} (hl : Γ.1.stackTraces = false) {s : Nat → Int → Int} {ε : jEps} {d : Nat} {k : Int} {lo : Int} {hi : Int} {T : Int → Int} {n : Int} (hd : 0 ≤ d) (p0 : PTx T n) (p1 : MB T n s) (p2 : 0 ≤ k ∧ k ≤ n) (p3 : 0 ≤ lo ∧ lo < 128) (p4 : 0 ≤ hi ∧ hi < 128) : Con Γ (d, 0, 0) mX9_isIn [.ref 137, .int (iI k), .int (iI lo), .int (iI hi)] (jmem s ε) (RI (bI (k < n ∧ lo ≤ T k ∧ T k ≤ hi)) (s) ε) X0 := by
  refine Con.ofJ (by decide +kernel) (by simp [Value.category]) (Nat.le_of_ble_eq_true rfl) ?_ hl
  have n0 := p0.1
  refine J.iload_n 1 dX9_isIn_0 rfl rfl ?_
  refine J.aload_n 0 dX9_isIn_1 rfl rfl ?_
  refine I.gI 7 rfl dX9_isIn_2 jcls fX9_156 rfl (by decide) rfl ?_
  refine I.sx p1.2 ?_
  refine I.icmp_ge 32 dX9_isIn_5 (by decide) (by omega) (by omega) (fun h5 => ?_) (fun h5 => ?_)
  · skip
    refine I.iconst dX9_isIn_32 ?_
    exact I.zretI dX9_isIn_33 rfl (by first | exact Or.inl rfl | exact Or.inr rfl | exact bI_01 _ | omega) (by first | exact (bI_t (by omega)).symm | exact (bI_f (by omega)).symm) rfl
  · skip
    have t1 := p0.2 k (by omega) (by omega)
    have g1 := gSg_rng t1
    have g2 := gSg_ge t1 p3
    refine J.aload_n 0 dX9_isIn_8 rfl rfl ?_
    refine I.getR dX9_isIn_9 jcls fX9_13 rfl (by decide) rfl rfl ?_
    refine J.iload_n 1 dX9_isIn_12 rfl rfl ?_
    refine I.bald dX9_isIn_13 rfl (by omega) (by omega) ?_
    refine I.sx (p1.1 k (by omega) (by omega)) ?_
    refine J.iload_n 2 dX9_isIn_14 rfl rfl ?_
    refine I.icmp_lt 32 dX9_isIn_15 (by decide) (by omega) (by omega) (fun h15 => ?_) (fun h15 => ?_)
    · skip
      refine I.iconst dX9_isIn_32 ?_
      exact I.zretI dX9_isIn_33 rfl (by first | exact Or.inl rfl | exact Or.inr rfl | exact bI_01 _ | omega) (by first | exact (bI_t (by omega)).symm | exact (bI_f (by omega)).symm) rfl
    · skip
      refine J.aload_n 0 dX9_isIn_18 rfl rfl ?_
      refine I.getR dX9_isIn_19 jcls fX9_13 rfl (by decide) rfl rfl ?_
      refine J.iload_n 1 dX9_isIn_22 rfl rfl ?_
      refine I.bald dX9_isIn_23 rfl (by omega) (by omega) ?_
      refine I.sx (p1.1 k (by omega) (by omega)) ?_
      refine J.iload_n 3 dX9_isIn_24 rfl rfl ?_
      refine I.icmp_gt 32 dX9_isIn_25 (by decide) (by omega) (by omega) (fun h25 => ?_) (fun h25 => ?_)
      · skip
        refine I.iconst dX9_isIn_32 ?_
        exact I.zretI dX9_isIn_33 rfl (by first | exact Or.inl rfl | exact Or.inr rfl | exact bI_01 _ | omega) (by first | exact (bI_t (by omega)).symm | exact (bI_f (by omega)).symm) rfl
      · skip
        refine I.iconst dX9_isIn_28 ?_
        refine J.goto 33 dX9_isIn_29 (by decide) ?_
        exact I.zretI dX9_isIn_33 rfl (by first | exact Or.inl rfl | exact Or.inr rfl | exact bI_01 _ | omega) (by first | exact (bI_t (by omega)).symm | exact (bI_f (by omega)).symm) rfl
set_option maxHeartbeats 1000000 in
theorem c_X9_faults {Γ : jE} (hl : Γ.1.stackTraces = false) {s : Nat → Int → Int} {ε : jEps} {d : Nat} {e : Int} (hd : 0 ≤ d) : Con Γ (d, 0, 0) mX9_faults [.ref 137, .int (iI e)] (jmem s ε) (RI (0) (up s 137 16 e) ε) X0 := by
  refine Con.ofJ (by decide +kernel) (by simp [Value.category]) (Nat.le_of_ble_eq_true rfl) ?_ hl
  refine J.aload_n 0 dX9_faults_0 rfl rfl ?_
  refine J.iload_n 1 dX9_faults_1 rfl rfl ?_
  refine I.pI 16 rfl dX9_faults_2 jcls fX9_159 rfl (by decide) rfl ?_
  refine I.iconst dX9_faults_5 ?_
  exact I.zretI dX9_faults_6 rfl (by first | exact Or.inl rfl | exact Or.inr rfl | exact bI_01 _ | omega) (by first | rfl | omega) rfl
theorem pK1_1 (x : Int) : pK1 x = 1 ↔ 97 ≤ x ∧ x ≤ 122 := by unfold pK1; (repeat' split) <;> omega
theorem pK1_2 (x : Int) : pK1 x = 2 ↔ 48 ≤ x ∧ x ≤ 57 := by unfold pK1; (repeat' split) <;> omega
theorem pK1_3 (x : Int) : pK1 x = 3 ↔ x = 44 := by unfold pK1; (repeat' split) <;> omega
theorem pK1_4 (x : Int) : pK1 x = 4 ↔ x = 59 := by unfold pK1; (repeat' split) <;> omega
set_option maxHeartbeats 1000000 in
theorem k_X9_token_165 {Γ : jE} (hl : Γ.1.stackTraces = false) {s : Nat → Int → Int} {ε : jEps} {d : Nat} {T : Int → Int} {n p : Int} (hd : 1 ≤ d) (p0 : PTx T n) (p1 : MB T n s) (p2 : s 137 13 = p ∧ 0 ≤ p ∧ p ≤ n) {mc ms : Nat} {P : Option Value → jM → Prop} {X : String → jM → Prop} : ∀ (k : Nat) {z : Nat → Int → Int} {i st : Int} (q0 : k = (n - i).toNat) (q1 : z 137 13 = i ∧ 0 ≤ i ∧ i ≤ n) (q2 : z 137 14 = st ∧ z 137 15 = 2) (q3 : FrT s z) (kx : ∀ s', (s' 137 13 = pE T n 2 i ∧ s' 137 14 = st ∧ s' 137 15 = 2 ∧ FrT s s') → J Γ (d, mc, ms) mX9_token 193 [some (.ref 137)] [] (jmem s' ε) P X), J Γ (d, mc, ms) mX9_token 165 [some (.ref 137)] [] (jmem z ε) P X := by
  have n0 := p0.1
  have t0 := p0.2
  have eS := pS_le (T := T) p2.2.2
  intro k
  induction k with
  | zero =>
    intro z i st q0 q1 q2 q3 kx
    have mb : MB T n z := p1.fr q3
    have pk := pK1_2
    refine J.aload_n 0 dX9_token_165 rfl rfl ?_
    refine J.aload_n 0 dX9_token_166 rfl rfl ?_
    refine I.gI 13 rfl dX9_token_167 jcls fX9_162 rfl (by decide) rfl ?_
    refine I.sx q1.1 ?_
    refine I.bipush dX9_token_170 (by decide) ?_
    refine I.bipush dX9_token_172 (by decide) ?_
    refine I.callV3i (d' := d - 1) (mi' := mX9_isIn) dX9_token_174 lX9_165 eX9_isIn rfl rfl (c_X9_isIn (d := d - 1) hl (by omega) p0 mb (by first | omega | assumption) (by first | omega | assumption) (by first | omega | assumption)) (show d - 1 + 1 ≤ d from by omega) (Nat.le_of_ble_eq_true rfl) ?_
    refine I.if_eqB 193 dX9_token_177 (by decide) (fun h177 => ?_) (fun h177 => ?_)
    · skip
      have e := pE_f (T := T) (n := n) (p := i) (kd := 2) (by omega)
      exact J.fgt (by exact ⟨Or.inr rfl, trivial⟩) (kx _ ⟨q1.1.trans e.symm, q2.1, q2.2, q3⟩)
    · skip
      omega
  | succ k ih =>
    intro z i st q0 q1 q2 q3 kx
    have mb : MB T n z := p1.fr q3
    have pk := pK1_2
    refine J.aload_n 0 dX9_token_165 rfl rfl ?_
    refine J.aload_n 0 dX9_token_166 rfl rfl ?_
    refine I.gI 13 rfl dX9_token_167 jcls fX9_162 rfl (by decide) rfl ?_
    refine I.sx q1.1 ?_
    refine I.bipush dX9_token_170 (by decide) ?_
    refine I.bipush dX9_token_172 (by decide) ?_
    refine I.callV3i (d' := d - 1) (mi' := mX9_isIn) dX9_token_174 lX9_165 eX9_isIn rfl rfl (c_X9_isIn (d := d - 1) hl (by omega) p0 mb (by first | omega | assumption) (by first | omega | assumption) (by first | omega | assumption)) (show d - 1 + 1 ≤ d from by omega) (Nat.le_of_ble_eq_true rfl) ?_
    refine I.if_eqB 193 dX9_token_177 (by decide) (fun h177 => ?_) (fun h177 => ?_)
    · skip
      have e := pE_f (T := T) (n := n) (p := i) (kd := 2) (by intro ⟨a, b⟩; have := (pk (T i)).mp b; omega)
      exact J.fgt (by exact ⟨Or.inr rfl, trivial⟩) (kx _ ⟨q1.1.trans e.symm, q2.1, q2.2, q3⟩)
    · skip
      have e := pE_t (T := T) (n := n) (p := i) (kd := 2) (by omega) ((pk (T i)).mpr (by omega))
      refine J.aload_n 0 dX9_token_180 rfl rfl ?_
      refine J.dupR dX9_token_181 ?_
      refine I.gI 13 rfl dX9_token_182 jcls fX9_162 rfl (by decide) rfl ?_
      refine I.sx q1.1 ?_
      refine I.iconst dX9_token_185 ?_
      refine I.add dX9_token_186 ?_
      refine I.pI 13 rfl dX9_token_187 jcls fX9_162 rfl (by decide) rfl ?_
      refine J.goto 165 dX9_token_190 (by decide) ?_
      exact J.fgt (by exact ⟨Or.inr rfl, trivial⟩) (ih (by omega) ⟨up_eq _ _ _ _, by omega, by omega⟩ ⟨(up_ne (by omega)).trans q2.1, (up_ne (by omega)).trans q2.2⟩ (fun q j h => (up_ne (by omega)).trans (q3 q j h)) (fun s' h => kx s' ⟨h.1.trans e.symm, h.2⟩))
set_option maxHeartbeats 1000000 in
theorem k_X9_token_89 {Γ : jE} (hl : Γ.1.stackTraces = false) {s : Nat → Int → Int} {ε : jEps} {d : Nat} {T : Int → Int} {n p : Int} (hd : 1 ≤ d) (p0 : PTx T n) (p1 : MB T n s) (p2 : s 137 13 = p ∧ 0 ≤ p ∧ p ≤ n) {mc ms : Nat} {P : Option Value → jM → Prop} {X : String → jM → Prop} : ∀ (k : Nat) {z : Nat → Int → Int} {i st : Int} (q0 : k = (n - i).toNat) (q1 : z 137 13 = i ∧ 0 ≤ i ∧ i ≤ n) (q2 : z 137 14 = st ∧ z 137 15 = 1) (q3 : FrT s z) (kx : ∀ s', (s' 137 13 = pE T n 1 i ∧ s' 137 14 = st ∧ s' 137 15 = 1 ∧ FrT s s') → J Γ (d, mc, ms) mX9_token 117 [some (.ref 137)] [] (jmem s' ε) P X), J Γ (d, mc, ms) mX9_token 89 [some (.ref 137)] [] (jmem z ε) P X := by
  have n0 := p0.1
  have t0 := p0.2
  have eS := pS_le (T := T) p2.2.2
  intro k
  induction k with
  | zero =>
    intro z i st q0 q1 q2 q3 kx
    have mb : MB T n z := p1.fr q3
    have pk := pK1_1
    refine J.aload_n 0 dX9_token_89 rfl rfl ?_
    refine J.aload_n 0 dX9_token_90 rfl rfl ?_
    refine I.gI 13 rfl dX9_token_91 jcls fX9_162 rfl (by decide) rfl ?_
    refine I.sx q1.1 ?_
    refine I.bipush dX9_token_94 (by decide) ?_
    refine I.bipush dX9_token_96 (by decide) ?_
    refine I.callV3i (d' := d - 1) (mi' := mX9_isIn) dX9_token_98 lX9_165 eX9_isIn rfl rfl (c_X9_isIn (d := d - 1) hl (by omega) p0 mb (by first | omega | assumption) (by first | omega | assumption) (by first | omega | assumption)) (show d - 1 + 1 ≤ d from by omega) (Nat.le_of_ble_eq_true rfl) ?_
    refine I.if_eqB 117 dX9_token_101 (by decide) (fun h101 => ?_) (fun h101 => ?_)
    · skip
      have e := pE_f (T := T) (n := n) (p := i) (kd := 1) (by omega)
      exact J.fgt (by exact ⟨Or.inr rfl, trivial⟩) (kx _ ⟨q1.1.trans e.symm, q2.1, q2.2, q3⟩)
    · skip
      omega
  | succ k ih =>
    intro z i st q0 q1 q2 q3 kx
    have mb : MB T n z := p1.fr q3
    have pk := pK1_1
    refine J.aload_n 0 dX9_token_89 rfl rfl ?_
    refine J.aload_n 0 dX9_token_90 rfl rfl ?_
    refine I.gI 13 rfl dX9_token_91 jcls fX9_162 rfl (by decide) rfl ?_
    refine I.sx q1.1 ?_
    refine I.bipush dX9_token_94 (by decide) ?_
    refine I.bipush dX9_token_96 (by decide) ?_
    refine I.callV3i (d' := d - 1) (mi' := mX9_isIn) dX9_token_98 lX9_165 eX9_isIn rfl rfl (c_X9_isIn (d := d - 1) hl (by omega) p0 mb (by first | omega | assumption) (by first | omega | assumption) (by first | omega | assumption)) (show d - 1 + 1 ≤ d from by omega) (Nat.le_of_ble_eq_true rfl) ?_
    refine I.if_eqB 117 dX9_token_101 (by decide) (fun h101 => ?_) (fun h101 => ?_)
    · skip
      have e := pE_f (T := T) (n := n) (p := i) (kd := 1) (by intro ⟨a, b⟩; have := (pk (T i)).mp b; omega)
      exact J.fgt (by exact ⟨Or.inr rfl, trivial⟩) (kx _ ⟨q1.1.trans e.symm, q2.1, q2.2, q3⟩)
    · skip
      have e := pE_t (T := T) (n := n) (p := i) (kd := 1) (by omega) ((pk (T i)).mpr (by omega))
      refine J.aload_n 0 dX9_token_104 rfl rfl ?_
      refine J.dupR dX9_token_105 ?_
      refine I.gI 13 rfl dX9_token_106 jcls fX9_162 rfl (by decide) rfl ?_
      refine I.sx q1.1 ?_
      refine I.iconst dX9_token_109 ?_
      refine I.add dX9_token_110 ?_
      refine I.pI 13 rfl dX9_token_111 jcls fX9_162 rfl (by decide) rfl ?_
      refine J.goto 89 dX9_token_114 (by decide) ?_
      exact J.fgt (by exact ⟨Or.inr rfl, trivial⟩) (ih (by omega) ⟨up_eq _ _ _ _, by omega, by omega⟩ ⟨(up_ne (by omega)).trans q2.1, (up_ne (by omega)).trans q2.2⟩ (fun q j h => (up_ne (by omega)).trans (q3 q j h)) (fun s' h => kx s' ⟨h.1.trans e.symm, h.2⟩))
set_option maxHeartbeats 1000000 in
theorem k_X9_token_0 {Γ : jE} (hl : Γ.1.stackTraces = false) {s : Nat → Int → Int} {ε : jEps} {d : Nat} {T : Int → Int} {n p : Int} (hd : 1 ≤ d) (p0 : PTx T n) (p1 : MB T n s) (p2 : s 137 13 = p ∧ 0 ≤ p ∧ p ≤ n) {mc ms : Nat} {P : Option Value → jM → Prop} {X : String → jM → Prop} : ∀ (k : Nat) {z : Nat → Int → Int} {i : Int} (q0 : k = (n - i).toNat) (q1 : z 137 13 = i ∧ 0 ≤ i ∧ i ≤ n) (q2 : ∀ q j, (q ≠ 137 ∨ j ≠ 13) → z q j = s q j) (kx : ∀ s', (s' 137 13 = pS T n i ∧ ∀ q j, (q ≠ 137 ∨ j ≠ 13) → s' q j = s q j) → J Γ (d, mc, ms) mX9_token 43 [some (.ref 137)] [] (jmem s' ε) P X), J Γ (d, mc, ms) mX9_token 0 [some (.ref 137)] [] (jmem z ε) P X := by
  have n0 := p0.1
  have t0 := p0.2
  have eS := pS_le (T := T) p2.2.2
  intro k
  induction k with
  | zero =>
    intro z i q0 q1 q2 kx
    have mb : MB T n z := p1.fr (fun q j h => q2 q j (by omega))
    refine J.aload_n 0 dX9_token_0 rfl rfl ?_
    refine J.aload_n 0 dX9_token_1 rfl rfl ?_
    refine I.gI 13 rfl dX9_token_2 jcls fX9_162 rfl (by decide) rfl ?_
    refine I.sx q1.1 ?_
    refine I.bipush dX9_token_5 (by decide) ?_
    refine I.bipush dX9_token_7 (by decide) ?_
    refine I.callV3i (d' := d - 1) (mi' := mX9_isIn) dX9_token_9 lX9_165 eX9_isIn rfl rfl (c_X9_isIn (d := d - 1) hl (by omega) p0 mb (by first | omega | assumption) (by first | omega | assumption) (by first | omega | assumption)) (show d - 1 + 1 ≤ d from by omega) (Nat.le_of_ble_eq_true rfl) ?_
    refine I.if_neB 30 dX9_token_12 (by decide) (fun h12 => ?_) (fun h12 => ?_)
    · skip
      omega
    · skip
      refine J.aload_n 0 dX9_token_15 rfl rfl ?_
      refine J.aload_n 0 dX9_token_16 rfl rfl ?_
      refine I.gI 13 rfl dX9_token_17 jcls fX9_162 rfl (by decide) rfl ?_
      refine I.sx q1.1 ?_
      refine I.bipush dX9_token_20 (by decide) ?_
      refine I.bipush dX9_token_22 (by decide) ?_
      refine I.callV3i (d' := d - 1) (mi' := mX9_isIn) dX9_token_24 lX9_165 eX9_isIn rfl rfl (c_X9_isIn (d := d - 1) hl (by omega) p0 mb (by first | omega | assumption) (by first | omega | assumption) (by first | omega | assumption)) (show d - 1 + 1 ≤ d from by omega) (Nat.le_of_ble_eq_true rfl) ?_
      refine I.if_eqB 43 dX9_token_27 (by decide) (fun h27 => ?_) (fun h27 => ?_)
      · skip
        have e := pS_f (T := T) (n := n) (p := i) (by omega)
        exact J.fgt (by exact ⟨Or.inr rfl, trivial⟩) (kx _ ⟨q1.1.trans e.symm, q2⟩)
      · skip
        omega
  | succ k ih =>
    intro z i q0 q1 q2 kx
    have mb : MB T n z := p1.fr (fun q j h => q2 q j (by omega))
    refine J.aload_n 0 dX9_token_0 rfl rfl ?_
    refine J.aload_n 0 dX9_token_1 rfl rfl ?_
    refine I.gI 13 rfl dX9_token_2 jcls fX9_162 rfl (by decide) rfl ?_
    refine I.sx q1.1 ?_
    refine I.bipush dX9_token_5 (by decide) ?_
    refine I.bipush dX9_token_7 (by decide) ?_
    refine I.callV3i (d' := d - 1) (mi' := mX9_isIn) dX9_token_9 lX9_165 eX9_isIn rfl rfl (c_X9_isIn (d := d - 1) hl (by omega) p0 mb (by first | omega | assumption) (by first | omega | assumption) (by first | omega | assumption)) (show d - 1 + 1 ≤ d from by omega) (Nat.le_of_ble_eq_true rfl) ?_
    refine I.if_neB 30 dX9_token_12 (by decide) (fun h12 => ?_) (fun h12 => ?_)
    · skip
      have e := pS_t (T := T) (n := n) (p := i) (by omega) (by omega)
      refine J.aload_n 0 dX9_token_30 rfl rfl ?_
      refine J.dupR dX9_token_31 ?_
      refine I.gI 13 rfl dX9_token_32 jcls fX9_162 rfl (by decide) rfl ?_
      refine I.sx q1.1 ?_
      refine I.iconst dX9_token_35 ?_
      refine I.add dX9_token_36 ?_
      refine I.pI 13 rfl dX9_token_37 jcls fX9_162 rfl (by decide) rfl ?_
      refine J.goto 0 dX9_token_40 (by decide) ?_
      exact J.fgt (by exact ⟨Or.inr rfl, trivial⟩) (ih (by omega) ⟨up_eq _ _ _ _, by omega, by omega⟩ (fun q j h => (up_ne (by omega)).trans (q2 q j h)) (fun s' h => kx s' ⟨h.1.trans e.symm, h.2⟩))
    · skip
      refine J.aload_n 0 dX9_token_15 rfl rfl ?_
      refine J.aload_n 0 dX9_token_16 rfl rfl ?_
      refine I.gI 13 rfl dX9_token_17 jcls fX9_162 rfl (by decide) rfl ?_
      refine I.sx q1.1 ?_
      refine I.bipush dX9_token_20 (by decide) ?_
      refine I.bipush dX9_token_22 (by decide) ?_
      refine I.callV3i (d' := d - 1) (mi' := mX9_isIn) dX9_token_24 lX9_165 eX9_isIn rfl rfl (c_X9_isIn (d := d - 1) hl (by omega) p0 mb (by first | omega | assumption) (by first | omega | assumption) (by first | omega | assumption)) (show d - 1 + 1 ≤ d from by omega) (Nat.le_of_ble_eq_true rfl) ?_
      refine I.if_eqB 43 dX9_token_27 (by decide) (fun h27 => ?_) (fun h27 => ?_)
      · skip
        have e := pS_f (T := T) (n := n) (p := i) (by omega)
        exact J.fgt (by exact ⟨Or.inr rfl, trivial⟩) (kx _ ⟨q1.1.trans e.symm, q2⟩)
      · skip
        have e := pS_t (T := T) (n := n) (p := i) (by omega) (by omega)
        refine J.aload_n 0 dX9_token_30 rfl rfl ?_
        refine J.dupR dX9_token_31 ?_
        refine I.gI 13 rfl dX9_token_32 jcls fX9_162 rfl (by decide) rfl ?_
        refine I.sx q1.1 ?_
        refine I.iconst dX9_token_35 ?_
        refine I.add dX9_token_36 ?_
        refine I.pI 13 rfl dX9_token_37 jcls fX9_162 rfl (by decide) rfl ?_
        refine J.goto 0 dX9_token_40 (by decide) ?_
        exact J.fgt (by exact ⟨Or.inr rfl, trivial⟩) (ih (by omega) ⟨up_eq _ _ _ _, by omega, by omega⟩ (fun q j h => (up_ne (by omega)).trans (q2 q j h)) (fun s' h => kx s' ⟨h.1.trans e.symm, h.2⟩))
set_option maxHeartbeats 1000000 in
theorem c_X9_token {Γ : jE} (hl : Γ.1.stackTraces = false) {s : Nat → Int → Int} {ε : jEps} {d : Nat} {T : Int → Int} {n p : Int} (hd : 1 ≤ d) (p0 : PTx T n) (p1 : MB T n s) (p2 : s 137 13 = p ∧ 0 ≤ p ∧ p ≤ n) : Con Γ (d, 0, 0) mX9_token [.ref 137] (jmem s ε) (RQ (fun w s' => MK T n s' p ∧ FrT s s' ∧ (w = 1 ∧ pTok T n p ∨ w = 0 ∧ ¬ pTok T n p ∧ s' 137 16 = 1)) ε) X0 := by
  refine Con.ofJ (by decide +kernel) (by simp [Value.category]) (Nat.le_of_ble_eq_true rfl) ?_ hl
  have n0 := p0.1
  have t0 := p0.2
  have eS := pS_le (T := T) p2.2.2
  refine J.fgt (by exact ⟨Or.inr rfl, trivial⟩) (k_X9_token_0 hl (by omega) p0 p1 p2 ((n - p).toNat) rfl ⟨p2.1, p2.2⟩ (fun q j h => rfl) ?_)
  rintro s0 ⟨a0, f0⟩
  refine J.aload_n 0 dX9_token_43 rfl rfl ?_
  refine J.aload_n 0 dX9_token_44 rfl rfl ?_
  refine I.gI 13 rfl dX9_token_45 jcls fX9_162 rfl (by decide) rfl ?_
  refine I.sx a0 ?_
  refine I.pI 14 rfl dX9_token_48 jcls fX9_169 rfl (by decide) rfl ?_
  refine J.gen (fun z => z 137 13 = pS T n p ∧ z 137 14 = pS T n p ∧ FrT s z) ⟨(up_ne (by omega)).trans a0, up_eq _ _ _ _, fun q j h => (up_ne (by omega)).trans (f0 q j (by omega))⟩ ?_
  intro z z69
  have mb : MB T n z := p1.fr z69.2.2
  refine J.aload_n 0 dX9_token_51 rfl rfl ?_
  refine I.gI 13 rfl dX9_token_52 jcls fX9_162 rfl (by decide) rfl ?_
  refine I.sx z69.1 ?_
  refine J.aload_n 0 dX9_token_55 rfl rfl ?_
  refine I.gI 7 rfl dX9_token_56 jcls fX9_156 rfl (by decide) rfl ?_
  refine I.sx ((z69.2.2 137 7 (by omega)).trans p1.2) ?_
  refine I.icmp_ne 69 dX9_token_59 (by decide) (by omega) (by omega) (fun h59 => ?_) (fun h59 => ?_)
  · skip
    refine J.aload_n 0 dX9_token_69 rfl rfl ?_
    refine J.aload_n 0 dX9_token_70 rfl rfl ?_
    refine I.gI 13 rfl dX9_token_71 jcls fX9_162 rfl (by decide) rfl ?_
    refine I.sx z69.1 ?_
    refine I.bipush dX9_token_74 (by decide) ?_
    refine I.bipush dX9_token_76 (by decide) ?_
    refine I.callV3i (d' := d - 1) (mi' := mX9_isIn) dX9_token_78 lX9_165 eX9_isIn rfl rfl (c_X9_isIn (d := d - 1) hl (by omega) p0 mb (by first | omega | assumption) (by first | omega | assumption) (by first | omega | assumption)) (show d - 1 + 1 ≤ d from by omega) (Nat.le_of_ble_eq_true rfl) ?_
    refine I.if_eqB 145 dX9_token_81 (by decide) (fun h81 => ?_) (fun h81 => ?_)
    · skip
      refine J.aload_n 0 dX9_token_145 rfl rfl ?_
      refine J.aload_n 0 dX9_token_146 rfl rfl ?_
      refine I.gI 13 rfl dX9_token_147 jcls fX9_162 rfl (by decide) rfl ?_
      refine I.sx z69.1 ?_
      refine I.bipush dX9_token_150 (by decide) ?_
      refine I.bipush dX9_token_152 (by decide) ?_
      refine I.callV3i (d' := d - 1) (mi' := mX9_isIn) dX9_token_154 lX9_165 eX9_isIn rfl rfl (c_X9_isIn (d := d - 1) hl (by omega) p0 mb (by first | omega | assumption) (by first | omega | assumption) (by first | omega | assumption)) (show d - 1 + 1 ≤ d from by omega) (Nat.le_of_ble_eq_true rfl) ?_
      refine I.if_eqB 220 dX9_token_157 (by decide) (fun h157 => ?_) (fun h157 => ?_)
      · skip
        have t1 := p0.2 (pS T n p) (by omega) (by omega)
        have g1 := gSg_rng t1
        have g44 := gSg_lt (z := 44) t1 (by decide)
        have g59 := gSg_lt (z := 59) t1 (by decide)
        have hk : pK T n p = pK1 (T (pS T n p)) := if_pos (by omega)
        have k1 := pK1_1 (T (pS T n p))
        have k2 := pK1_2 (T (pS T n p))
        have k3 := pK1_3 (T (pS T n p))
        have k4 := pK1_4 (T (pS T n p))
        have k5 := pK1_rng (T (pS T n p))
        have hn : pN T n p = pS T n p + 1 := by unfold pN; rw [if_neg (by omega), if_neg (by omega)]
        refine J.aload_n 0 dX9_token_220 rfl rfl ?_
        refine J.aload_n 0 dX9_token_221 rfl rfl ?_
        refine I.getR dX9_token_222 jcls fX9_13 rfl (by decide) rfl rfl ?_
        refine J.aload_n 0 dX9_token_225 rfl rfl ?_
        refine I.gI 13 rfl dX9_token_226 jcls fX9_162 rfl (by decide) rfl ?_
        refine I.sx z69.1 ?_
        refine I.bald dX9_token_229 rfl (by omega) (by omega) ?_
        refine I.sx (mb.1 _ (by omega) (by omega)) ?_
        refine I.bipush dX9_token_230 (by decide) ?_
        refine I.icmp_ne 239 dX9_token_232 (by decide) (by omega) (by omega) (fun h232 => ?_) (fun h232 => ?_)
        · skip
          refine I.iconst dX9_token_239 ?_
          refine I.pI 15 rfl dX9_token_240 jcls fX9_172 rfl (by decide) rfl ?_
          refine J.gen (fun y => y 137 13 = pS T n p ∧ y 137 14 = pS T n p ∧ y 137 15 = pSrt (pK T n p) ∧ FrT s y) ⟨(up_ne (by omega)).trans z69.1, (up_ne (by omega)).trans z69.2.1, (up_eq _ _ _ _).trans (by unfold pSrt; (repeat' split) <;> omega), fun q j h => (up_ne (by omega)).trans (z69.2.2 q j h)⟩ ?_
          intro y y9
          refine J.aload_n 0 dX9_token_243 rfl rfl ?_
          refine J.dupR dX9_token_244 ?_
          refine I.gI 13 rfl dX9_token_245 jcls fX9_162 rfl (by decide) rfl ?_
          refine I.sx y9.1 ?_
          refine I.iconst dX9_token_248 ?_
          refine I.add dX9_token_249 ?_
          refine I.pI 13 rfl dX9_token_250 jcls fX9_162 rfl (by decide) rfl ?_
          refine J.aload_n 0 dX9_token_253 rfl rfl ?_
          refine I.getR dX9_token_254 jcls fX9_13 rfl (by decide) rfl rfl ?_
          refine J.aload_n 0 dX9_token_257 rfl rfl ?_
          refine I.gI 14 rfl dX9_token_258 jcls fX9_169 rfl (by decide) rfl ?_
          refine I.sx ((up_ne (by omega)).trans y9.2.1) ?_
          refine I.bald dX9_token_261 rfl (by omega) (by omega) ?_
          refine I.sx ((up_ne (by omega)).trans ((y9.2.2.2 139 _ (by omega)).trans (p1.1 _ (by omega) (by omega)))) ?_
          refine I.bipush dX9_token_262 (by decide) ?_
          refine I.icmp_eq 289 dX9_token_264 (by decide) (by omega) (by omega) (fun h264 => ?_) (fun h264 => ?_)
          · skip
            refine I.iconst dX9_token_289 ?_
            refine J.goto 294 dX9_token_290 (by decide) ?_
            exact I.zretQ dX9_token_294 rfl (by first | exact Or.inl rfl | exact Or.inr rfl | exact bI_01 _ | omega) ⟨⟨p1.fr (fun q j h => (up_ne (by omega)).trans (y9.2.2.2 q j h)), ⟨p2.2.1, p2.2.2⟩, (up_eq _ _ _ _).trans hn.symm, (up_ne (by omega)).trans y9.2.1, (up_ne (by omega)).trans y9.2.2.1⟩, fun q j h => (up_ne (by omega)).trans (y9.2.2.2 q j h), Or.inl ⟨rfl, by unfold pTok; omega⟩⟩
          · skip
            refine J.aload_n 0 dX9_token_267 rfl rfl ?_
            refine I.getR dX9_token_268 jcls fX9_13 rfl (by decide) rfl rfl ?_
            refine J.aload_n 0 dX9_token_271 rfl rfl ?_
            refine I.gI 14 rfl dX9_token_272 jcls fX9_169 rfl (by decide) rfl ?_
            refine I.sx ((up_ne (by omega)).trans y9.2.1) ?_
            refine I.bald dX9_token_275 rfl (by omega) (by omega) ?_
            refine I.sx ((up_ne (by omega)).trans ((y9.2.2.2 139 _ (by omega)).trans (p1.1 _ (by omega) (by omega)))) ?_
            refine I.bipush dX9_token_276 (by decide) ?_
            refine I.icmp_eq 289 dX9_token_278 (by decide) (by omega) (by omega) (fun h278 => ?_) (fun h278 => ?_)
            · skip
              refine I.iconst dX9_token_289 ?_
              refine J.goto 294 dX9_token_290 (by decide) ?_
              exact I.zretQ dX9_token_294 rfl (by first | exact Or.inl rfl | exact Or.inr rfl | exact bI_01 _ | omega) ⟨⟨p1.fr (fun q j h => (up_ne (by omega)).trans (y9.2.2.2 q j h)), ⟨p2.2.1, p2.2.2⟩, (up_eq _ _ _ _).trans hn.symm, (up_ne (by omega)).trans y9.2.1, (up_ne (by omega)).trans y9.2.2.1⟩, fun q j h => (up_ne (by omega)).trans (y9.2.2.2 q j h), Or.inl ⟨rfl, by unfold pTok; omega⟩⟩
            · skip
              refine J.aload_n 0 dX9_token_281 rfl rfl ?_
              refine I.iconst dX9_token_282 ?_
              refine I.callV1i (d' := d - 1) (mi' := mX9_faults) dX9_token_283 lX9_175 eX9_faults rfl rfl (c_X9_faults (d := d - 1) hl (by omega) ) (show d - 1 + 1 ≤ d from by omega) (Nat.le_of_ble_eq_true rfl) ?_
              refine I.if_eq 293 dX9_token_286 (by decide) (by omega) (fun h286 => ?_) (fun h286 => ?_)
              · skip
                refine I.iconst dX9_token_293 ?_
                exact I.zretQ dX9_token_294 rfl (by first | exact Or.inl rfl | exact Or.inr rfl | exact bI_01 _ | omega) ⟨⟨p1.fr (fun q j h => (up_ne (by omega)).trans ((up_ne (by omega)).trans (y9.2.2.2 q j h))), ⟨p2.2.1, p2.2.2⟩, (up_ne (by omega)).trans ((up_eq _ _ _ _).trans hn.symm), (up_ne (by omega)).trans ((up_ne (by omega)).trans y9.2.1), (up_ne (by omega)).trans ((up_ne (by omega)).trans y9.2.2.1)⟩, fun q j h => (up_ne (by omega)).trans ((up_ne (by omega)).trans (y9.2.2.2 q j h)), Or.inr ⟨rfl, by unfold pTok; omega, up_eq _ _ _ _⟩⟩
              · skip
                omega
        · skip
          refine I.iconst dX9_token_235 ?_
          refine J.goto 240 dX9_token_236 (by decide) ?_
          refine I.pI 15 rfl dX9_token_240 jcls fX9_172 rfl (by decide) rfl ?_
          refine J.gen (fun y => y 137 13 = pS T n p ∧ y 137 14 = pS T n p ∧ y 137 15 = pSrt (pK T n p) ∧ FrT s y) ⟨(up_ne (by omega)).trans z69.1, (up_ne (by omega)).trans z69.2.1, (up_eq _ _ _ _).trans (by unfold pSrt; (repeat' split) <;> omega), fun q j h => (up_ne (by omega)).trans (z69.2.2 q j h)⟩ ?_
          intro y y9
          refine J.aload_n 0 dX9_token_243 rfl rfl ?_
          refine J.dupR dX9_token_244 ?_
          refine I.gI 13 rfl dX9_token_245 jcls fX9_162 rfl (by decide) rfl ?_
          refine I.sx y9.1 ?_
          refine I.iconst dX9_token_248 ?_
          refine I.add dX9_token_249 ?_
          refine I.pI 13 rfl dX9_token_250 jcls fX9_162 rfl (by decide) rfl ?_
          refine J.aload_n 0 dX9_token_253 rfl rfl ?_
          refine I.getR dX9_token_254 jcls fX9_13 rfl (by decide) rfl rfl ?_
          refine J.aload_n 0 dX9_token_257 rfl rfl ?_
          refine I.gI 14 rfl dX9_token_258 jcls fX9_169 rfl (by decide) rfl ?_
          refine I.sx ((up_ne (by omega)).trans y9.2.1) ?_
          refine I.bald dX9_token_261 rfl (by omega) (by omega) ?_
          refine I.sx ((up_ne (by omega)).trans ((y9.2.2.2 139 _ (by omega)).trans (p1.1 _ (by omega) (by omega)))) ?_
          refine I.bipush dX9_token_262 (by decide) ?_
          refine I.icmp_eq 289 dX9_token_264 (by decide) (by omega) (by omega) (fun h264 => ?_) (fun h264 => ?_)
          · skip
            refine I.iconst dX9_token_289 ?_
            refine J.goto 294 dX9_token_290 (by decide) ?_
            exact I.zretQ dX9_token_294 rfl (by first | exact Or.inl rfl | exact Or.inr rfl | exact bI_01 _ | omega) ⟨⟨p1.fr (fun q j h => (up_ne (by omega)).trans (y9.2.2.2 q j h)), ⟨p2.2.1, p2.2.2⟩, (up_eq _ _ _ _).trans hn.symm, (up_ne (by omega)).trans y9.2.1, (up_ne (by omega)).trans y9.2.2.1⟩, fun q j h => (up_ne (by omega)).trans (y9.2.2.2 q j h), Or.inl ⟨rfl, by unfold pTok; omega⟩⟩
          · skip
            refine J.aload_n 0 dX9_token_267 rfl rfl ?_
            refine I.getR dX9_token_268 jcls fX9_13 rfl (by decide) rfl rfl ?_
            refine J.aload_n 0 dX9_token_271 rfl rfl ?_
            refine I.gI 14 rfl dX9_token_272 jcls fX9_169 rfl (by decide) rfl ?_
            refine I.sx ((up_ne (by omega)).trans y9.2.1) ?_
            refine I.bald dX9_token_275 rfl (by omega) (by omega) ?_
            refine I.sx ((up_ne (by omega)).trans ((y9.2.2.2 139 _ (by omega)).trans (p1.1 _ (by omega) (by omega)))) ?_
            refine I.bipush dX9_token_276 (by decide) ?_
            refine I.icmp_eq 289 dX9_token_278 (by decide) (by omega) (by omega) (fun h278 => ?_) (fun h278 => ?_)
            · skip
              refine I.iconst dX9_token_289 ?_
              refine J.goto 294 dX9_token_290 (by decide) ?_
              exact I.zretQ dX9_token_294 rfl (by first | exact Or.inl rfl | exact Or.inr rfl | exact bI_01 _ | omega) ⟨⟨p1.fr (fun q j h => (up_ne (by omega)).trans (y9.2.2.2 q j h)), ⟨p2.2.1, p2.2.2⟩, (up_eq _ _ _ _).trans hn.symm, (up_ne (by omega)).trans y9.2.1, (up_ne (by omega)).trans y9.2.2.1⟩, fun q j h => (up_ne (by omega)).trans (y9.2.2.2 q j h), Or.inl ⟨rfl, by unfold pTok; omega⟩⟩
            · skip
              refine J.aload_n 0 dX9_token_281 rfl rfl ?_
              refine I.iconst dX9_token_282 ?_
              refine I.callV1i (d' := d - 1) (mi' := mX9_faults) dX9_token_283 lX9_175 eX9_faults rfl rfl (c_X9_faults (d := d - 1) hl (by omega) ) (show d - 1 + 1 ≤ d from by omega) (Nat.le_of_ble_eq_true rfl) ?_
              refine I.if_eq 293 dX9_token_286 (by decide) (by omega) (fun h286 => ?_) (fun h286 => ?_)
              · skip
                refine I.iconst dX9_token_293 ?_
                exact I.zretQ dX9_token_294 rfl (by first | exact Or.inl rfl | exact Or.inr rfl | exact bI_01 _ | omega) ⟨⟨p1.fr (fun q j h => (up_ne (by omega)).trans ((up_ne (by omega)).trans (y9.2.2.2 q j h))), ⟨p2.2.1, p2.2.2⟩, (up_ne (by omega)).trans ((up_eq _ _ _ _).trans hn.symm), (up_ne (by omega)).trans ((up_ne (by omega)).trans y9.2.1), (up_ne (by omega)).trans ((up_ne (by omega)).trans y9.2.2.1)⟩, fun q j h => (up_ne (by omega)).trans ((up_ne (by omega)).trans (y9.2.2.2 q j h)), Or.inr ⟨rfl, by unfold pTok; omega, up_eq _ _ _ _⟩⟩
              · skip
                omega
      · skip
        have hk : pK T n p = 2 := ((if_pos (by omega)).trans ((pK1_2 _).mpr (by omega)))
        have hn : pN T n p = pE T n 2 (pS T n p) := by unfold pN; rw [hk]; rfl
        refine J.aload_n 0 dX9_token_160 rfl rfl ?_
        refine I.iconst dX9_token_161 ?_
        refine I.pI 15 rfl dX9_token_162 jcls fX9_172 rfl (by decide) rfl ?_
        refine J.fgt (by exact ⟨Or.inr rfl, trivial⟩) (k_X9_token_165 hl (by omega) p0 p1 p2 ((n - pS T n p).toNat) rfl ⟨(up_ne (by omega)).trans z69.1, by omega, by omega⟩ ⟨(up_ne (by omega)).trans z69.2.1, up_eq _ _ _ _⟩ (fun q j h => (up_ne (by omega)).trans (z69.2.2 q j h)) ?_)
        rintro s165 ⟨n165, a165, k165, f165⟩
        have eE := pE_le (T := T) (kd := 2) eS.2
        refine J.aload_n 0 dX9_token_193 rfl rfl ?_
        refine I.gI 13 rfl dX9_token_194 jcls fX9_162 rfl (by decide) rfl ?_
        refine I.sx n165 ?_
        refine J.aload_n 0 dX9_token_197 rfl rfl ?_
        refine I.gI 14 rfl dX9_token_198 jcls fX9_169 rfl (by decide) rfl ?_
        refine I.sx a165 ?_
        refine I.sub dX9_token_201 ?_
        refine I.iconst dX9_token_202 ?_
        refine I.icmp_le 214 dX9_token_203 (by decide) (by omega) (by omega) (fun h203 => ?_) (fun h203 => ?_)
        · skip
          refine I.iconst dX9_token_214 ?_
          refine J.goto 219 dX9_token_215 (by decide) ?_
          exact I.zretQ dX9_token_219 rfl (by first | exact Or.inl rfl | exact Or.inr rfl | exact bI_01 _ | omega) ⟨⟨p1.fr f165, ⟨p2.2.1, p2.2.2⟩, n165.trans hn.symm, a165, k165.trans (by rw [hk]; rfl)⟩, f165, Or.inl ⟨rfl, by unfold pTok; rw [hk, hn]; omega⟩⟩
        · skip
          refine J.aload_n 0 dX9_token_206 rfl rfl ?_
          refine I.iconst dX9_token_207 ?_
          refine I.callV1i (d' := d - 1) (mi' := mX9_faults) dX9_token_208 lX9_175 eX9_faults rfl rfl (c_X9_faults (d := d - 1) hl (by omega) ) (show d - 1 + 1 ≤ d from by omega) (Nat.le_of_ble_eq_true rfl) ?_
          refine I.if_eq 218 dX9_token_211 (by decide) (by omega) (fun h211 => ?_) (fun h211 => ?_)
          · skip
            refine I.iconst dX9_token_218 ?_
            exact I.zretQ dX9_token_219 rfl (by first | exact Or.inl rfl | exact Or.inr rfl | exact bI_01 _ | omega) ⟨⟨p1.fr (fun q j h => (up_ne (by omega)).trans (f165 q j h)), ⟨p2.2.1, p2.2.2⟩, (up_ne (by omega)).trans (n165.trans hn.symm), (up_ne (by omega)).trans a165, (up_ne (by omega)).trans (k165.trans (by rw [hk]; rfl))⟩, fun q j h => (up_ne (by omega)).trans (f165 q j h), Or.inr ⟨rfl, by unfold pTok; rw [hk, hn]; omega, up_eq _ _ _ _⟩⟩
          · skip
            omega
    · skip
      have hk : pK T n p = 1 := ((if_pos (by omega)).trans ((pK1_1 _).mpr (by omega)))
      have hn : pN T n p = pE T n 1 (pS T n p) := by unfold pN; rw [hk]; rfl
      refine J.aload_n 0 dX9_token_84 rfl rfl ?_
      refine I.iconst dX9_token_85 ?_
      refine I.pI 15 rfl dX9_token_86 jcls fX9_172 rfl (by decide) rfl ?_
      refine J.fgt (by exact ⟨Or.inr rfl, trivial⟩) (k_X9_token_89 hl (by omega) p0 p1 p2 ((n - pS T n p).toNat) rfl ⟨(up_ne (by omega)).trans z69.1, by omega, by omega⟩ ⟨(up_ne (by omega)).trans z69.2.1, up_eq _ _ _ _⟩ (fun q j h => (up_ne (by omega)).trans (z69.2.2 q j h)) ?_)
      rintro s89 ⟨n89, a89, k89, f89⟩
      have eE := pE_le (T := T) (kd := 1) eS.2
      refine J.aload_n 0 dX9_token_117 rfl rfl ?_
      refine I.gI 13 rfl dX9_token_118 jcls fX9_162 rfl (by decide) rfl ?_
      refine I.sx n89 ?_
      refine J.aload_n 0 dX9_token_121 rfl rfl ?_
      refine I.gI 14 rfl dX9_token_122 jcls fX9_169 rfl (by decide) rfl ?_
      refine I.sx a89 ?_
      refine I.sub dX9_token_125 ?_
      refine I.bipush dX9_token_126 (by decide) ?_
      refine I.icmp_le 139 dX9_token_128 (by decide) (by omega) (by omega) (fun h128 => ?_) (fun h128 => ?_)
      · skip
        refine I.iconst dX9_token_139 ?_
        refine J.goto 144 dX9_token_140 (by decide) ?_
        exact I.zretQ dX9_token_144 rfl (by first | exact Or.inl rfl | exact Or.inr rfl | exact bI_01 _ | omega) ⟨⟨p1.fr f89, ⟨p2.2.1, p2.2.2⟩, n89.trans hn.symm, a89, k89.trans (by rw [hk]; rfl)⟩, f89, Or.inl ⟨rfl, by unfold pTok; rw [hk, hn]; omega⟩⟩
      · skip
        refine J.aload_n 0 dX9_token_131 rfl rfl ?_
        refine I.iconst dX9_token_132 ?_
        refine I.callV1i (d' := d - 1) (mi' := mX9_faults) dX9_token_133 lX9_175 eX9_faults rfl rfl (c_X9_faults (d := d - 1) hl (by omega) ) (show d - 1 + 1 ≤ d from by omega) (Nat.le_of_ble_eq_true rfl) ?_
        refine I.if_eq 143 dX9_token_136 (by decide) (by omega) (fun h136 => ?_) (fun h136 => ?_)
        · skip
          refine I.iconst dX9_token_143 ?_
          exact I.zretQ dX9_token_144 rfl (by first | exact Or.inl rfl | exact Or.inr rfl | exact bI_01 _ | omega) ⟨⟨p1.fr (fun q j h => (up_ne (by omega)).trans (f89 q j h)), ⟨p2.2.1, p2.2.2⟩, (up_ne (by omega)).trans (n89.trans hn.symm), (up_ne (by omega)).trans a89, (up_ne (by omega)).trans (k89.trans (by rw [hk]; rfl))⟩, fun q j h => (up_ne (by omega)).trans (f89 q j h), Or.inr ⟨rfl, by unfold pTok; rw [hk, hn]; omega, up_eq _ _ _ _⟩⟩
        · skip
          omega
  · skip
    have hk : pK T n p = 0 := if_neg (by omega)
    have hn : pN T n p = pS T n p := by unfold pN; rw [hk]; rfl
    refine J.aload_n 0 dX9_token_62 rfl rfl ?_
    refine I.iconst dX9_token_63 ?_
    refine I.pI 15 rfl dX9_token_64 jcls fX9_172 rfl (by decide) rfl ?_
    refine I.iconst dX9_token_67 ?_
    exact I.zretQ dX9_token_68 rfl (by first | exact Or.inl rfl | exact Or.inr rfl | exact bI_01 _ | omega) ⟨⟨p1.fr (fun q j h => (up_ne (by omega)).trans (z69.2.2 q j h)), ⟨p2.2.1, p2.2.2⟩, (up_ne (by omega)).trans (z69.1.trans hn.symm), (up_ne (by omega)).trans z69.2.1, (up_eq _ _ _ _).trans (by rw [hk]; rfl)⟩, fun q j h => (up_ne (by omega)).trans (z69.2.2 q j h), Or.inl ⟨rfl, by unfold pTok; rw [hk]; omega⟩⟩
