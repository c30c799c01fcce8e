section JT2
variable {Γ : jE} {b : Nat × Nat × Nat} {mi : jMI} {pc : Nat} {L : List (Option Value)} {S : List Value} {P : Option Value → jM → Prop} {X : String → jM → Prop}
theorem K.initE {q idx N1 : Nat} {l1 : List (Nat × Nat × Nat)} {b' : Nat × Nat × Nat} {mi' : jMI} {M : jM} {R : (Nat → Int → Int) → Prop} (d : decode mi.2.1 pc = .ok (.invokespecial idx, 3)) (hl : Cond.methodLink mi.1.cls idx mi'.1 ∈ jG) (hs : jIE mi' 0) (hb : b'.1 + 1 ≤ b.1 ∧ b'.2.1 ≤ b.2.1 ∧ b'.2.2 ≤ b.2.2) (hc : Con Γ b' mi' [.ref q] M (fun v M' => v = none ∧ ∃ s', M' = jmT N1 l1 s' ∧ CT N1 l1 s' ∧ R s') X0) (hcat : (S.map fun v => v.category).sum ≤ 8)
    (k : ∀ s', CT N1 l1 s' ∧ R s' → J Γ (b.1, b.2.1 - b'.2.1, b.2.2 - b'.2.2) mi (pc + 3) L S (jmT N1 l1 s') P X) : J Γ b mi pc L (.ref q :: S) M P X :=
  J.callI [] d hl hs hb hc (fun _ _ h => h) (fun _ _ h => absurd h id) hcat (fun v M' h => by obtain ⟨rfl, s', rfl, r⟩ := h; exact k s' r)
end JT2
def l51 : List (Nat × Nat × Nat) := [(0, 6, 36), (36, 1, 43), (43, 12, 50), (43, 11, 49), (43, 10, 48), (43, 9, 47), (43, 8, 46), (43, 7, 45), (43, 6, 44), (36, 0, 37), (37, 5, 42), (37, 4, 41), (37, 3, 40), (37, 2, 39), (37, 1, 38), (0, 5, 21), (21, 1, 28), (28, 12, 35), (28, 11, 34), (28, 10, 33), (28, 9, 32), (28, 8, 31), (28, 7, 30), (28, 6, 29), (21, 0, 22), (22, 5, 27), (22, 4, 26), (22, 3, 25), (22, 2, 24), (22, 1, 23), (0, 4, 2), (2, 2, 20), (2, 1, 18), (18, 0, 19), (2, 0, 3), (3, 1, 10), (10, 12, 17), (10, 11, 16), (10, 10, 15), (10, 9, 14), (10, 8, 13), (10, 7, 12), (10, 6, 11), (3, 0, 4), (4, 5, 9), (4, 4, 8), (4, 3, 7), (4, 2, 6), (4, 1, 5), (0, 0, 1)]
def lC : List (Nat × Nat × Nat) := (51, 8, 60) :: (51, 7, 59) :: (51, 6, 58) :: (51, 5, 57) :: (51, 4, 56) :: (51, 3, 55) :: (51, 2, 54) :: (51, 1, 53) :: (51, 0, 52) :: l51
def jshC : List (Nat × Nat) := jsh.take 61
def jtauC : Nat → Nat → Option Nat := tL [(51, 8, 60), (51, 7, 59), (51, 6, 58), (51, 5, 57), (51, 4, 56), (51, 3, 55), (51, 2, 54), (51, 1, 53), (51, 0, 52), (0, 6, 36), (36, 1, 43), (43, 12, 50), (43, 11, 49), (43, 10, 48), (43, 9, 47), (43, 8, 46), (43, 7, 45), (43, 6, 44), (36, 0, 37), (37, 5, 42), (37, 4, 41), (37, 3, 40), (37, 2, 39), (37, 1, 38), (0, 5, 21), (21, 1, 28), (28, 12, 35), (28, 11, 34), (28, 10, 33), (28, 9, 32), (28, 8, 31), (28, 7, 30), (28, 6, 29), (21, 0, 22), (22, 5, 27), (22, 4, 26), (22, 3, 25), (22, 2, 24), (22, 1, 23), (0, 4, 2), (2, 2, 20), (2, 1, 18), (18, 0, 19), (2, 0, 3), (3, 1, 10), (10, 12, 17), (10, 11, 16), (10, 10, 15), (10, 9, 14), (10, 8, 13), (10, 7, 12), (10, 6, 11), (3, 0, 4), (4, 5, 9), (4, 4, 8), (4, 3, 7), (4, 2, 6), (4, 1, 5), (0, 0, 1)]
section ZC1
variable {Γ : jE} {b : Nat × Nat × Nat} {mi : jMI} {pc : Nat} {L : List (Option Value)} {S : List Value} {M : jM} {P : Option Value → jM → Prop} {X : String → jM → Prop}
def jmemC (s : Nat → Int → Int) (ε : jEps) : jM := (jshC, jtauC, fun q k => iI (s q k), ε)
theorem jmem_putC {s : Nat → Int → Int} {ε : jEps} {q k : Nat} {z : Int} : ((jmemC s ε).1, (jmemC s ε).2.1, jup2 (jmemC s ε).2.2.1 q k (iI z), (jmemC s ε).2.2.2) = jmemC (up s q k z) ε := by
  unfold jmemC
  congr 3
  funext a i
  unfold jup2 up
  by_cases h : a = q ∧ i = k
  · rw [if_pos h, if_pos (by omega)]
  · rw [if_neg h, if_neg (by omega)]
end ZC1
section ZC2
variable {Γ : jE} {b : Nat × Nat × Nat} {mi : jMI} {pc : Nat} {L : List (Option Value)} {S : List Value} {M : jM} {P : Option Value → jM → Prop} {X : String → jM → Prop}
variable {s : Nat → Int → Int} {ε : jEps}
theorem I.getRC {q idx ci k n r : Nat} {ty : FieldType} {fin : Bool} (d : decode mi.2.1 pc = .ok (.getfield idx, 3)) (hcl : jCls) (f : jFld mi.1.cls idx ci k ty fin) (hs : jshC[q]? = some (ci, n)) (hn : k < n) (hr : jrf ci k = true) (hv : jtauC q k = some r) (kk : J Γ b mi (pc + 3) L (.ref r :: S) (jmemC s ε) P X) : J Γ b mi pc L (.ref q :: S) (jmemC s ε) P X := J.getR hcl d f hs hn hr hv kk
theorem I.iastC {q n : Nat} {i x : Int} (d : decode mi.2.1 pc = .ok (.iastore, 1)) (hs : jshC[q]? = some (100, n)) (hn : n < 2147483648) (hi : 0 ≤ i ∧ i < n) (kk : J Γ b mi (pc + 1) L S (jmemC (up s q i x) ε) P X) : J Γ b mi pc L (.int (iI x) :: .int (iI i) :: .ref q :: S) (jmemC s ε) P X :=
  J.iast d hs (iI_in hi hn) (by rw [iI_clamp (by omega), jmem_putC, Int.toNat_of_nonneg hi.1]; exact kk)
theorem I.alenC {q t n : Nat} (d : decode mi.2.1 pc = .ok (.arraylength, 1)) (hs : jshC[q]? = some (t, n)) (ht : 100 ≤ t) (kk : J Γ b mi (pc + 1) L (.int (iI (n : Int)) :: S) (jmemC s ε) P X) : J Γ b mi pc L (.ref q :: S) (jmemC s ε) P X := J.alen d hs ht kk
end ZC2
section ZC3
variable {Γ : jE} {b : Nat × Nat × Nat} {mi : jMI} {pc : Nat} {L : List (Option Value)} {S : List Value} {M : jM} {P : Option Value → jM → Prop} {X : String → jM → Prop} {s : Nat → Int → Int} {ε : jEps}
def RWC (Q : (Nat → Int → Int) → Prop) (ε : jEps) : Option Value → jM → Prop := fun v M => ∃ s', v = none ∧ M = jmemC s' ε ∧ Q s'
theorem I.vretQC {Q : (Nat → Int → Int) → Prop} (d : decode mi.2.1 pc = .ok (.return_, 1)) (hr : mi.2.2.2 = none) (hq : Q s) : J Γ b mi pc L [] (jmemC s ε) (RWC Q ε) X := J.vret hr d ⟨s, rfl, rfl, hq⟩
end ZC3
set_option maxHeartbeats 1000000 in
theorem k_X5_init_90C {Γ : jE} (hl : Γ.1.stackTraces = false) {s : Nat → Int → Int} {ε : jEps} {d : Nat} (hd : 0 ≤ d) {mc ms : Nat} {P : Option Value → jM → Prop} {X : String → jM → Prop} : ∀ (k : Nat) {z : Nat → Int → Int} {sp hi lo : Int} (q0 : ((k : Nat) : Int) = lo + 1) (q1 : 0 ≤ hi ∧ hi ≤ 7 ∧ lo ≤ hi ∧ -1 ≤ lo ∧ sp = gTri hi + hi - lo) (q2 : ∀ l h, 0 ≤ l → l ≤ h → h < hi → z 52 (gSp l h) = l ∧ z 53 (gSp l h) = h) (q3 : ∀ q j, q ≠ 52 → q ≠ 53 → z q j = s q j) (q4 : ∀ l, lo < l → l ≤ hi → z 52 (gSp l hi) = l ∧ z 53 (gSp l hi) = hi) (kx : ∀ s', ((∀ l h, 0 ≤ l → l ≤ h → h < hi + 1 → s' 52 (gSp l h) = l ∧ s' 53 (gSp l h) = h) ∧ ∀ q j, q ≠ 52 → q ≠ 53 → s' q j = s q j) → J Γ (d, mc, ms) mX5_init 135 [some (.ref 51), some (.int (iI (gTri hi + hi + 1))), some (.int (iI (hi))), none] [] (jmemC s' ε) P X), J Γ (d, mc, ms) mX5_init 90 [some (.ref 51), some (.int (iI (sp))), some (.int (iI (hi))), some (.int (iI (lo)))] [] (jmemC z ε) P X := by
  intro k
  induction k with
  | zero =>
    intro z sp hi lo q0 q1 q2 q3 q4 kx
    have tr := gTri_c (h := hi) q1.1 (by omega)
    refine J.iload_n 3 dX5_init_90 rfl rfl ?_
    refine I.if_lt 135 dX5_init_91 (by decide) (by omega) (fun h91 => ?_) (fun h91 => ?_)
    · skip
      obtain rfl : sp = gTri hi + hi + 1 := by omega
      exact J.fgt (by exact ⟨Or.inr rfl, Or.inr rfl, Or.inr rfl, Or.inl rfl, trivial⟩) (kx _ ⟨fun l h a b c => by by_cases e : h = hi; (subst e; exact q4 l (by omega) b); exact q2 l h a b (by omega), q3⟩)
    · exact absurd h91 (by omega)
  | succ k ih =>
    intro z sp hi lo q0 q1 q2 q3 q4 kx
    have tr := gTri_c (h := hi) q1.1 (by omega)
    refine J.iload_n 3 dX5_init_90 rfl rfl ?_
    refine I.if_lt 135 dX5_init_91 (by decide) (by omega) (fun h91 => ?_) (fun h91 => ?_)
    · exact absurd h91 (by omega)
    · skip
      refine J.iload_n 1 dX5_init_94 rfl rfl ?_
      refine J.aload_n 0 dX5_init_95 rfl rfl ?_
      refine I.getRC dX5_init_96 jcls fX5_9 rfl (by decide) rfl rfl ?_
      refine I.alenC dX5_init_99 rfl (by decide) ?_
      refine I.icmp_ge 126 dX5_init_100 (by decide) (by omega) (by omega) (fun h100 => ?_) (fun h100 => ?_)
      · exact absurd h100 (by omega)
      · skip
        refine J.iload_n 1 dX5_init_103 rfl rfl ?_
        refine J.aload_n 0 dX5_init_104 rfl rfl ?_
        refine I.getRC dX5_init_105 jcls fX5_15 rfl (by decide) rfl rfl ?_
        refine I.alenC dX5_init_108 rfl (by decide) ?_
        refine I.icmp_ge 126 dX5_init_109 (by decide) (by omega) (by omega) (fun h109 => ?_) (fun h109 => ?_)
        · exact absurd h109 (by omega)
        · skip
          refine J.aload_n 0 dX5_init_112 rfl rfl ?_
          refine I.getRC dX5_init_113 jcls fX5_9 rfl (by decide) rfl rfl ?_
          refine J.iload_n 1 dX5_init_116 rfl rfl ?_
          refine J.iload_n 3 dX5_init_117 rfl rfl ?_
          refine I.iastC dX5_init_118 rfl (by omega) (by omega) ?_
          refine J.aload_n 0 dX5_init_119 rfl rfl ?_
          refine I.getRC dX5_init_120 jcls fX5_15 rfl (by decide) rfl rfl ?_
          refine J.iload_n 1 dX5_init_123 rfl rfl ?_
          refine J.iload_n 2 dX5_init_124 rfl rfl ?_
          refine I.iastC dX5_init_125 rfl (by omega) (by omega) ?_
          refine I.iinc dX5_init_126 rfl rfl ?_
          refine I.iinc dX5_init_129 rfl rfl ?_
          refine J.goto 90 dX5_init_132 (by decide) ?_
          have ix : ∀ l h, 0 ≤ l → l ≤ h → h ≤ 7 → ¬ (l = lo ∧ h = hi) → gSp l h ≠ sp := fun l h a b c d e => d (gSp_inj a b c (by omega) (by omega) (by omega) (e.trans (show sp = gSp lo hi by unfold gSp; omega)))
          exact J.fgt (by exact ⟨Or.inr rfl, Or.inr rfl, Or.inr rfl, Or.inr rfl, trivial⟩) (ih (by omega) ⟨by omega, by omega, by omega, by omega, by omega⟩ (fun l h a b c => ⟨(up_ne (by omega)).trans ((up_ne (Or.inr (ix l h a b (by omega) (by omega)))).trans (q2 l h a b c).1), (up_ne (Or.inr (ix l h a b (by omega) (by omega)))).trans ((up_ne (by omega)).trans (q2 l h a b c).2)⟩) (fun q j a b => (up_ne (by omega)).trans ((up_ne (by omega)).trans (q3 q j a b))) (fun l a b => by by_cases e : l = lo; (subst e; exact ⟨(up_ne (by omega)).trans (up_eqq ⟨rfl, by unfold gSp; omega⟩), up_eqq ⟨rfl, by unfold gSp; omega⟩⟩); exact ⟨(up_ne (by omega)).trans ((up_ne (Or.inr (ix l hi (by omega) b (by omega) (by omega)))).trans (q4 l (by omega) b).1), (up_ne (Or.inr (ix l hi (by omega) b (by omega) (by omega)))).trans ((up_ne (by omega)).trans (q4 l (by omega) b).2)⟩) kx)
set_option maxHeartbeats 1000000 in
theorem k_X5_init_82C {Γ : jE} (hl : Γ.1.stackTraces = false) {s : Nat → Int → Int} {ε : jEps} {d : Nat} (hd : 0 ≤ d) : ∀ (k : Nat) {z : Nat → Int → Int} {sp hi : Int} (q0 : ((k : Nat) : Int) = 8 - hi) (q1 : 0 ≤ hi ∧ sp = gTri hi) (q2 : ∀ l h, 0 ≤ l → l ≤ h → h < hi → z 52 (gSp l h) = l ∧ z 53 (gSp l h) = h) (q3 : ∀ q j, q ≠ 52 → q ≠ 53 → z q j = s q j), J Γ (d, 0, 0) mX5_init 82 [some (.ref 51), some (.int (iI (sp))), some (.int (iI (hi))), none] [] (jmemC z ε) (RWC (fun s' => ST s' ∧ ∀ q j, q ≠ 52 → q ≠ 53 → s' q j = s q j) ε) X0 := by
  intro k
  induction k with
  | zero =>
    intro z sp hi q0 q1 q2 q3
    have tr := gTri_c (h := hi) q1.1 (by omega)
    refine J.iload_n 2 dX5_init_82 rfl rfl ?_
    refine I.bipush dX5_init_83 (by decide) ?_
    refine I.icmp_ge 141 dX5_init_85 (by decide) (by omega) (by omega) (fun h85 => ?_) (fun h85 => ?_)
    · skip
      exact I.vretQC dX5_init_141 rfl ⟨fun l h a b c => q2 l h a b (by omega), q3⟩
    · exact absurd h85 (by omega)
  | succ k ih =>
    intro z sp hi q0 q1 q2 q3
    have tr := gTri_c (h := hi) q1.1 (by omega)
    refine J.iload_n 2 dX5_init_82 rfl rfl ?_
    refine I.bipush dX5_init_83 (by decide) ?_
    refine I.icmp_ge 141 dX5_init_85 (by decide) (by omega) (by omega) (fun h85 => ?_) (fun h85 => ?_)
    · exact absurd h85 (by omega)
    · skip
      refine J.iload_n 2 dX5_init_88 rfl rfl ?_
      refine J.istore_n 3 dX5_init_89 rfl (by decide) rfl ?_
      refine J.fgt (by exact ⟨Or.inr rfl, Or.inr rfl, Or.inr rfl, Or.inr rfl, trivial⟩) (k_X5_init_90C hl (by omega)  ((hi + 1).toNat) (by omega) ⟨by omega, by omega, by omega, by omega, by omega⟩ q2 q3 (fun l a b => by omega) ?_)
      rintro s90 ⟨a90, f90⟩
      refine I.iinc dX5_init_135 rfl rfl ?_
      refine J.goto 82 dX5_init_138 (by decide) ?_
      have tr2 := gTri_c (h := hi + 1) (by omega) (by omega)
      exact J.fgt (by exact ⟨Or.inr rfl, Or.inr rfl, Or.inr rfl, Or.inl rfl, trivial⟩) (ih (by omega) ⟨by omega, by omega⟩ a90 f90)
set_option maxHeartbeats 1000000 in
theorem t_X5_initC {Γ : jE} (hl : Γ.1.stackTraces = false) {s : Nat → Int → Int} {ε : jEps} {d : Nat} (hd : 0 ≤ d) : J Γ (d, 0, 0) mX5_init 78 [some (.ref 51), none, none, none] [] (jmemC s ε) (RWC (fun s' => ST s' ∧ ∀ q j, q ≠ 52 → q ≠ 53 → s' q j = s q j) ε) X0 := by
  refine I.iconst dX5_init_78 ?_
  refine J.istore_n 1 dX5_init_79 rfl (by decide) rfl ?_
  refine I.iconst dX5_init_80 ?_
  refine J.istore_n 2 dX5_init_81 rfl (by decide) rfl ?_
  exact J.fgt (by exact ⟨Or.inr rfl, Or.inr rfl, Or.inr rfl, Or.inl rfl, trivial⟩) (k_X5_init_82C hl (by omega)  (8) (by omega) ⟨by decide, by decide⟩ (fun l h a b c => by omega) (fun q j a b => rfl))

set_option maxHeartbeats 4000000 in
set_option maxRecDepth 8000 in
theorem c_X5_init {Γ : jE} (hl : Γ.1.stackTraces = false) {d : Nat} {s : Nat → Int → Int} (hd : 0 ≤ d) (h0 : CT 52 l51 s) : Con Γ (d, 9, 140073) mX5_init [.ref 51] (jmT 52 l51 s) (fun v M' => v = none ∧ ∃ s', M' = jmT 61 lC s' ∧ CT 61 lC s' ∧ (ST s' ∧ s' 51 10 = -1 ∧ ∀ q j, (q ≠ 51 ∨ j ≠ 10) → q ≠ 52 → q ≠ 53 → s' q j = s q j)) X0 := by
  refine Con.ofJ (by decide +kernel) (by simp [Value.category]) (Nat.le_of_ble_eq_true rfl) ?_ hl
  refine J.aload_n 0 dX5_init_0 rfl rfl ?_
  refine J.objInit dX5_init_1 lX5_3 oi_1 oi_2 (Nat.le_of_ble_eq_true rfl) ?_
  refine J.aload_n 0 dX5_init_4 rfl rfl ?_
  refine I.bipush dX5_init_5 (by decide) ?_
  refine K.newI h0 (N' := 53) rfl 36 dX5_init_7 rfl rfl (by decide) (by decide) (show 1 ≤ 9 ∧ 36 ≤ 140073 from by decide) fun h1 => ?_
  refine K.putR h1 dX5_init_9 fX5_9 rfl (by decide) (by decide) rfl rfl rfl (fun _ => ⟨rfl, rfl⟩) (by decide) fun h2 => ?_
  refine J.aload_n 0 dX5_init_12 rfl rfl ?_
  refine I.bipush dX5_init_13 (by decide) ?_
  refine K.newI h2 (N' := 54) rfl 36 dX5_init_15 rfl rfl (by decide) (by decide) (show 1 ≤ 9 - 1 ∧ 36 ≤ 140073 - 36 from by decide) fun h3 => ?_
  refine K.putR h3 dX5_init_17 fX5_15 rfl (by decide) (by decide) rfl rfl rfl (fun _ => ⟨rfl, rfl⟩) (by decide) fun h4 => ?_
  refine J.aload_n 0 dX5_init_20 rfl rfl ?_
  refine I.bipush dX5_init_21 (by decide) ?_
  refine K.newI h4 (N' := 55) rfl 24 dX5_init_23 rfl rfl (by decide) (by decide) (show 1 ≤ 9 - 1 - 1 ∧ 24 ≤ 140073 - 36 - 36 from by decide) fun h5 => ?_
  refine K.putR h5 dX5_init_25 fX5_18 rfl (by decide) (by decide) rfl rfl rfl (fun _ => ⟨rfl, rfl⟩) (by decide) fun h6 => ?_
  refine J.aload_n 0 dX5_init_28 rfl rfl ?_
  refine I.iconst dX5_init_29 ?_
  refine K.newI h6 (N' := 56) rfl 3 dX5_init_30 rfl rfl (by decide) (by decide) (show 1 ≤ 9 - 1 - 1 - 1 ∧ 3 ≤ 140073 - 36 - 36 - 24 from by decide) fun h7 => ?_
  refine K.putR h7 dX5_init_32 fX5_21 rfl (by decide) (by decide) rfl rfl rfl (fun _ => ⟨rfl, rfl⟩) (by decide) fun h8 => ?_
  refine J.aload_n 0 dX5_init_35 rfl rfl ?_
  refine I.iconst dX5_init_36 ?_
  refine K.newI h8 (N' := 57) rfl 3 dX5_init_37 rfl rfl (by decide) (by decide) (show 1 ≤ 9 - 1 - 1 - 1 - 1 ∧ 3 ≤ 140073 - 36 - 36 - 24 - 3 from by decide) fun h9 => ?_
  refine K.putR h9 dX5_init_39 fX5_24 rfl (by decide) (by decide) rfl rfl rfl (fun _ => ⟨rfl, rfl⟩) (by decide) fun h10 => ?_
  refine J.aload_n 0 dX5_init_42 rfl rfl ?_
  refine I.iconst dX5_init_43 ?_
  refine K.newI h10 (N' := 58) rfl 3 dX5_init_44 rfl rfl (by decide) (by decide) (show 1 ≤ 9 - 1 - 1 - 1 - 1 - 1 ∧ 3 ≤ 140073 - 36 - 36 - 24 - 3 - 3 from by decide) fun h11 => ?_
  refine K.putR h11 dX5_init_46 fX5_27 rfl (by decide) (by decide) rfl rfl rfl (fun _ => ⟨rfl, rfl⟩) (by decide) fun h12 => ?_
  refine J.aload_n 0 dX5_init_49 rfl rfl ?_
  refine J.ldc (iI (46656)) dX5_init_50 qX5_30 ?_
  refine K.newI h12 (N' := 59) rfl 46656 dX5_init_52 rfl rfl (by decide) (by decide) (show 1 ≤ 9 - 1 - 1 - 1 - 1 - 1 - 1 ∧ 46656 ≤ 140073 - 36 - 36 - 24 - 3 - 3 - 3 from by decide) fun h13 => ?_
  refine K.putR h13 dX5_init_54 fX5_31 rfl (by decide) (by decide) rfl rfl rfl (fun _ => ⟨rfl, rfl⟩) (by decide) fun h14 => ?_
  refine J.aload_n 0 dX5_init_57 rfl rfl ?_
  refine J.ldc (iI (46656)) dX5_init_58 qX5_30 ?_
  refine K.newI h14 (N' := 60) rfl 46656 dX5_init_60 rfl rfl (by decide) (by decide) (show 1 ≤ 9 - 1 - 1 - 1 - 1 - 1 - 1 - 1 ∧ 46656 ≤ 140073 - 36 - 36 - 24 - 3 - 3 - 3 - 46656 from by decide) fun h15 => ?_
  refine K.putR h15 dX5_init_62 fX5_34 rfl (by decide) (by decide) rfl rfl rfl (fun _ => ⟨rfl, rfl⟩) (by decide) fun h16 => ?_
  refine J.aload_n 0 dX5_init_65 rfl rfl ?_
  refine J.ldc (iI (46656)) dX5_init_66 qX5_30 ?_
  refine K.newI h16 (N' := 61) rfl 46656 dX5_init_68 rfl rfl (by decide) (by decide) (show 1 ≤ 9 - 1 - 1 - 1 - 1 - 1 - 1 - 1 - 1 ∧ 46656 ≤ 140073 - 36 - 36 - 24 - 3 - 3 - 3 - 46656 - 46656 from by decide) fun h17 => ?_
  refine K.putR h17 dX5_init_70 fX5_37 rfl (by decide) (by decide) rfl rfl rfl (fun _ => ⟨rfl, rfl⟩) (by decide) fun h18 => ?_
  refine J.aload_n 0 dX5_init_73 rfl rfl ?_
  refine I.iconst dX5_init_74 ?_
  refine K.pI h18 dX5_init_75 fX5_40 rfl (by decide) (by decide) rfl 10 rfl fun h19 => ?_
  refine J.mono (t_X5_initC (s := up s 51 10 (-1)) (ε := (fun _ _ => 0, fun _ _ => 0)) hl hd) (fun v M' h => ?_) (fun _ _ h => h) ⟨Nat.le_refl _, Nat.zero_le _, Nat.zero_le _⟩
  obtain ⟨s', rfl, rfl, t, f⟩ := h
  exact ⟨rfl, s', rfl, ⟨h19.1, h19.2.1, fun q i hq => (f q i (by omega) (by omega)).trans (h19.2.2 q i hq)⟩, t, (f 51 10 (by decide) (by decide)).trans (up_eq _ _ _ _), fun q j a b c => (f q j b c).trans (up_ne (by omega))⟩
