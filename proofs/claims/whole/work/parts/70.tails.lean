set_option maxHeartbeats 1000000 in
theorem k_X5_init_90 {Γ : jE} (hl : Γ.1.stackTraces = false) {s : Nat → Int → Int} {ε : jEps} {d : Nat} (hd : 0 ≤ d) {mc ms : Nat} {P : Option Value → jM → Prop} {X : String → jM → Prop} : ∀ (k : Nat) {z : Nat → Int → Int} {sp hi lo : Int} (q0 : ((k : Nat) : Int) = lo + 1) (q1 : 0 ≤ hi ∧ hi ≤ 7 ∧ lo ≤ hi ∧ -1 ≤ lo ∧ sp = gTri hi + hi - lo) (q2 : ∀ l h, 0 ≤ l → l ≤ h → h < hi → z 52 (gSp l h) = l ∧ z 53 (gSp l h) = h) (q3 : ∀ q j, q ≠ 52 → q ≠ 53 → z q j = s q j) (q4 : ∀ l, lo < l → l ≤ hi → z 52 (gSp l hi) = l ∧ z 53 (gSp l hi) = hi) (kx : ∀ s', ((∀ l h, 0 ≤ l → l ≤ h → h < hi + 1 → s' 52 (gSp l h) = l ∧ s' 53 (gSp l h) = h) ∧ ∀ q j, q ≠ 52 → q ≠ 53 → s' q j = s q j) → J Γ (d, mc, ms) mX5_init 135 [some (.ref 51), some (.int (iI (gTri hi + hi + 1))), some (.int (iI (hi))), none] [] (jmem s' ε) P X), J Γ (d, mc, ms) mX5_init 90 [some (.ref 51), some (.int (iI (sp))), some (.int (iI (hi))), some (.int (iI (lo)))] [] (jmem z ε) P X := by
  intro k
  induction k with
  | zero =>
    intro z sp hi lo q0 q1 q2 q3 q4 kx
    have tr := gTri_c (h := hi) q1.1 (by omega)
    refine J.iload_n 3 dX5_init_90 rfl rfl ?_
    refine I.if_lt 135 dX5_init_91 (by decide) (by omega) (fun h91 => ?_) (fun h91 => ?_)
    · skip
      obtain rfl : sp = gTri hi + hi + 1 := by omega
      exact J.fgt (by exact ⟨Or.inr rfl, Or.inr rfl, Or.inr rfl, Or.inl rfl, trivial⟩) (kx _ ⟨fun l h a b c => by by_cases e : h = hi; (subst e; exact q4 l (by omega) b); exact q2 l h a b (by omega), q3⟩)
    · exact absurd h91 (by omega)
  | succ k ih =>
    intro z sp hi lo q0 q1 q2 q3 q4 kx
    have tr := gTri_c (h := hi) q1.1 (by omega)
    refine J.iload_n 3 dX5_init_90 rfl rfl ?_
    refine I.if_lt 135 dX5_init_91 (by decide) (by omega) (fun h91 => ?_) (fun h91 => ?_)
    · exact absurd h91 (by omega)
    · skip
      refine J.iload_n 1 dX5_init_94 rfl rfl ?_
      refine J.aload_n 0 dX5_init_95 rfl rfl ?_
      refine I.getR dX5_init_96 jcls fX5_9 rfl (by decide) rfl rfl ?_
      refine I.alen dX5_init_99 rfl (by decide) ?_
      refine I.icmp_ge 126 dX5_init_100 (by decide) (by omega) (by omega) (fun h100 => ?_) (fun h100 => ?_)
      · exact absurd h100 (by omega)
      · skip
        refine J.iload_n 1 dX5_init_103 rfl rfl ?_
        refine J.aload_n 0 dX5_init_104 rfl rfl ?_
        refine I.getR dX5_init_105 jcls fX5_15 rfl (by decide) rfl rfl ?_
        refine I.alen dX5_init_108 rfl (by decide) ?_
        refine I.icmp_ge 126 dX5_init_109 (by decide) (by omega) (by omega) (fun h109 => ?_) (fun h109 => ?_)
        · exact absurd h109 (by omega)
        · skip
          refine J.aload_n 0 dX5_init_112 rfl rfl ?_
          refine I.getR dX5_init_113 jcls fX5_9 rfl (by decide) rfl rfl ?_
          refine J.iload_n 1 dX5_init_116 rfl rfl ?_
          refine J.iload_n 3 dX5_init_117 rfl rfl ?_
          refine I.iast dX5_init_118 rfl (by omega) (by omega) ?_
          refine J.aload_n 0 dX5_init_119 rfl rfl ?_
          refine I.getR dX5_init_120 jcls fX5_15 rfl (by decide) rfl rfl ?_
          refine J.iload_n 1 dX5_init_123 rfl rfl ?_
          refine J.iload_n 2 dX5_init_124 rfl rfl ?_
          refine I.iast dX5_init_125 rfl (by omega) (by omega) ?_
          refine I.iinc dX5_init_126 rfl rfl ?_
          refine I.iinc dX5_init_129 rfl rfl ?_
          refine J.goto 90 dX5_init_132 (by decide) ?_
          have ix : ∀ l h, 0 ≤ l → l ≤ h → h ≤ 7 → ¬ (l = lo ∧ h = hi) → gSp l h ≠ sp := fun l h a b c d e => d (gSp_inj a b c (by omega) (by omega) (by omega) (e.trans (show sp = gSp lo hi by unfold gSp; omega)))
          exact J.fgt (by exact ⟨Or.inr rfl, Or.inr rfl, Or.inr rfl, Or.inr rfl, trivial⟩) (ih (by omega) ⟨by omega, by omega, by omega, by omega, by omega⟩ (fun l h a b c => ⟨(up_ne (by omega)).trans ((up_ne (Or.inr (ix l h a b (by omega) (by omega)))).trans (q2 l h a b c).1), (up_ne (Or.inr (ix l h a b (by omega) (by omega)))).trans ((up_ne (by omega)).trans (q2 l h a b c).2)⟩) (fun q j a b => (up_ne (by omega)).trans ((up_ne (by omega)).trans (q3 q j a b))) (fun l a b => by by_cases e : l = lo; (subst e; exact ⟨(up_ne (by omega)).trans (up_eqq ⟨rfl, by unfold gSp; omega⟩), up_eqq ⟨rfl, by unfold gSp; omega⟩⟩); exact ⟨(up_ne (by omega)).trans ((up_ne (Or.inr (ix l hi (by omega) b (by omega) (by omega)))).trans (q4 l (by omega) b).1), (up_ne (Or.inr (ix l hi (by omega) b (by omega) (by omega)))).trans ((up_ne (by omega)).trans (q4 l (by omega) b).2)⟩) kx)
set_option maxHeartbeats 1000000 in
theorem k_X5_init_82 {Γ : jE} (hl : Γ.1.stackTraces = false) {s : Nat → Int → Int} {ε : jEps} {d : Nat} (hd : 0 ≤ d) : ∀ (k : Nat) {z : Nat → Int → Int} {sp hi : Int} (q0 : ((k : Nat) : Int) = 8 - hi) (q1 : 0 ≤ hi ∧ sp = gTri hi) (q2 : ∀ l h, 0 ≤ l → l ≤ h → h < hi → z 52 (gSp l h) = l ∧ z 53 (gSp l h) = h) (q3 : ∀ q j, q ≠ 52 → q ≠ 53 → z q j = s q j), J Γ (d, 0, 0) mX5_init 82 [some (.ref 51), some (.int (iI (sp))), some (.int (iI (hi))), none] [] (jmem z ε) (RW (fun s' => ST s' ∧ ∀ q j, q ≠ 52 → q ≠ 53 → s' q j = s q j) ε) X0 := by
  intro k
  induction k with
  | zero =>
    intro z sp hi q0 q1 q2 q3
    have tr := gTri_c (h := hi) q1.1 (by omega)
    refine J.iload_n 2 dX5_init_82 rfl rfl ?_
    refine I.bipush dX5_init_83 (by decide) ?_
    refine I.icmp_ge 141 dX5_init_85 (by decide) (by omega) (by omega) (fun h85 => ?_) (fun h85 => ?_)
    · skip
      exact I.vretQ dX5_init_141 rfl ⟨fun l h a b c => q2 l h a b (by omega), q3⟩
    · exact absurd h85 (by omega)
  | succ k ih =>
    intro z sp hi q0 q1 q2 q3
    have tr := gTri_c (h := hi) q1.1 (by omega)
    refine J.iload_n 2 dX5_init_82 rfl rfl ?_
    refine I.bipush dX5_init_83 (by decide) ?_
    refine I.icmp_ge 141 dX5_init_85 (by decide) (by omega) (by omega) (fun h85 => ?_) (fun h85 => ?_)
    · exact absurd h85 (by omega)
    · skip
      refine J.iload_n 2 dX5_init_88 rfl rfl ?_
      refine J.istore_n 3 dX5_init_89 rfl (by decide) rfl ?_
      refine J.fgt (by exact ⟨Or.inr rfl, Or.inr rfl, Or.inr rfl, Or.inr rfl, trivial⟩) (k_X5_init_90 hl (by omega)  ((hi + 1).toNat) (by omega) ⟨by omega, by omega, by omega, by omega, by omega⟩ q2 q3 (fun l a b => by omega) ?_)
      rintro s90 ⟨a90, f90⟩
      refine I.iinc dX5_init_135 rfl rfl ?_
      refine J.goto 82 dX5_init_138 (by decide) ?_
      have tr2 := gTri_c (h := hi + 1) (by omega) (by omega)
      exact J.fgt (by exact ⟨Or.inr rfl, Or.inr rfl, Or.inr rfl, Or.inl rfl, trivial⟩) (ih (by omega) ⟨by omega, by omega⟩ a90 f90)
set_option maxHeartbeats 1000000 in
theorem t_X5_init {Γ : jE} (hl : Γ.1.stackTraces = false) {s : Nat → Int → Int} {ε : jEps} {d : Nat} (hd : 0 ≤ d) : J Γ (d, 0, 0) mX5_init 78 [some (.ref 51), none, none, none] [] (jmem s ε) (RW (fun s' => ST s' ∧ ∀ q j, q ≠ 52 → q ≠ 53 → s' q j = s q j) ε) X0 := by
  refine I.iconst dX5_init_78 ?_
  refine J.istore_n 1 dX5_init_79 rfl (by decide) rfl ?_
  refine I.iconst dX5_init_80 ?_
  refine J.istore_n 2 dX5_init_81 rfl (by decide) rfl ?_
  exact J.fgt (by exact ⟨Or.inr rfl, Or.inr rfl, Or.inr rfl, Or.inl rfl, trivial⟩) (k_X5_init_82 hl (by omega)  (8) (by omega) ⟨by decide, by decide⟩ (fun l h a b c => by omega) (fun q j a b => rfl))
