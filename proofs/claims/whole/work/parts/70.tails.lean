set_option maxHeartbeats 1000000 in
theorem k_X5_init_90 {Γ : jE} (hl : Γ.1.stackTraces = false) {s : Nat → Int → Int} {ε : jEps} {d : Nat} (hd : 0 ≤ d) {mc ms : Nat} {P : Option Value → jM → Prop} {X : String → jM → Prop} : ∀ (k : Nat) {z : Nat → Int → Int} {sp hi lo : Int} (q0 : ((k : Nat) : Int) = lo + 1) (q1 : 0 ≤ hi ∧ hi ≤ 7 ∧ lo ≤ hi ∧ -1 ≤ lo ∧ sp = gTri hi + hi - lo) (q2 : ∀ l h, 0 ≤ l → l ≤ h → h < hi → z 52 (gSp l h) = l ∧ z 53 (gSp l h) = h) (q3 : ∀ q j, q ≠ 52 → q ≠ 53 → z q j = s q j) (q4 : ∀ l, lo < l → l ≤ hi → z 52 (gSp l hi) = l ∧ z 53 (gSp l hi) = hi) (kx : ∀ s', ((∀ l h, 0 ≤ l → l ≤ h → h < hi + 1 → s' 52 (gSp l h) = l ∧ s' 53 (gSp l h) = h) ∧ ∀ q j, q ≠ 52 → q ≠ 53 → s' q j = s q j) → J Γ (d, mc, ms) mX5_init 135 [some (.ref 51), some (.int (iI (gTri hi + hi + 1))), some (.int (iI (hi))), none] [] (jmem s' ε) P X), J Γ (d, mc, ms) mX5_init 90 [some (.ref 51), some (.int (iI (sp))), some (.int (iI (hi))), some (.int (iI (lo)))] [] (jmem z ε) P X := by
  intro k
  induction k with
  | zero =>
    intro z sp hi lo q0 q1 q2 q3 q4 kx
    have tr := gTri_c (h := hi) q1.1 (by omega)
    refine J.iload_n 3 dX5_init_90 rfl rfl ?_
    refine I.if_lt 135 dX5_init_91 (by decide) (by omega) (fun h91 => ?_) (fun h91 => ?_)
    · skip
      obtain rfl : sp = gTri hi + hi + 1 := by omega
      exact J.fgt (by exact ⟨Or.inr rfl, Or.inr rfl, Or.inr rfl, Or.inl rfl, trivial⟩) (kx _ ⟨fun l h a b c => by by_cases e : h = hi; (subst e; exact q4 l (by omega) b); exact q2 l h a b (by omega), q3⟩)
    · exact absurd h91 (by omega)
  | succ k ih =>
    intro z sp hi lo q0 q1 q2 q3 q4 kx
    have tr := gTri_c (h := hi) q1.1 (by omega)
    refine J.iload_n 3 dX5_init_90 rfl rfl ?_
    refine I.if_lt 135 dX5_init_91 (by decide) (by omega) (fun h91 => ?_) (fun h91 => ?_)
    · exact absurd h91 (by omega)
    · skip
      refine J.iload_n 1 dX5_init_94 rfl rfl ?_
      refine J.aload_n 0 dX5_init_95 rfl rfl ?_
      refine I.getR dX5_init_96 jcls fX5_9 rfl (by decide) rfl rfl ?_
      refine I.alen dX5_init_99 rfl (by decide) ?_
      refine I.icmp_ge 126 dX5_init_100 (by decide) (by omega) (by omega) (fun h100 => ?_) (fun h100 => ?_)
      · exact absurd h100 (by omega)
      · skip
        refine J.iload_n 1 dX5_init_103 rfl rfl ?_
        refine J.aload_n 0 dX5_init_104 rfl rfl ?_
        refine I.getR dX5_init_105 jcls fX5_15 rfl (by decide) rfl rfl ?_
        refine I.alen dX5_init_108 rfl (by decide) ?_
        refine I.icmp_ge 126 dX5_init_109 (by decide) (by omega) (by omega) (fun h109 => ?_) (fun h109 => ?_)
        · exact absurd h109 (by omega)
        · skip
          refine J.aload_n 0 dX5_init_112 rfl rfl ?_
          refine I.getR dX5_init_113 jcls fX5_9 rfl (by decide) rfl rfl ?_
          refine J.iload_n 1 dX5_init_116 rfl rfl ?_
          refine J.iload_n 3 dX5_init_117 rfl rfl ?_
          refine I.iast dX5_init_118 rfl (by omega) (by omega) ?_
          refine J.aload_n 0 dX5_init_119 rfl rfl ?_
          refine I.getR dX5_init_120 jcls fX5_15 rfl (by decide) rfl rfl ?_
          refine J.iload_n 1 dX5_init_123 rfl rfl ?_
          refine J.iload_n 2 dX5_init_124 rfl rfl ?_
          refine I.iast dX5_init_125 rfl (by omega) (by omega) ?_
          refine I.iinc dX5_init_126 rfl rfl ?_
          refine I.iinc dX5_init_129 rfl rfl ?_
          refine J.goto 90 dX5_init_132 (by decide) ?_
          have ix : ∀ l h, 0 ≤ l → l ≤ h → h ≤ 7 → ¬ (l = lo ∧ h = hi) → gSp l h ≠ sp := fun l h a b c d e => d (gSp_inj a b c (by omega) (by omega) (by omega) (e.trans (show sp = gSp lo hi by unfold gSp; omega)))
          exact J.fgt (by exact ⟨Or.inr rfl, Or.inr rfl, Or.inr rfl, Or.inr rfl, trivial⟩) (ih (by omega) ⟨by omega, by omega, by omega, by omega, by omega⟩ (fun l h a b c => ⟨(up_ne (by omega)).trans ((up_ne (Or.inr (ix l h a b (by omega) (by omega)))).trans (q2 l h a b c).1), (up_ne (Or.inr (ix l h a b (by omega) (by omega)))).trans ((up_ne (by omega)).trans (q2 l h a b c).2)⟩) (fun q j a b => (up_ne (by omega)).trans ((up_ne (by omega)).trans (q3 q j a b))) (fun l a b => by by_cases e : l = lo; (subst e; exact ⟨(up_ne (by omega)).trans (up_eqq ⟨rfl, by unfold gSp; omega⟩), up_eqq ⟨rfl, by unfold gSp; omega⟩⟩); exact ⟨(up_ne (by omega)).trans ((up_ne (Or.inr (ix l hi (by omega) b (by omega) (by omega)))).trans (q4 l (by omega) b).1), (up_ne (Or.inr (ix l hi (by omega) b (by omega) (by omega)))).trans ((up_ne (by omega)).trans (q4 l (by omega) b).2)⟩) kx)
set_option maxHeartbeats 1000000 in
theorem k_X5_init_82 {Γ : jE} (hl : Γ.1.stackTraces = false) {s : Nat → Int → Int} {ε : jEps} {d : Nat} (hd : 0 ≤ d) : ∀ (k : Nat) {z : Nat → Int → Int} {sp hi : Int} (q0 : ((k : Nat) : Int) = 8 - hi) (q1 : 0 ≤ hi ∧ sp = gTri hi) (q2 : ∀ l h, 0 ≤ l → l ≤ h → h < hi → z 52 (gSp l h) = l ∧ z 53 (gSp l h) = h) (q3 : ∀ q j, q ≠ 52 → q ≠ 53 → z q j = s q j), J Γ (d, 0, 0) mX5_init 82 [some (.ref 51), some (.int (iI (sp))), some (.int (iI (hi))), none] [] (jmem z ε) (RW (fun s' => ST s' ∧ ∀ q j, q ≠ 52 → q ≠ 53 → s' q j = s q j) ε) X0 := by
  intro k
  induction k with
  | zero =>
    intro z sp hi q0 q1 q2 q3
    have tr := gTri_c (h := hi) q1.1 (by omega)
    refine J.iload_n 2 dX5_init_82 rfl rfl ?_
    refine I.bipush dX5_init_83 (by decide) ?_
    refine I.icmp_ge 141 dX5_init_85 (by decide) (by omega) (by omega) (fun h85 => ?_) (fun h85 => ?_)
    · skip
      exact I.vretQ dX5_init_141 rfl ⟨fun l h a b c => q2 l h a b (by omega), q3⟩
    · exact absurd h85 (by omega)
  | succ k ih =>
    intro z sp hi q0 q1 q2 q3
    have tr := gTri_c (h := hi) q1.1 (by omega)
    refine J.iload_n 2 dX5_init_82 rfl rfl ?_
    refine I.bipush dX5_init_83 (by decide) ?_
    refine I.icmp_ge 141 dX5_init_85 (by decide) (by omega) (by omega) (fun h85 => ?_) (fun h85 => ?_)
    · exact absurd h85 (by omega)
    · skip
      refine J.iload_n 2 dX5_init_88 rfl rfl ?_
      refine J.istore_n 3 dX5_init_89 rfl (by decide) rfl ?_
      refine J.fgt (by exact ⟨Or.inr rfl, Or.inr rfl, Or.inr rfl, Or.inr rfl, trivial⟩) (k_X5_init_90 hl (by omega)  ((hi + 1).toNat) (by omega) ⟨by omega, by omega, by omega, by omega, by omega⟩ q2 q3 (fun l a b => by omega) ?_)
      rintro s90 ⟨a90, f90⟩
      refine I.iinc dX5_init_135 rfl rfl ?_
      refine J.goto 82 dX5_init_138 (by decide) ?_
      have tr2 := gTri_c (h := hi + 1) (by omega) (by omega)
      exact J.fgt (by exact ⟨Or.inr rfl, Or.inr rfl, Or.inr rfl, Or.inl rfl, trivial⟩) (ih (by omega) ⟨by omega, by omega⟩ a90 f90)
set_option maxHeartbeats 1000000 in
theorem t_X5_init {Γ : jE} (hl : Γ.1.stackTraces = false) {s : Nat → Int → Int} {ε : jEps} {d : Nat} (hd : 0 ≤ d) : J Γ (d, 0, 0) mX5_init 78 [some (.ref 51), none, none, none] [] (jmem s ε) (RW (fun s' => ST s' ∧ ∀ q j, q ≠ 52 → q ≠ 53 → s' q j = s q j) ε) X0 := by
  refine I.iconst dX5_init_78 ?_
  refine J.istore_n 1 dX5_init_79 rfl (by decide) rfl ?_
  refine I.iconst dX5_init_80 ?_
  refine J.istore_n 2 dX5_init_81 rfl (by decide) rfl ?_
  exact J.fgt (by exact ⟨Or.inr rfl, Or.inr rfl, Or.inr rfl, Or.inl rfl, trivial⟩) (k_X5_init_82 hl (by omega)  (8) (by omega) ⟨by decide, by decide⟩ (fun l h a b c => by omega) (fun q j a b => rfl))
def iG0 : Int → Int := fun _ => 0
def iG1 : Int → Int := gORd iG0
def iG2 : Int → Int := gOCh iG1 (iG1 0 - 1)
def iG3 : Int → Int := gAdd iG2 (iG2 0 - 1) 0 0 (10 * 1 + 2)
def iG4 : Int → Int := gAdd iG3 (iG3 0 - 1) 0 1 (10 * 2 + 6)
def iG5 : Int → Int := gAdd iG4 (iG4 0 - 1) 0 2 (10 * 6 + 3)
def iG6 : Int → Int := gOCh iG5 (iG5 0 - 1)
def iG7 : Int → Int := gAdd iG6 (iG6 0 - 1) 1 0 (10 * 0 + 5)
def iG8 : Int → Int := gAdd iG7 (iG7 0 - 1) 1 1 (10 * 5 + 5)
def iG9 : Int → Int := gAdd iG8 (iG8 0 - 1) 1 2 (10 * 5 + 1)
theorem pG0 : FP iG0 := FP.zero
theorem pG1 : FP iG1 := pG0.ord (by decide)
theorem pG2 : FP iG2 := pG1.och (by decide +kernel) (by decide +kernel) (by decide +kernel)
theorem pG3 : FP iG3 := pG2.add (by decide +kernel) (by decide +kernel) (by decide +kernel) (by decide +kernel) (by decide +kernel) (by decide +kernel) (by decide +kernel)
theorem pG4 : FP iG4 := pG3.add (by decide +kernel) (by decide +kernel) (by decide +kernel) (by decide +kernel) (by decide +kernel) (by decide +kernel) (by decide +kernel)
theorem pG5 : FP iG5 := pG4.add (by decide +kernel) (by decide +kernel) (by decide +kernel) (by decide +kernel) (by decide +kernel) (by decide +kernel) (by decide +kernel)
theorem pG6 : FP iG6 := pG5.och (by decide +kernel) (by decide +kernel) (by decide +kernel)
theorem pG7 : FP iG7 := pG6.add (by decide +kernel) (by decide +kernel) (by decide +kernel) (by decide +kernel) (by decide +kernel) (by decide +kernel) (by decide +kernel)
theorem pG8 : FP iG8 := pG7.add (by decide +kernel) (by decide +kernel) (by decide +kernel) (by decide +kernel) (by decide +kernel) (by decide +kernel) (by decide +kernel)
theorem pG9 : FP iG9 := pG8.add (by decide +kernel) (by decide +kernel) (by decide +kernel) (by decide +kernel) (by decide +kernel) (by decide +kernel) (by decide +kernel)
theorem iG_l : FL iG9 := pG9.full (by decide +kernel) (fun r a b => by
  have e : iG9 0 = 1 := by decide +kernel
  obtain rfl : r = 0 := by omega
  refine ⟨by decide +kernel, fun c c0 c1 => ?_⟩
  have e2 : iG9 (18 + 0) = 2 := by decide +kernel
  rcases (show c = 0 ∨ c = 1 by omega) with rfl | rfl <;> decide +kernel)
set_option maxHeartbeats 1000000 in
theorem c_X2_setUpFirst {Γ : jE} (hl : Γ.1.stackTraces = false) {s : Nat → Int → Int} {ε : jEps} {d : Nat} {m : Nat} (hd : 4 ≤ d) (hm : jIsM m) : Con Γ (d, 0, 0) mX2_setUpFirst [.ref m] (jmem s ε) (RW (fun s' => RM s' m (gDeal iG9 0 0) ∧ ∀ q i, (q < m + 1 ∨ m + 15 ≤ q) → s' q i = s q i) ε) X0 := by
  refine Con.ofJ (by decide +kernel) (by simp [Value.category]) (Nat.le_of_ble_eq_true rfl) ?_ hl
  refine J.aload_n 0 dX2_setUpFirst_0 rfl rfl ?_
  refine I.getR dX2_setUpFirst_1 jcls fX2_12 (shM hm) (by decide) rfl (taM0 hm) ?_
  refine I.callV0v (d' := d - 1) (mi' := mX1_clear) dX2_setUpFirst_4 lX2_32 eX1_clear (shL hm) rfl (c_X1_clear (d := d - 1) hl (by omega) (yM hm)) (show d - 1 + 1 ≤ d from by omega) (Nat.le_of_ble_eq_true rfl) ?_
  have y4 : RY (up s (m + 1) 0 0) (m + 1) iG0 := ⟨up_eq _ _ _ _, fun r a (b : r < 0) => by omega, fun r c a (b : r < 0) => by omega, fun r c t a (b : r < 0) => by omega, fun r c t a (b : r < 0) => by omega, fun r c t a (b : r < 0) => by omega⟩
  refine J.aload_n 0 dX2_setUpFirst_7 rfl rfl ?_
  refine I.getR dX2_setUpFirst_8 jcls fX2_12 (shM hm) (by decide) rfl (taM0 hm) ?_
  refine I.callV0w (d' := d - 1) (mi' := mX1_openRound) dX2_setUpFirst_11 lX2_35 eX1_openRound (shL hm) rfl (c_X1_openRound (d := d - 1) hl (g := iG0) (by omega) (yM hm) y4 pG0 (by decide +kernel)) (show d - 1 + 1 ≤ d from by omega) (Nat.le_of_ble_eq_true rfl) ?_
  rintro s11 ⟨r11, f11⟩
  refine J.aload_n 0 dX2_setUpFirst_14 rfl rfl ?_
  refine I.getR dX2_setUpFirst_15 jcls fX2_12 (shM hm) (by decide) rfl (taM0 hm) ?_
  refine I.callV0w (d' := d - 1) (mi' := mX1_openChain) dX2_setUpFirst_18 lX2_38 eX1_openChain (shL hm) rfl (c_X1_openChain (d := d - 1) hl (by omega) (yM hm) r11 pG1 (by decide +kernel) (by decide +kernel)) (show d - 1 + 1 ≤ d from by omega) (Nat.le_of_ble_eq_true rfl) ?_
  rintro s18 ⟨r18, f18⟩
  refine J.aload_n 0 dX2_setUpFirst_21 rfl rfl ?_
  refine I.getR dX2_setUpFirst_22 jcls fX2_12 (shM hm) (by decide) rfl (taM0 hm) ?_
  refine I.iconst dX2_setUpFirst_25 ?_
  refine I.iconst dX2_setUpFirst_26 ?_
  refine I.callV2w (d' := d - 1) (mi' := mX1_addTile) dX2_setUpFirst_27 lX2_41 eX1_addTile (shL hm) rfl (c_X1_addTile (d := d - 1) hl (c := 0) (t := 0) (by omega) (yM hm) r18 pG2 (by decide +kernel) (by decide +kernel) (by decide +kernel) (by decide) (by decide)) (show d - 1 + 1 ≤ d from by omega) (Nat.le_of_ble_eq_true rfl) ?_
  rintro s27 ⟨r27, f27⟩
  refine J.aload_n 0 dX2_setUpFirst_30 rfl rfl ?_
  refine I.getR dX2_setUpFirst_31 jcls fX2_12 (shM hm) (by decide) rfl (taM0 hm) ?_
  refine I.iconst dX2_setUpFirst_34 ?_
  refine I.bipush dX2_setUpFirst_35 (by decide) ?_
  refine I.callV2w (d' := d - 1) (mi' := mX1_addTile) dX2_setUpFirst_37 lX2_41 eX1_addTile (shL hm) rfl (c_X1_addTile (d := d - 1) hl (c := 0) (t := 1) (by omega) (yM hm) r27 pG3 (by decide +kernel) (by decide +kernel) (by decide +kernel) (by decide) (by decide)) (show d - 1 + 1 ≤ d from by omega) (Nat.le_of_ble_eq_true rfl) ?_
  rintro s37 ⟨r37, f37⟩
  refine J.aload_n 0 dX2_setUpFirst_40 rfl rfl ?_
  refine I.getR dX2_setUpFirst_41 jcls fX2_12 (shM hm) (by decide) rfl (taM0 hm) ?_
  refine I.bipush dX2_setUpFirst_44 (by decide) ?_
  refine I.iconst dX2_setUpFirst_46 ?_
  refine I.callV2w (d' := d - 1) (mi' := mX1_addTile) dX2_setUpFirst_47 lX2_41 eX1_addTile (shL hm) rfl (c_X1_addTile (d := d - 1) hl (c := 0) (t := 2) (by omega) (yM hm) r37 pG4 (by decide +kernel) (by decide +kernel) (by decide +kernel) (by decide) (by decide)) (show d - 1 + 1 ≤ d from by omega) (Nat.le_of_ble_eq_true rfl) ?_
  rintro s47 ⟨r47, f47⟩
  refine J.aload_n 0 dX2_setUpFirst_50 rfl rfl ?_
  refine I.getR dX2_setUpFirst_51 jcls fX2_12 (shM hm) (by decide) rfl (taM0 hm) ?_
  refine I.callV0w (d' := d - 1) (mi' := mX1_openChain) dX2_setUpFirst_54 lX2_38 eX1_openChain (shL hm) rfl (c_X1_openChain (d := d - 1) hl (by omega) (yM hm) r47 pG5 (by decide +kernel) (by decide +kernel)) (show d - 1 + 1 ≤ d from by omega) (Nat.le_of_ble_eq_true rfl) ?_
  rintro s54 ⟨r54, f54⟩
  refine J.aload_n 0 dX2_setUpFirst_57 rfl rfl ?_
  refine I.getR dX2_setUpFirst_58 jcls fX2_12 (shM hm) (by decide) rfl (taM0 hm) ?_
  refine I.iconst dX2_setUpFirst_61 ?_
  refine I.iconst dX2_setUpFirst_62 ?_
  refine I.callV2w (d' := d - 1) (mi' := mX1_addTile) dX2_setUpFirst_63 lX2_41 eX1_addTile (shL hm) rfl (c_X1_addTile (d := d - 1) hl (c := 1) (t := 0) (by omega) (yM hm) r54 pG6 (by decide +kernel) (by decide +kernel) (by decide +kernel) (by decide) (by decide)) (show d - 1 + 1 ≤ d from by omega) (Nat.le_of_ble_eq_true rfl) ?_
  rintro s63 ⟨r63, f63⟩
  refine J.aload_n 0 dX2_setUpFirst_66 rfl rfl ?_
  refine I.getR dX2_setUpFirst_67 jcls fX2_12 (shM hm) (by decide) rfl (taM0 hm) ?_
  refine I.iconst dX2_setUpFirst_70 ?_
  refine I.iconst dX2_setUpFirst_71 ?_
  refine I.callV2w (d' := d - 1) (mi' := mX1_addTile) dX2_setUpFirst_72 lX2_41 eX1_addTile (shL hm) rfl (c_X1_addTile (d := d - 1) hl (c := 1) (t := 1) (by omega) (yM hm) r63 pG7 (by decide +kernel) (by decide +kernel) (by decide +kernel) (by decide) (by decide)) (show d - 1 + 1 ≤ d from by omega) (Nat.le_of_ble_eq_true rfl) ?_
  rintro s72 ⟨r72, f72⟩
  refine J.aload_n 0 dX2_setUpFirst_75 rfl rfl ?_
  refine I.getR dX2_setUpFirst_76 jcls fX2_12 (shM hm) (by decide) rfl (taM0 hm) ?_
  refine I.iconst dX2_setUpFirst_79 ?_
  refine I.iconst dX2_setUpFirst_80 ?_
  refine I.callV2w (d' := d - 1) (mi' := mX1_addTile) dX2_setUpFirst_81 lX2_41 eX1_addTile (shL hm) rfl (c_X1_addTile (d := d - 1) hl (c := 1) (t := 2) (by omega) (yM hm) r72 pG8 (by decide +kernel) (by decide +kernel) (by decide +kernel) (by decide) (by decide)) (show d - 1 + 1 ≤ d from by omega) (Nat.le_of_ble_eq_true rfl) ?_
  rintro s81 ⟨r81, f81⟩
  refine J.aload_n 0 dX2_setUpFirst_84 rfl rfl ?_
  refine I.callV0w (d' := d - 1) (mi' := mX2_beginMatch) dX2_setUpFirst_85 lX2_45 eX2_beginMatch (shM hm) rfl (c_X2_beginMatch (d := d - 1) hl (by omega) hm r81 iG_l (fun j a b => pG9.2.2.2.2 j (by omega) b)) (show d - 1 + 1 ≤ d from by omega) (Nat.le_of_ble_eq_true rfl) ?_
  rintro s85 ⟨r85, f85⟩
  exact I.vretQ dX2_setUpFirst_88 rfl ⟨r85, fun q i x => (f85 q i (by omega)).trans ((f81 q i (by omega)).trans ((f72 q i (by omega)).trans ((f63 q i (by omega)).trans ((f54 q i (by omega)).trans ((f47 q i (by omega)).trans ((f37 q i (by omega)).trans ((f27 q i (by omega)).trans ((f18 q i (by omega)).trans ((f11 q i (by omega)).trans (up_ne (by omega)))))))))))⟩
def iM0 : Int → Int := fun _ => 0
def iM1 : Int → Int := upr iM0 (0) (1)
def iM2 : Int → Int := upr iM1 (18) (2)
def iM3 : Int → Int := upr iM2 (22) (3)
def iM4 : Int → Int := upr iM3 (23) (3)
def iM5 : Int → Int := upr iM4 (40) (12)
def iM6 : Int → Int := upr iM5 (41) (26)
def iM7 : Int → Int := upr iM6 (42) (63)
def iM8 : Int → Int := upr iM7 (48) (5)
def iM9 : Int → Int := upr iM8 (49) (55)
def iM10 : Int → Int := upr iM9 (50) (51)
theorem iG_M (j : Int) : iG9 j = iM10 j := by
  by_cases h0 : j = 0
  · subst h0; decide +kernel
  by_cases h18 : j = 18
  · subst h18; decide +kernel
  by_cases h22 : j = 22
  · subst h22; decide +kernel
  by_cases h23 : j = 23
  · subst h23; decide +kernel
  by_cases h40 : j = 40
  · subst h40; decide +kernel
  by_cases h41 : j = 41
  · subst h41; decide +kernel
  by_cases h42 : j = 42
  · subst h42; decide +kernel
  by_cases h48 : j = 48
  · subst h48; decide +kernel
  by_cases h49 : j = 49
  · subst h49; decide +kernel
  by_cases h50 : j = 50
  · subst h50; decide +kernel
  have a : iM10 j = 0 := by
    unfold iM10 iM9 iM8 iM7 iM6 iM5 iM4 iM3 iM2 iM1 iM0
    repeat rw [upr_ne (by assumption)]
  rw [a]
  have e0 : iG1 0 - 1 = 0 ∧ iG2 0 - 1 = 0 ∧ iG3 0 - 1 = 0 ∧ iG4 0 - 1 = 0 ∧ iG5 0 - 1 = 0 ∧ iG6 0 - 1 = 0 ∧ iG7 0 - 1 = 0 ∧ iG8 0 - 1 = 0 := by decide +kernel
  obtain ⟨e1, e2, e3, e4, e5, e6, e7, e8⟩ := e0
  have o9 : iG9 j = iG8 j := by unfold iG9; rw [e8]; exact gAdd_o (by omega) (by unfold gTp; omega)
  have o8 : iG8 j = iG7 j := by unfold iG8; rw [e7]; exact gAdd_o (by omega) (by unfold gTp; omega)
  have o7 : iG7 j = iG6 j := by unfold iG7; rw [e6]; exact gAdd_o (by omega) (by unfold gTp; omega)
  have o6 : iG6 j = iG5 j := by unfold iG6; rw [e5]; exact upr_ne (by omega)
  have o5 : iG5 j = iG4 j := by unfold iG5; rw [e4]; exact gAdd_o (by omega) (by unfold gTp; omega)
  have o4 : iG4 j = iG3 j := by unfold iG4; rw [e3]; exact gAdd_o (by omega) (by unfold gTp; omega)
  have o3 : iG3 j = iG2 j := by unfold iG3; rw [e2]; exact gAdd_o (by omega) (by unfold gTp; omega)
  have o2 : iG2 j = iG1 j := by unfold iG2; rw [e1]; exact upr_ne (by omega)
  have o1 : iG1 j = iG0 j := by unfold iG1; exact upr_ne (by omega)
  rw [o9, o8, o7, o6, o5, o4, o3, o2, o1]
  rfl
theorem iG_e : iG9 = iM10 := funext iG_M
/-- the game at first -/
def iA0 : AS := (gDeal iM10 0 0, 0, fun _ _ => 0, 0, fun _ => 0, [], fun _ => 0, 0, 0, -1)
theorem iA0_ok : AI iA0 := by
  have hl : FL iM10 := iG_e ▸ iG_l
  have hp : FP iM10 := iG_e ▸ pG9
  exact ⟨⟨hl.lay gDeal_lay, gDeal_FS hl (FD_0 hp hl) (by decide)⟩, by show 0 ≤ (0 : Int) ∧ (0 : Int) ≤ 8; decide, fun k k0 (k1 : k < 0) => by omega, Or.inl rfl, fun (h : (0 : Int) = 1) => absurd h (by decide), ⟨by show (0 : Nat) ≤ 126; decide, fun z hz => absurd hz List.not_mem_nil⟩, by show 0 ≤ (0 : Int) ∧ (0 : Int) ≤ 500; decide, fun j j0 (j1 : j < 0) => by omega, by show 0 ≤ (0 : Int) ∧ (0 : Int) ≤ 6; decide, by show -1 ≤ (-1 : Int) ∧ (-1 : Int) ≤ 500; decide⟩
set_option maxHeartbeats 1000000 in
theorem t_X8_init {Γ : jE} (hl : Γ.1.stackTraces = false) {s : Nat → Int → Int} {ε : jEps} {d : Nat} (hd : 5 ≤ d) (p0 : ST s ∧ s 51 10 = -1) (p1 : (s 51 11 = 0 ∧ s 51 12 = 0) ∧ (s 61 1 = 0 ∧ s 61 2 = 0) ∧ s 0 10 = 0 ∧ s 135 1 = 0 ∧ s 0 1 = 0 ∧ s 0 2 = 0 ∧ s 0 3 = -1) : J Γ (d, 0, 0) mX8_init 100 [some (.ref 0)] [] (jmem s ε) (RW (fun s' => CI s' iA0 ∧ ∀ q j, (q < 22 ∨ 36 ≤ q) → s' q j = s q j) ε) X0 := by
  refine J.aload_n 0 dX8_init_100 rfl rfl ?_
  refine I.getR dX8_init_101 jcls fX8_30 rfl (by decide) rfl rfl ?_
  refine I.callV0w (d' := d - 1) (mi' := mX2_setUpFirst) dX8_init_104 lX8_65 eX2_setUpFirst rfl rfl (c_X2_setUpFirst (d := d - 1) hl (by omega) jm21) (show d - 1 + 1 ≤ d from by omega) (Nat.le_of_ble_eq_true rfl) ?_
  rintro s104 ⟨r104, f104⟩
  rw [iG_e] at r104
  exact I.vretQ dX8_init_107 rfl ⟨⟨r104, ⟨fun l h a b c => by rw [f104 _ _ (by omega), f104 _ _ (by omega)]; exact p0.1 l h a b c, Or.inl ((f104 _ _ (by omega)).trans p1.1.1), Or.inl ((f104 _ _ (by omega)).trans p1.1.2), Or.inl ((f104 _ _ (by omega)).trans p0.2)⟩, ⟨(f104 _ _ (by omega)).trans p1.2.1.1, by rw [f104 _ _ (by omega)]; omega, by rw [f104 _ _ (by omega)]; omega, fun k k0 (k1 : k < 0) => by omega⟩, ⟨(f104 _ _ (by omega)).trans p1.2.2.1, fun (b : (0 : Int) = 1) => absurd b (by decide)⟩, TX.nil ((f104 _ _ (by omega)).trans p1.2.2.2.1), ⟨(f104 _ _ (by omega)).trans p1.2.2.2.2.1, fun i i0 (i1 : i < 0) => by omega⟩, (f104 _ _ (by omega)).trans p1.2.2.2.2.2.1, (f104 _ _ (by omega)).trans p1.2.2.2.2.2.2⟩, f104⟩
set_option maxHeartbeats 1000000 in
theorem t_X9_init {Γ : jE} (hl : Γ.1.stackTraces = false) {s : Nat → Int → Int} {ε : jEps} {d : Nat} (hd : 2 ≤ d) (p0 : ∀ j, s 137 j = 0) : J Γ (d, 0, 0) mX9_init 39 [some (.ref 137)] [] (jmem s ε) (RW (fun s' => MI s' iA0 ∧ s' 137 0 = 0 ∧ LoE s s' ∧ ∀ q j, 138 < q → s' q j = s q j) ε) X0 := by
  refine J.aload_n 0 dX9_init_39 rfl rfl ?_
  refine I.iconst dX9_init_40 ?_
  refine I.pI 9 rfl dX9_init_41 jcls fX9_25 rfl (by decide) rfl ?_
  refine J.aload_n 0 dX9_init_44 rfl rfl ?_
  refine I.callV0w (d' := d - 1) (mi' := mX9_begins) dX9_init_45 lX9_29 eX9_begins rfl rfl (c_X9_begins (d := d - 1) hl (by omega) (Or.inl ((up_ne (by omega)).trans (p0 2)))) (show d - 1 + 1 ≤ d from by omega) (Nat.le_of_ble_eq_true rfl) ?_
  rintro s45 ⟨v45, f45⟩
  refine J.aload_n 0 dX9_init_48 rfl rfl ?_
  refine I.iconst dX9_init_49 ?_
  refine I.iconst dX9_init_50 ?_
  refine I.callV2w (d' := d - 1) (mi' := mX9_set) dX9_init_51 lX9_32 eX9_set rfl rfl (c_X9_set (d := d - 1) hl (by omega) v45 (by decide)) (show d - 1 + 1 ≤ d from by omega) (Nat.le_of_ble_eq_true rfl) ?_
  rintro s51 ⟨v51, f51⟩
  refine J.aload_n 0 dX9_init_54 rfl rfl ?_
  refine I.bipush dX9_init_55 (by decide) ?_
  refine I.iconst dX9_init_57 ?_
  refine I.callV2w (d' := d - 1) (mi' := mX9_set) dX9_init_58 lX9_32 eX9_set rfl rfl (c_X9_set (d := d - 1) hl (by omega) v51 (by decide)) (show d - 1 + 1 ≤ d from by omega) (Nat.le_of_ble_eq_true rfl) ?_
  rintro s58 ⟨v58, f58⟩
  refine J.aload_n 0 dX9_init_61 rfl rfl ?_
  refine I.bipush dX9_init_62 (by decide) ?_
  refine I.iconst dX9_init_64 ?_
  refine I.callV2w (d' := d - 1) (mi' := mX9_set) dX9_init_65 lX9_32 eX9_set rfl rfl (c_X9_set (d := d - 1) hl (by omega) v58 (by decide)) (show d - 1 + 1 ≤ d from by omega) (Nat.le_of_ble_eq_true rfl) ?_
  rintro s65 ⟨v65, f65⟩
  refine J.aload_n 0 dX9_init_68 rfl rfl ?_
  refine I.bipush dX9_init_69 (by decide) ?_
  refine I.iconst dX9_init_71 ?_
  refine I.callV2w (d' := d - 1) (mi' := mX9_set) dX9_init_72 lX9_32 eX9_set rfl rfl (c_X9_set (d := d - 1) hl (by omega) v65 (by decide)) (show d - 1 + 1 ≤ d from by omega) (Nat.le_of_ble_eq_true rfl) ?_
  rintro s72 ⟨v72, f72⟩
  refine J.aload_n 0 dX9_init_75 rfl rfl ?_
  refine I.bipush dX9_init_76 (by decide) ?_
  refine I.bipush dX9_init_78 (by decide) ?_
  refine I.callV2w (d' := d - 1) (mi' := mX9_set) dX9_init_80 lX9_32 eX9_set rfl rfl (c_X9_set (d := d - 1) hl (by omega) v72 (by decide)) (show d - 1 + 1 ≤ d from by omega) (Nat.le_of_ble_eq_true rfl) ?_
  rintro s80 ⟨v80, f80⟩
  refine J.aload_n 0 dX9_init_83 rfl rfl ?_
  refine I.bipush dX9_init_84 (by decide) ?_
  refine I.bipush dX9_init_86 (by decide) ?_
  refine I.callV2w (d' := d - 1) (mi' := mX9_set) dX9_init_88 lX9_32 eX9_set rfl rfl (c_X9_set (d := d - 1) hl (by omega) v80 (by decide)) (show d - 1 + 1 ≤ d from by omega) (Nat.le_of_ble_eq_true rfl) ?_
  rintro s88 ⟨v88, f88⟩
  refine J.aload_n 0 dX9_init_91 rfl rfl ?_
  refine I.bipush dX9_init_92 (by decide) ?_
  refine I.bipush dX9_init_94 (by decide) ?_
  refine I.callV2w (d' := d - 1) (mi' := mX9_set) dX9_init_96 lX9_32 eX9_set rfl rfl (c_X9_set (d := d - 1) hl (by omega) v88 (by decide)) (show d - 1 + 1 ≤ d from by omega) (Nat.le_of_ble_eq_true rfl) ?_
  rintro s96 ⟨v96, f96⟩
  refine J.aload_n 0 dX9_init_99 rfl rfl ?_
  refine I.bipush dX9_init_100 (by decide) ?_
  refine I.iconst dX9_init_102 ?_
  refine I.callV2w (d' := d - 1) (mi' := mX9_set) dX9_init_103 lX9_32 eX9_set rfl rfl (c_X9_set (d := d - 1) hl (by omega) v96 (by decide)) (show d - 1 + 1 ≤ d from by omega) (Nat.le_of_ble_eq_true rfl) ?_
  rintro s103 ⟨v103, f103⟩
  refine J.aload_n 0 dX9_init_106 rfl rfl ?_
  refine I.bipush dX9_init_107 (by decide) ?_
  refine I.bipush dX9_init_109 (by decide) ?_
  refine I.callV2w (d' := d - 1) (mi' := mX9_set) dX9_init_111 lX9_32 eX9_set rfl rfl (c_X9_set (d := d - 1) hl (by omega) v103 (by decide)) (show d - 1 + 1 ≤ d from by omega) (Nat.le_of_ble_eq_true rfl) ?_
  rintro s111 ⟨v111, f111⟩
  refine J.aload_n 0 dX9_init_114 rfl rfl ?_
  refine I.bipush dX9_init_115 (by decide) ?_
  refine I.bipush dX9_init_117 (by decide) ?_
  refine I.callV2w (d' := d - 1) (mi' := mX9_set) dX9_init_119 lX9_32 eX9_set rfl rfl (c_X9_set (d := d - 1) hl (by omega) v111 (by decide)) (show d - 1 + 1 ≤ d from by omega) (Nat.le_of_ble_eq_true rfl) ?_
  rintro s119 ⟨v119, f119⟩
  refine J.aload_n 0 dX9_init_122 rfl rfl ?_
  refine I.iconst dX9_init_123 ?_
  refine I.callV1w (d' := d - 1) (mi' := mX9_deals) dX9_init_124 lX9_36 eX9_deals rfl rfl (c_X9_deals (d := d - 1) hl (by omega) (show MV s119 iM10 from v119) (by decide +kernel)) (show d - 1 + 1 ≤ d from by omega) (Nat.le_of_ble_eq_true rfl) ?_
  rintro s124 ⟨v124, f124⟩
  have e0 : FrM (up s 137 9 (-1)) s124 := (((((((((((f45).trans f51).trans f58).trans f65).trans f72).trans f80).trans f88).trans f96).trans f103).trans f111).trans f119).trans f124
  have e1 := e0.1
  have e2 : iM10 1 = 0 := by decide +kernel
  rw [e2] at v124
  have a2 : s124 137 2 = 0 := (e1 137 2 (by decide)).trans ((up_ne (by omega)).trans (p0 2))
  exact I.vretQ dX9_init_127 rfl ⟨⟨a2, fun k x y => (by have z := v124.2 k x y; rw [a2, Int.zero_add] at z; exact z), ⟨(e1 137 3 (by decide)).trans ((up_ne (by omega)).trans (p0 3)), by have x : s124 137 4 = 0 := (e1 137 4 (by decide)).trans ((up_ne (by omega)).trans (p0 4)); omega, by have x : s124 137 4 = 0 := (e1 137 4 (by decide)).trans ((up_ne (by omega)).trans (p0 4)); omega, fun k k0 (k1 : k < 0) => by omega⟩, ⟨(e1 137 5 (by decide)).trans ((up_ne (by omega)).trans (p0 5)), fun (b : (0 : Int) = 1) => absurd b (by decide)⟩, TX.nil ((e1 137 11 (by decide)).trans ((up_ne (by omega)).trans (p0 11))), ⟨(e1 137 7 (by decide)).trans ((up_ne (by omega)).trans (p0 7)), fun i i0 (i1 : i < 0) => by omega⟩, (e1 137 8 (by decide)).trans ((up_ne (by omega)).trans (p0 8)), (e1 137 9 (by decide)).trans (up_eq _ _ _ _)⟩, (e1 137 0 (by decide)).trans ((up_ne (by omega)).trans (p0 0)), fun q j x => (e1 q j (by omega)).trans (up_ne (by omega)), fun q j x => (e1 q j (by omega)).trans (up_ne (by omega))⟩
