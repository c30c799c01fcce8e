/-! the law's play against a greedy player -/
def AgC (Γ : jE) (sh : List (Nat × Nat)) (t : Nat → Nat → Option Nat) (sc en n : Nat) (o : Int → Int) (k : Nat) : Prop :=
  ∀ (d : Nat) {s : Nat → Int → Int} {f : Int → Int} {p : Int}, 2 * k + 3 ≤ d → FL f → FS f → gBurns f ≤ k → BR sh t s sc en n f o → (p = 0 ∨ p = 1) → Con Γ (d, 0, 0) mL_against [.ref sc, .ref en, .int (iI p)] (jmx sh t s) (fun v M' => v = some (.int (iI (gAg p f))) ∧ M' = jmx sh t s) X0
def BhC (Γ : jE) (sh : List (Nat × Nat)) (t : Nat → Nat → Option Nat) (sc en n : Nat) (o : Int → Int) (k : Nat) : Prop :=
  ∀ (d : Nat) {s : Nat → Int → Int} {f : Int → Int}, 2 * k + 2 ≤ d → FL f → FS f → gBurns f ≤ k → BR sh t s sc en n f o → Con Γ (d, 0, 0) mL_behind [.ref sc, .ref en] (jmx sh t s) (fun v M' => v = some (.int (iI (gBhf f))) ∧ M' = jmx sh t s) X0
/-- a chain that can be burnt, from one on -/
def anyL (f : Int → Int) (c : Int) (n : Nat) : Prop := ∃ y, c ≤ y ∧ y < n ∧ 1 < f (37 + y) - f (34 + y) + 1
theorem iI_or {x y : Int} (hx : x = 0 ∨ x = 1) (hy : y = 0 ∨ y = 1) : iI x ||| iI y = iI (max x y) := by
  rcases hx with rfl | rfl <;> rcases hy with rfl | rfl <;> decide
set_option maxHeartbeats 4000000 in
theorem c_behind0 {Γ : jE} (hl : Γ.1.stackTraces = false) {sh : List (Nat × Nat)} {t : Nat → Nat → Option Nat} {sc en n : Nat} {o : Int → Int} (k : Nat) (ihA : ∀ k', k' < k → AgC Γ sh t sc en n o k') : BhC Γ sh t sc en n o k := by
    intro d s f hd hl' hv' hb q0
    have hn3 := q0.n3 hl' hv'
    have hnf := q0.hn
    have hc3 := hl'.ch _ hv'.cur.1 hv'.cur.2
    refine Con.ofJ (by decide +kernel) (by simp [Value.category]) (Nat.le_of_ble_eq_true rfl) ?_ hl
    refine J.aload_n 0 dL_behind_0 rfl rfl ?_
    refine J.aload_n 1 dL_behind_1 rfl rfl ?_
    refine Y.callS (d' := d - 1) (mi' := mL_greedyOf) [.ref sc, .ref en] dL_behind_2 lL_203 eL_greedyOf rfl (by show d - 1 + 1 ≤ d; omega) (c_greedyOf hl hl' hv' q0) (Nat.le_of_ble_eq_true rfl) ?_
    have gr := gGr_short (g := f) hc3.1
    have grn : -1 ≤ gGr f ∧ gGr f < 6 := by
      rcases gr with ⟨g, _⟩ | ⟨g, _⟩
      · omega
      · exact ⟨by have := g.1; omega, (gE_rng hc3 g).2.2⟩
    refine J.istore_n 2 dL_behind_5 rfl (by decide) rfl ?_
    refine J.iload_n 2 dL_behind_6 rfl rfl ?_
    refine I.if_ge 12 dL_behind_7 (by decide) (by omega) (fun h7 => ?_) (fun h7 => ?_)
    · skip
      have bz : gBn f (gGr f) := gr.elim (fun g => absurd g.1 (by omega)) fun g => g.1
      have hns : ¬ gShort f := gr.elim (fun g => absurd g.1 (by omega)) fun g => g.2
      have bk := (gRem_cnt hl' hv' bz).2
      have b0 := gBurns_rng (gRem_FL hl' hv' bz) (gRem_FS hl' hv' bz)
      have pz := gPt_rng hl' hv' bz.ok
      have ar := gAg_rng (b := 0) (gRem_FL hl' hv' bz) (gRem_FS hl' hv' bz)
      obtain ⟨⟨z0, z6, zn⟩, r, mm, e3, e4, e5, e6, e7, e8, e9⟩ := q0.atz hl' hv' bz
      refine J.aload_n 0 dL_behind_12 rfl rfl ?_
      refine J.iload_n 2 dL_behind_13 rfl rfl ?_
      refine I.iconst dL_behind_14 ?_
      refine I.div dL_behind_15 (by omega) (by omega) ?_
      refine Y.raald dL_behind_16 q0.hsc (by omega) (by omega) e3 ?_
      refine J.aload_n 1 dL_behind_17 rfl rfl ?_
      refine J.iload_n 2 dL_behind_18 rfl rfl ?_
      refine Y.iald dL_behind_19 q0.hen (by omega) (by omega) ?_
      refine Y.iald dL_behind_20 e5 (by omega) (by omega) ?_
      refine I.sx e9 ?_
      refine J.istore_n 3 dL_behind_21 rfl (by decide) rfl ?_
      refine J.aload_n 1 dL_behind_22 rfl rfl ?_
      refine J.iload_n 2 dL_behind_23 rfl rfl ?_
      refine J.dup2 dL_behind_24 ?_
      refine Y.iald dL_behind_25 q0.hen (by omega) (by omega) ?_
      refine J.iload_n 2 dL_behind_26 rfl rfl ?_
      refine I.iconst dL_behind_27 ?_
      refine I.rem dL_behind_28 (by omega) (by omega) ?_
      refine I.if_ne 36 dL_behind_29 (by decide) (by omega) (fun h29 => ?_) (fun h29 => ?_)
      · skip
        have s1 := q0.rem hl' hv' bz (x := s en (gGr f) + -1) (by rw [if_neg h29])
        skip
        refine I.iconst dL_behind_36 ?_
        refine I.add dL_behind_37 ?_
        refine Y.iast dL_behind_38 q0.hen (by omega) (by omega) ?_
        refine J.aload_n 0 dL_behind_39 rfl rfl ?_
        refine J.aload_n 1 dL_behind_40 rfl rfl ?_
        refine I.iconst dL_behind_41 ?_
        refine Y.callS (d' := d - 1) (mi' := mL_against) [.ref sc, .ref en, .int (iI 0)] dL_behind_42 lL_206 eL_against rfl (by show d - 1 + 1 ≤ d; omega) (ihA (gBurns (gRem f (gGr f))).toNat (by omega) (d - 1) (by omega) (gRem_FL hl' hv' bz) (gRem_FS hl' hv' bz) (by omega) s1 (Or.inl rfl)) (Nat.le_of_ble_eq_true rfl) ?_
        refine J.iload_n 3 dL_behind_45 rfl rfl ?_
        refine I.sub dL_behind_46 ?_
        refine J.istore dL_behind_47 (by decide) rfl ?_
        refine J.aload_n 1 dL_behind_49 rfl rfl ?_
        refine J.iload_n 2 dL_behind_50 rfl rfl ?_
        refine J.dup2 dL_behind_51 ?_
        refine Y.iald dL_behind_52 q0.hen (by omega) (by omega) ?_
        refine I.sx (up_eq _ _ _ _) ?_
        refine J.iload_n 2 dL_behind_53 rfl rfl ?_
        refine I.iconst dL_behind_54 ?_
        refine I.rem dL_behind_55 (by omega) (by omega) ?_
        refine I.if_ne 63 dL_behind_56 (by decide) (by omega) (fun h56 => ?_) (fun h56 => ?_)
        · skip
          refine I.iconst dL_behind_63 ?_
          refine I.sub dL_behind_64 ?_
          refine Y.iast dL_behind_65 q0.hen (by omega) (by omega) ?_
          rw [up_up2, up_own2 (by omega)]
          refine J.iload dL_behind_66 rfl ?_
          exact J.iret rfl dL_behind_68 ⟨by rw [gBhf_n hl' hv' hns], rfl⟩
        · exact absurd h56 (by omega)
      · skip
        have s1 := q0.rem hl' hv' bz (x := s en (gGr f) + 1) (by rw [if_pos h29])
        skip
        refine I.iconst dL_behind_32 ?_
        refine J.goto 37 dL_behind_33 (by decide) ?_
        refine I.add dL_behind_37 ?_
        refine Y.iast dL_behind_38 q0.hen (by omega) (by omega) ?_
        refine J.aload_n 0 dL_behind_39 rfl rfl ?_
        refine J.aload_n 1 dL_behind_40 rfl rfl ?_
        refine I.iconst dL_behind_41 ?_
        refine Y.callS (d' := d - 1) (mi' := mL_against) [.ref sc, .ref en, .int (iI 0)] dL_behind_42 lL_206 eL_against rfl (by show d - 1 + 1 ≤ d; omega) (ihA (gBurns (gRem f (gGr f))).toNat (by omega) (d - 1) (by omega) (gRem_FL hl' hv' bz) (gRem_FS hl' hv' bz) (by omega) s1 (Or.inl rfl)) (Nat.le_of_ble_eq_true rfl) ?_
        refine J.iload_n 3 dL_behind_45 rfl rfl ?_
        refine I.sub dL_behind_46 ?_
        refine J.istore dL_behind_47 (by decide) rfl ?_
        refine J.aload_n 1 dL_behind_49 rfl rfl ?_
        refine J.iload_n 2 dL_behind_50 rfl rfl ?_
        refine J.dup2 dL_behind_51 ?_
        refine Y.iald dL_behind_52 q0.hen (by omega) (by omega) ?_
        refine I.sx (up_eq _ _ _ _) ?_
        refine J.iload_n 2 dL_behind_53 rfl rfl ?_
        refine I.iconst dL_behind_54 ?_
        refine I.rem dL_behind_55 (by omega) (by omega) ?_
        refine I.if_ne 63 dL_behind_56 (by decide) (by omega) (fun h56 => ?_) (fun h56 => ?_)
        · exact absurd h56 (by omega)
        · skip
          refine I.iconst dL_behind_59 ?_
          refine J.goto 64 dL_behind_60 (by decide) ?_
          refine I.sub dL_behind_64 ?_
          refine Y.iast dL_behind_65 q0.hen (by omega) (by omega) ?_
          rw [up_up2, up_own2 (by omega)]
          refine J.iload dL_behind_66 rfl ?_
          exact J.iret rfl dL_behind_68 ⟨by rw [gBhf_n hl' hv' hns], rfl⟩
    · skip
      have hsh : gShort f := gr.elim (fun g => g.2) fun g => absurd g.1.1.1 (by omega)
      refine I.iconst dL_behind_10 ?_
      exact J.iret rfl dL_behind_11 ⟨by rw [gBhf_o hsh], rfl⟩
set_option maxHeartbeats 4000000 in
theorem k_ag1 {Γ : jE} (hl : Γ.1.stackTraces = false) {sh : List (Nat × Nat)} {t : Nat → Nat → Option Nat} {s : Nat → Int → Int} {sc en n : Nat} {f o : Int → Int} {d : Nat} {p : Int} {P : Option Value → jM → Prop} (hl' : FL f) (hv' : FS f) (q0 : BR sh t s sc en n f o) :
    ∀ (k : Nat) {c x : Int}, (k : Int) = n - c → 0 ≤ c → (x = 0 ∨ x = 1) →
    (∀ x', (x' = 0 ∨ x' = 1) → (x' = 0 → x = 0 ∧ ∀ y, c ≤ y → y < n → f (37 + y) - f (34 + y) + 1 ≤ 1) → (x' = 1 → x = 1 ∨ anyL f c n) → J Γ (d, 0, 0) mL_against 43 [some (.ref sc), some (.ref en), some (.int (iI p)), some (.int (iI x')), none, none, none, none] [] (jmx sh t s) P X0) →
    J Γ (d, 0, 0) mL_against 5 [some (.ref sc), some (.ref en), some (.int (iI p)), some (.int (iI x)), some (.int (iI c)), none, none, none] [] (jmx sh t s) P X0 := by
  have hn3 := q0.n3 hl' hv'
  have hnf := q0.hn
  have hc3 := hl'.ch _ hv'.cur.1 hv'.cur.2
  intro k
  induction k with
  | zero =>
    intro c x hk hc hx kx
    refine J.iload dL_against_5 rfl ?_
    refine J.aload_n 0 dL_against_7 rfl rfl ?_
    refine Y.alen dL_against_8 q0.hsc (by decide) ?_
    refine I.icmp_ge 43 dL_against_9 (by decide) (by omega) (by omega) (fun h9 => ?_) (fun h9 => ?_)
    · skip
      exact J.fgt (by exact ⟨Or.inr rfl, Or.inr rfl, Or.inr rfl, Or.inr rfl, Or.inl rfl, Or.inl rfl, Or.inl rfl, Or.inl rfl, trivial⟩) (kx x hx (fun e => ⟨e, fun y y0 y1 => by omega⟩) (fun e => Or.inl e))
    · exact absurd h9 (by omega)
  | succ k ih =>
    intro c x hk hc hx kx
    refine J.iload dL_against_5 rfl ?_
    refine J.aload_n 0 dL_against_7 rfl rfl ?_
    refine Y.alen dL_against_8 q0.hsc (by decide) ?_
    refine I.icmp_ge 43 dL_against_9 (by decide) (by omega) (by omega) (fun h9 => ?_) (fun h9 => ?_)
    · exact absurd h9 (by omega)
    · skip
      have at1 := q0.at (c := c) (by omega) (by omega)
      obtain ⟨ea, eb, r, mm, e3, e4, e5, e6, e7, e8, e9⟩ := at1
      have hen := hv'.ends c (by omega) (by omega)
      have he1 : f (37 + c) < 8 := by have := hl'.len (f 1) c hv'.cur.1 hv'.cur.2 (by omega) (by omega); omega
      refine J.iload_n 3 dL_against_12 rfl rfl ?_
      refine J.aload_n 1 dL_against_13 rfl rfl ?_
      refine I.iconst dL_against_14 ?_
      refine J.iload dL_against_15 rfl ?_
      refine I.mul dL_against_17 ?_
      refine Y.iald dL_against_18 q0.hen (by omega) (by omega) ?_
      refine I.sx ea ?_
      refine J.aload_n 1 dL_against_19 rfl rfl ?_
      refine I.iconst dL_against_20 ?_
      refine J.iload dL_against_21 rfl ?_
      refine I.mul dL_against_23 ?_
      refine I.iconst dL_against_24 ?_
      refine I.add dL_against_25 ?_
      refine Y.iald dL_against_26 q0.hen (by omega) (by omega) ?_
      refine I.sx eb ?_
      refine I.icmp_ge 34 dL_against_27 (by decide) (by omega) (by omega) (fun h27 => ?_) (fun h27 => ?_)
      · skip
        refine I.iconst dL_against_34 ?_
        refine J.ior dL_against_35 ?_
        rw [iI_or hx (Or.inl rfl)]
        refine J.istore_n 3 dL_against_36 rfl (by decide) rfl ?_
        refine I.iinc dL_against_37 rfl rfl ?_
        refine J.goto 5 dL_against_40 (by decide) ?_
        refine J.fgt (by exact ⟨Or.inr rfl, Or.inr rfl, Or.inr rfl, Or.inr rfl, Or.inr rfl, Or.inl rfl, Or.inl rfl, Or.inl rfl, trivial⟩) (ih (c := c + 1) (x := max x 0) (by omega) (by omega) (by omega) fun x' hx' h1 h2 => kx x' hx' (fun e => ?_) (fun e => ?_))
        · refine ⟨by have := (h1 e).1; omega, fun y y0 y1 => ?_⟩
          by_cases ey : y = c
          · subst ey; omega
          · exact (h1 e).2 y (by omega) y1
        · rcases h2 e with g | ⟨y, y0, y1, y2⟩
          · exact Or.inl (by omega)
          · exact Or.inr ⟨y, by omega, y1, y2⟩
      · skip
        refine I.iconst dL_against_30 ?_
        refine J.goto 35 dL_against_31 (by decide) ?_
        refine J.ior dL_against_35 ?_
        rw [iI_or hx (Or.inr rfl)]
        refine J.istore_n 3 dL_against_36 rfl (by decide) rfl ?_
        refine I.iinc dL_against_37 rfl rfl ?_
        refine J.goto 5 dL_against_40 (by decide) ?_
        refine J.fgt (by exact ⟨Or.inr rfl, Or.inr rfl, Or.inr rfl, Or.inr rfl, Or.inr rfl, Or.inl rfl, Or.inl rfl, Or.inl rfl, trivial⟩) (ih (c := c + 1) (x := max x 1) (by omega) (by omega) (by omega) fun x' hx' h1 h2 => kx x' hx' (fun e => ?_) (fun e => ?_))
        · exact absurd (h1 e).1 (by omega)
        · exact Or.inr ⟨c, by omega, by omega, by omega⟩
set_option maxHeartbeats 4000000 in
theorem k_ag2 {Γ : jE} (hl : Γ.1.stackTraces = false) {sh : List (Nat × Nat)} {t : Nat → Nat → Option Nat} {s : Nat → Int → Int} {sc en n : Nat} {f o : Int → Int} {d : Nat} {p x : Int} {P : Option Value → jM → Prop} (hl' : FL f) (hv' : FS f) (q0 : BR sh t s sc en n f o) (ih' : ∀ k' : Nat, (k' : Int) < gBurns f → BhC Γ sh t sc en n o k') (hd : 2 * gBurns f + 3 ≤ d) :
    ∀ (k : Nat) {c a : Int}, (k : Int) = n - c → 0 ≤ c → (-600 ≤ a ∧ a ≤ 600) →
    (∀ a', (-600 ≤ a' ∧ a' ≤ 600) → a' = gM gBhf f (2 * k) (2 * c) a → J Γ (d, 0, 0) mL_against 188 [some (.ref sc), some (.ref en), some (.int (iI p)), some (.int (iI x)), some (.int (iI a')), none, none, none] [] (jmx sh t s) P X0) →
    J Γ (d, 0, 0) mL_against 67 [some (.ref sc), some (.ref en), some (.int (iI p)), some (.int (iI x)), some (.int (iI a)), some (.int (iI c)), none, none] [] (jmx sh t s) P X0 := by
  have hn3 := q0.n3 hl' hv'
  have hnf := q0.hn
  have hc3 := hl'.ch _ hv'.cur.1 hv'.cur.2
  intro k
  induction k with
  | zero =>
    intro c a hk hc ha kx
    refine J.iload dL_against_67 rfl ?_
    refine J.aload_n 0 dL_against_69 rfl rfl ?_
    refine Y.alen dL_against_70 q0.hsc (by decide) ?_
    refine I.icmp_ge 188 dL_against_71 (by decide) (by omega) (by omega) (fun h71 => ?_) (fun h71 => ?_)
    · skip
      exact J.fgt (by exact ⟨Or.inr rfl, Or.inr rfl, Or.inr rfl, Or.inr rfl, Or.inr rfl, Or.inl rfl, Or.inl rfl, Or.inl rfl, trivial⟩) (kx a ha rfl)
    · exact absurd h71 (by omega)
  | succ k ih =>
    intro c a hk hc ha kx
    refine J.iload dL_against_67 rfl ?_
    refine J.aload_n 0 dL_against_69 rfl rfl ?_
    refine Y.alen dL_against_70 q0.hsc (by decide) ?_
    refine I.icmp_ge 188 dL_against_71 (by decide) (by omega) (by omega) (fun h71 => ?_) (fun h71 => ?_)
    · exact absurd h71 (by omega)
    · skip
      have at1 := q0.at (c := c) (by omega) (by omega)
      obtain ⟨ea, eb, r, mm, e3, e4, e5, e6, e7, e8, e9⟩ := at1
      have hen := hv'.ends c (by omega) (by omega)
      have he1 : f (37 + c) < 8 := by have := hl'.len (f 1) c hv'.cur.1 hv'.cur.2 (by omega) (by omega); omega
      refine J.aload_n 1 dL_against_74 rfl rfl ?_
      refine I.iconst dL_against_75 ?_
      refine J.iload dL_against_76 rfl ?_
      refine I.mul dL_against_78 ?_
      refine Y.iald dL_against_79 q0.hen (by omega) (by omega) ?_
      refine I.sx ea ?_
      refine J.istore dL_against_80 (by decide) rfl ?_
      refine J.aload_n 1 dL_against_82 rfl rfl ?_
      refine I.iconst dL_against_83 ?_
      refine J.iload dL_against_84 rfl ?_
      refine I.mul dL_against_86 ?_
      refine I.iconst dL_against_87 ?_
      refine I.add dL_against_88 ?_
      refine Y.iald dL_against_89 q0.hen (by omega) (by omega) ?_
      refine I.sx eb ?_
      refine J.istore dL_against_90 (by decide) rfl ?_
      refine J.iload dL_against_92 rfl ?_
      refine J.iload dL_against_94 rfl ?_
      refine I.icmp_lt 102 dL_against_96 (by decide) (by omega) (by omega) (fun h96 => ?_) (fun h96 => ?_)
      · skip
        have g1 : 1 < f (37 + c) - f (34 + c) + 1 := by omega
        obtain ⟨bl, br⟩ := gBn_2 (f := f) (c := c) (by omega) (by omega) g1
        obtain ⟨pl, pr⟩ := gPt_e (f := f) (c := c) (by omega) (by omega)
        have ple := gPt_rng hl' hv' bl.ok
        have pre := gPt_rng hl' hv' br.ok
        have wl := gBhf_rng (gRem_FL hl' hv' bl) (gRem_FS hl' hv' bl)
        have wr := gBhf_rng (gRem_FL hl' hv' br) (gRem_FS hl' hv' br)
        have bk := (gRem_cnt hl' hv' bl).2
        have bk2 := (gRem_cnt hl' hv' br).2
        have b0 := gBurns_rng (gRem_FL hl' hv' bl) (gRem_FS hl' hv' bl)
        have b02 := gBurns_rng (gRem_FL hl' hv' br) (gRem_FS hl' hv' br)
        have s1 := q0.rem hl' hv' bl (x := f (34 + c) - o c + 1) (by rw [ea, if_pos (by omega)])
        have s2 := q0.rem hl' hv' br (x := f (37 + c) - o c - 1) (by rw [eb, if_neg (by omega)]; omega)
        refine J.aload_n 1 dL_against_102 rfl rfl ?_
        refine I.iconst dL_against_103 ?_
        refine J.iload dL_against_104 rfl ?_
        refine I.mul dL_against_106 ?_
        refine J.iload dL_against_107 rfl ?_
        refine I.iconst dL_against_109 ?_
        refine I.add dL_against_110 ?_
        refine Y.iast dL_against_111 q0.hen (by omega) (by omega) ?_
        refine J.iload dL_against_112 rfl ?_
        refine J.aload_n 0 dL_against_114 rfl rfl ?_
        refine J.iload dL_against_115 rfl ?_
        refine Y.raald dL_against_117 q0.hsc (by omega) (by omega) (e3 (by omega)) ?_
        refine J.iload dL_against_118 rfl ?_
        refine Y.iald dL_against_120 (e5 (by omega)) (by omega) (by omega) ?_
        refine I.sx ((up_ne (Or.inl (e4 (by omega)))).trans ((e9 (by omega) (f (34 + c)) (by omega) (by omega)).trans pl.symm)) ?_
        refine J.aload_n 0 dL_against_121 rfl rfl ?_
        refine J.aload_n 1 dL_against_122 rfl rfl ?_
        refine Y.callS (d' := d - 1) (mi' := mL_behind) [.ref sc, .ref en] dL_against_123 lL_199 eL_behind rfl (by show d - 1 + 1 ≤ d; omega) (ih' (gBurns (gRem f (2 * c))).toNat (by omega) (d - 1) (by omega) (gRem_FL hl' hv' bl) (gRem_FS hl' hv' bl) (by omega) s1) (Nat.le_of_ble_eq_true rfl) ?_
        refine I.add dL_against_126 ?_
        refine I.mmax dL_against_127 lL_194 (by omega) (by omega) (Nat.le_of_ble_eq_true rfl) ?_
        refine J.istore dL_against_130 (by decide) rfl ?_
        refine J.aload_n 1 dL_against_132 rfl rfl ?_
        refine I.iconst dL_against_133 ?_
        refine J.iload dL_against_134 rfl ?_
        refine I.mul dL_against_136 ?_
        refine J.iload dL_against_137 rfl ?_
        refine Y.iast dL_against_139 q0.hen (by omega) (by omega) ?_
        rw [up_up2, up_own2 ea.symm]
        refine J.aload_n 1 dL_against_140 rfl rfl ?_
        refine I.iconst dL_against_141 ?_
        refine J.iload dL_against_142 rfl ?_
        refine I.mul dL_against_144 ?_
        refine I.iconst dL_against_145 ?_
        refine I.add dL_against_146 ?_
        refine J.iload dL_against_147 rfl ?_
        refine I.iconst dL_against_149 ?_
        refine I.sub dL_against_150 ?_
        refine Y.iast dL_against_151 q0.hen (by omega) (by omega) ?_
        refine J.iload dL_against_152 rfl ?_
        refine J.aload_n 0 dL_against_154 rfl rfl ?_
        refine J.iload dL_against_155 rfl ?_
        refine Y.raald dL_against_157 q0.hsc (by omega) (by omega) (e3 (by omega)) ?_
        refine J.iload dL_against_158 rfl ?_
        refine Y.iald dL_against_160 (e5 (by omega)) (by omega) (by omega) ?_
        refine I.sx ((up_ne (Or.inl (e4 (by omega)))).trans ((e9 (by omega) (f (37 + c)) (by omega) (by omega)).trans pr.symm)) ?_
        refine J.aload_n 0 dL_against_161 rfl rfl ?_
        refine J.aload_n 1 dL_against_162 rfl rfl ?_
        refine Y.callS (d' := d - 1) (mi' := mL_behind) [.ref sc, .ref en] dL_against_163 lL_199 eL_behind rfl (by show d - 1 + 1 ≤ d; omega) (ih' (gBurns (gRem f (2 * c + 1))).toNat (by omega) (d - 1) (by omega) (gRem_FL hl' hv' br) (gRem_FS hl' hv' br) (by omega) s2) (Nat.le_of_ble_eq_true rfl) ?_
        refine I.add dL_against_166 ?_
        refine I.mmax dL_against_167 lL_194 (by omega) (by omega) (Nat.le_of_ble_eq_true rfl) ?_
        refine J.istore dL_against_170 (by decide) rfl ?_
        refine J.aload_n 1 dL_against_172 rfl rfl ?_
        refine I.iconst dL_against_173 ?_
        refine J.iload dL_against_174 rfl ?_
        refine I.mul dL_against_176 ?_
        refine I.iconst dL_against_177 ?_
        refine I.add dL_against_178 ?_
        refine J.iload dL_against_179 rfl ?_
        refine Y.iast dL_against_181 q0.hen (by omega) (by omega) ?_
        rw [up_up2, up_own2 eb.symm]
        refine I.iinc dL_against_182 rfl rfl ?_
        refine J.goto 67 dL_against_185 (by decide) ?_
        refine J.fgt (by exact ⟨Or.inr rfl, Or.inr rfl, Or.inr rfl, Or.inr rfl, Or.inr rfl, Or.inr rfl, Or.inl rfl, Or.inl rfl, trivial⟩) (ih (c := c + 1) (a := max (max a (gPt f (2 * c) + gBhf (gRem f (2 * c)))) (gPt f (2 * c + 1) + gBhf (gRem f (2 * c + 1)))) (by omega) (by omega) (by omega) fun a' ha' h2 => kx a' ha' (h2.trans ?_))
        have x1 : gMS gBhf f (2 * c) a = max a (gPt f (2 * c) + gBhf (gRem f (2 * c))) := by unfold gMS; rw [show (2 * c) / 2 = c by omega, if_pos g1]
        have x2 : ∀ a, gMS gBhf f (2 * c + 1) a = max a (gPt f (2 * c + 1) + gBhf (gRem f (2 * c + 1))) := by intro a; unfold gMS; rw [show (2 * c + 1) / 2 = c by omega, if_pos g1]
        unfold gM
        rw [show 2 * (k + 1) = 2 * k + 1 + 1 by omega, foldF_s, foldF_s, show (2 * (c + 1) : Int) = 2 * c + 1 + 1 by omega, x1, x2]
      · skip
        refine J.goto 182 dL_against_99 (by decide) ?_
        refine I.iinc dL_against_182 rfl rfl ?_
        refine J.goto 67 dL_against_185 (by decide) ?_
        refine J.fgt (by exact ⟨Or.inr rfl, Or.inr rfl, Or.inr rfl, Or.inr rfl, Or.inr rfl, Or.inr rfl, Or.inl rfl, Or.inl rfl, trivial⟩) (ih (c := c + 1) (a := a) (by omega) (by omega) ha fun a' ha' h2 => kx a' ha' (h2.trans ?_))
        have x1 : gMS gBhf f (2 * c) a = a := by unfold gMS; rw [show (2 * c) / 2 = c by omega, if_neg (by omega)]
        have x2 : gMS gBhf f (2 * c + 1) a = a := by unfold gMS; rw [show (2 * c + 1) / 2 = c by omega, if_neg (by omega)]
        unfold gM
        rw [show 2 * (k + 1) = 2 * k + 1 + 1 by omega, foldF_s, foldF_s, show (2 * (c + 1) : Int) = 2 * c + 1 + 1 by omega, x1, x2]
set_option maxHeartbeats 4000000 in
theorem c_against0 {Γ : jE} (hl : Γ.1.stackTraces = false) {sh : List (Nat × Nat)} {t : Nat → Nat → Option Nat} {sc en n : Nat} {o : Int → Int} (k : Nat) (ihB : ∀ k', k' ≤ k → BhC Γ sh t sc en n o k') : AgC Γ sh t sc en n o k := by
    intro d s f p hd hl' hv' hb q0 hp
    have hn3 := q0.n3 hl' hv'
    have hnf := q0.hn
    have hc3 := hl'.ch _ hv'.cur.1 hv'.cur.2
    have hgb := gBurns_rng hl' hv'
    refine Con.ofJ (by decide +kernel) (by simp [Value.category]) (Nat.le_of_ble_eq_true rfl) ?_ hl
    refine I.iconst dL_against_0 ?_
    refine J.istore_n 3 dL_against_1 rfl (by decide) rfl ?_
    refine I.iconst dL_against_2 ?_
    refine J.istore dL_against_3 (by decide) rfl ?_
    refine k_ag1 hl hl' hv' q0 n (c := 0) (x := 0) (by omega) (by omega) (Or.inl rfl) fun x hx g1 g2 => ?_
    refine J.iload_n 3 dL_against_43 rfl rfl ?_
    refine I.if_ne 49 dL_against_44 (by decide) (by omega) (fun h44 => ?_) (fun h44 => ?_)
    · skip
      have hns : ¬ gShort f := by
        intro hh
        rcases g2 (by omega) with g | ⟨y, y0, y1, y2⟩
        · omega
        · have := hh y y0 (by omega); omega
      have hbr := gBhf_rng hl' hv'
      refine J.iload_n 2 dL_against_49 rfl rfl ?_
      refine I.if_eq 57 dL_against_50 (by decide) (by omega) (fun h50 => ?_) (fun h50 => ?_)
      · skip
        skip
        refine J.aload_n 0 dL_against_57 rfl rfl ?_
        refine J.aload_n 1 dL_against_58 rfl rfl ?_
        refine Y.callS (d' := d - 1) (mi' := mL_behind) [.ref sc, .ref en] dL_against_59 lL_199 eL_behind rfl (by show d - 1 + 1 ≤ d; omega) (ihB k (Nat.le_refl k) (d - 1) (by omega) hl' hv' hb q0) (Nat.le_of_ble_eq_true rfl) ?_
        refine J.istore dL_against_62 (by decide) rfl ?_
        refine I.iconst dL_against_64 ?_
        refine J.istore dL_against_65 (by decide) rfl ?_
        refine k_ag2 hl hl' hv' q0 (fun k' hk' => ihB k' (by omega)) (by omega) n (c := 0) (a := (gBhf f)) (by omega) (by omega) (by omega) fun a' ha' h3 => ?_
        refine J.iload dL_against_188 rfl ?_
        refine J.iret rfl dL_against_190 ⟨?_, rfl⟩
        rw [h3, show p = 0 by omega, gAg_0 hns, show (2 * f (18 + f 1)).toNat = 2 * n by omega]
        rfl
      · skip
        skip
        refine I.iconst dL_against_53 ?_
        refine J.goto 62 dL_against_54 (by decide) ?_
        refine J.istore dL_against_62 (by decide) rfl ?_
        refine I.iconst dL_against_64 ?_
        refine J.istore dL_against_65 (by decide) rfl ?_
        refine k_ag2 hl hl' hv' q0 (fun k' hk' => ihB k' (by omega)) (by omega) n (c := 0) (a := 0) (by omega) (by omega) (by omega) fun a' ha' h3 => ?_
        refine J.iload dL_against_188 rfl ?_
        refine J.iret rfl dL_against_190 ⟨?_, rfl⟩
        rw [h3, show p = 1 by omega, gAg_1 hns, show (2 * f (18 + f 1)).toNat = 2 * n by omega]
        rfl
    · skip
      have hsh : gShort f := fun y y0 y1 => (g1 h44).2 y y0 (by omega)
      refine I.iconst dL_against_47 ?_
      exact J.iret rfl dL_against_48 ⟨by rw [gAg_o hsh], rfl⟩
theorem c_bhag {Γ : jE} (hl : Γ.1.stackTraces = false) {sh : List (Nat × Nat)} {t : Nat → Nat → Option Nat} {sc en n : Nat} {o : Int → Int} : ∀ k, BhC Γ sh t sc en n o k ∧ AgC Γ sh t sc en n o k := by
  intro k
  induction k using Nat.strongRecOn with
  | ind k ih =>
    have hB : BhC Γ sh t sc en n o k := c_behind0 hl k fun k' h => (ih k' h).2
    refine ⟨hB, c_against0 hl k fun k' h => ?_⟩
    rcases Nat.lt_or_eq_of_le h with h | rfl
    · exact (ih k' h).1
    · exact hB
