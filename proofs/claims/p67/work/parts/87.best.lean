/-! the law's rows of scores and its ends, against a row of the class -/
/-- one chain: its row of scores, its two ends; o: where the row begins -/
def BC (sh : List (Nat × Nat)) (t : Nat → Nat → Option Nat) (s : Nat → Int → Int) (sc en : Nat) (f : Int → Int) (o : Int → Int) (c : Nat) : Prop :=
  s en (2 * (c : Int)) = f (34 + (c : Int)) - o c ∧ s en (2 * (c : Int) + 1) = f (37 + (c : Int)) - o c ∧ ∃ r m : Nat, (f (34 + (c : Int)) < f (37 + (c : Int)) → t sc c = some r) ∧ (f (34 + (c : Int)) < f (37 + (c : Int)) → r ≠ en) ∧ (f (34 + (c : Int)) < f (37 + (c : Int)) → sh[r]? = some (100, m)) ∧ m < 1000000 ∧ 0 ≤ f (34 + (c : Int)) - o c ∧ f (37 + (c : Int)) - o c < m ∧ (f (34 + (c : Int)) < f (37 + (c : Int)) → ∀ j, f (34 + (c : Int)) ≤ j → j ≤ f (37 + (c : Int)) → s r (j - o c) = gSc (f (40 + 8 * (3 * f 1 + (c : Int)) + j)))
def BR (sh : List (Nat × Nat)) (t : Nat → Nat → Option Nat) (s : Nat → Int → Int) (sc en n : Nat) (f : Int → Int) (o : Int → Int) : Prop :=
  sh[sc]? = some (106, n) ∧ sh[en]? = some (100, 2 * n) ∧ (n : Int) = f (18 + f 1) ∧ ∀ c : Nat, c < n → BC sh t s sc en f o c
theorem gPt_e {f : Int → Int} {c : Int} (c0 : 0 ≤ c) (c1 : c < 3) : gPt f (2 * c) = gSc (f (40 + 8 * (3 * f 1 + c) + f (34 + c))) ∧ gPt f (2 * c + 1) = gSc (f (40 + 8 * (3 * f 1 + c) + f (37 + c))) := by
  constructor
  · rw [gPt_l (by omega) (by omega), show 2 * c / 2 = c by omega]
  · rw [gPt_r (by omega) (by omega), show (2 * c + 1) / 2 = c by omega]
section BRS
variable {sh : List (Nat × Nat)} {t : Nat → Nat → Option Nat} {s : Nat → Int → Int} {sc en n : Nat} {f o : Int → Int}
theorem BR.hsc (h : BR sh t s sc en n f o) : sh[sc]? = some (106, n) := h.1
theorem BR.hen (h : BR sh t s sc en n f o) : sh[en]? = some (100, 2 * n) := h.2.1
theorem BR.hn (h : BR sh t s sc en n f o) : (n : Int) = f (18 + f 1) := h.2.2.1
theorem BR.n3 (h : BR sh t s sc en n f o) (hl : FL f) (hv : FS f) : 1 ≤ n ∧ n ≤ 3 := by have := h.hn; have := hl.ch _ hv.cur.1 hv.cur.2; omega
/-- what is read of a chain -/
theorem BR.at {c : Int} (h : BR sh t s sc en n f o) (c0 : 0 ≤ c) (c1 : c < n) : s en (2 * c) = f (34 + c) - o c ∧ s en (2 * c + 1) = f (37 + c) - o c ∧ ∃ r m : Nat, (f (34 + c) < f (37 + c) → t sc c.toNat = some r) ∧ (f (34 + c) < f (37 + c) → r ≠ en) ∧ (f (34 + c) < f (37 + c) → sh[r]? = some (100, m)) ∧ m < 1000000 ∧ 0 ≤ f (34 + c) - o c ∧ f (37 + c) - o c < m ∧ (f (34 + c) < f (37 + c) → ∀ j, f (34 + c) ≤ j → j ≤ f (37 + c) → s r (j - o c) = gSc (f (40 + 8 * (3 * f 1 + c) + j))) := by
  obtain ⟨k, rfl⟩ := Int.eq_ofNat_of_zero_le c0
  exact h.2.2.2 k (by omega)
theorem BR.rem {z : Int} (h : BR sh t s sc en n f o) (hl : FL f) (hv : FS f) (b : gBn f z) {x : Int} (hx : x = s en z + (if z % 2 = 0 then 1 else -1)) : BR sh t (up s en z x) sc en n (gRem f z) o := by
  have hc := hl.ch _ hv.cur.1 hv.cur.2
  have h6 := (gE_rng hc b).2.2
  have h00 := b.1.1
  refine ⟨h.1, h.2.1, by rw [gRem_C hc (by have := hv.cur; have := hl.rn; omega) b]; exact h.hn, fun c hcn => ?_⟩
  have hn := h.hn
  obtain ⟨a1, a2, r, m, a3, a4, a5, a6, a7, a8, a9⟩ := h.2.2.2 c hcn
  have he := hv.ends c (by omega) (by omega)
  have lo := gRem_lo (f := f) ⟨h00, h6⟩ (c := (c : Int)) (by omega) (by omega)
  have hi := gRem_hi (f := f) ⟨h00, h6⟩ (c := (c : Int)) (by omega) (by omega)
  have hb := b.2
  have key : f (34 + (c : Int)) ≤ gRem f z (34 + (c : Int)) ∧ gRem f z (37 + (c : Int)) ≤ f (37 + (c : Int)) := by rw [lo, hi]; constructor <;> split <;> omega
  rw [lo, hi] at key
  unfold BC
  rw [lo, hi, gRem_o (j := 1) hc b (by omega)]
  refine ⟨?_, ?_, r, m, fun e => a3 (by omega), fun e => a4 (by omega), fun e => a5 (by omega), a6, ?_, ?_, fun e j j0 j1 => ?_⟩
  · by_cases e : (c : Int) = z / 2 ∧ z % 2 = 0
    · rw [if_pos e, show 2 * (c : Int) = z by omega, up_eq, hx, if_pos e.2, show z = 2 * (c : Int) by omega, a1]; omega
    · rw [if_neg e, up_ne (Or.inr (by omega))]; exact a1
  · by_cases e : (c : Int) = z / 2 ∧ z % 2 = 1
    · rw [if_pos e, show 2 * (c : Int) + 1 = z by omega, up_eq, hx, if_neg (by omega), show z = 2 * (c : Int) + 1 by omega, a2]; omega
    · rw [if_neg e, up_ne (Or.inr (by omega))]; exact a2
  · split <;> omega
  · split <;> omega
  · have e5 : f (34 + (c : Int)) < f (37 + (c : Int)) := by omega
    rw [up_ne (Or.inl (a4 e5)), gRem_o (j := 40 + 8 * (3 * f 1 + (c : Int)) + j) hc b (by have := hv.cur; have := hl.rn; split at j0 <;> omega)]
    exact a9 e5 j (by split at j0 <;> omega) (by split at j1 <;> omega)
end BRS
/-- what the law's best answers, with at most so many burns left -/
def BestC (Γ : jE) (sh : List (Nat × Nat)) (t : Nat → Nat → Option Nat) (sc en n : Nat) (o : Int → Int) (k : Nat) : Prop :=
  ∀ (d : Nat) {s : Nat → Int → Int} {f : Int → Int} {p : Int}, k + 2 ≤ d → FL f → FS f → gBurns f ≤ k → BR sh t s sc en n f o → (p = 0 ∨ p = 1) → Con Γ (d, 0, 0) mL_best [.ref sc, .ref en, .int (iI p)] (jmx sh t s) (fun v M' => v = some (.int (iI (gWf f))) ∧ M' = jmx sh t s) X0
set_option maxHeartbeats 4000000 in
theorem k_best {Γ : jE} (hl : Γ.1.stackTraces = false) {sh : List (Nat × Nat)} {t : Nat → Nat → Option Nat} {s : Nat → Int → Int} {sc en n : Nat} {f o : Int → Int} {d : Nat} {p : Int} {P : Option Value → jM → Prop} (hl' : FL f) (hv' : FS f) (q0 : BR sh t s sc en n f o) (ih' : ∀ k' : Nat, (k' : Int) < gBurns f → ∀ (d : Nat) {s : Nat → Int → Int} {f : Int → Int} {p : Int}, k' + 2 ≤ d → FL f → FS f → gBurns f ≤ k' → BR sh t s sc en n f o → (p = 0 ∨ p = 1) → Con Γ (d, 0, 0) mL_best [.ref sc, .ref en, .int (iI p)] (jmx sh t s) (fun v M' => v = some (.int (iI (gWf f))) ∧ M' = jmx sh t s) X0) (hd : gBurns f + 2 ≤ d) :
    ∀ (k : Nat) {c x a : Int}, (k : Int) = n - c → 0 ≤ c → (x = 0 ∨ x = 1) → (-100000 ≤ a ∧ a ≤ 24) →
    (∀ x' a', (x' = 0 ∨ x' = 1) → (-100000 ≤ a' ∧ a' ≤ 24) → (x' = 0 → x = 0 ∧ ∀ y, c ≤ y → y < n → f (37 + y) - f (34 + y) + 1 ≤ 1) → a' = gB gWf f k c a → J Γ (d, 0, 0) mL_best 134 [some (.ref sc), some (.ref en), some (.int (iI p)), some (.int (iI x')), some (.int (iI a')), none, none, none] [] (jmx sh t s) P X0) →
    J Γ (d, 0, 0) mL_best 9 [some (.ref sc), some (.ref en), some (.int (iI p)), some (.int (iI x)), some (.int (iI a)), some (.int (iI c)), none, none] [] (jmx sh t s) P X0 := by
  have hn3 := q0.n3 hl' hv'
  have hnf := q0.hn
  have hc3 := hl'.ch _ hv'.cur.1 hv'.cur.2
  intro k
  induction k with
  | zero =>
    intro c x a hk hc hx ha kx
    refine J.iload dL_best_9 rfl ?_
    refine J.aload_n 0 dL_best_11 rfl rfl ?_
    skip
    refine Y.alen dL_best_12 q0.hsc (by decide) ?_
    refine I.icmp_ge 134 dL_best_13 (by decide) (by omega) (by omega) (fun h13 => ?_) (fun h13 => ?_)
    · skip
      exact J.fgt (by exact ⟨Or.inr rfl, Or.inr rfl, Or.inr rfl, Or.inr rfl, Or.inr rfl, Or.inl rfl, Or.inl rfl, Or.inl rfl, trivial⟩) (kx x a hx ha (fun e => ⟨e, fun y y0 y1 => by omega⟩) rfl)
    · exact absurd h13 (by omega)
  | succ k ih =>
    intro c x a hk hc hx ha kx
    refine J.iload dL_best_9 rfl ?_
    refine J.aload_n 0 dL_best_11 rfl rfl ?_
    skip
    refine Y.alen dL_best_12 q0.hsc (by decide) ?_
    refine I.icmp_ge 134 dL_best_13 (by decide) (by omega) (by omega) (fun h13 => ?_) (fun h13 => ?_)
    · exact absurd h13 (by omega)
    · skip
      have at1 := q0.at (c := c) (by omega) (by omega)
      obtain ⟨ea, eb, r, mm, e3, e4, e5, e6, e7, e8, e9⟩ := at1
      have hen := hv'.ends c (by omega) (by omega)
      have he1 : f (37 + c) < 8 := by have := hl'.len (f 1) c hv'.cur.1 hv'.cur.2 (by omega) (by omega); omega
      refine J.aload_n 1 dL_best_16 rfl rfl ?_
      refine I.iconst dL_best_17 ?_
      refine J.iload dL_best_18 rfl ?_
      refine I.mul dL_best_20 ?_
      refine Y.iald dL_best_21 q0.hen (by omega) (by omega) ?_
      refine I.sx ea ?_
      refine J.istore dL_best_22 (by decide) rfl ?_
      refine J.aload_n 1 dL_best_24 rfl rfl ?_
      refine I.iconst dL_best_25 ?_
      refine J.iload dL_best_26 rfl ?_
      refine I.mul dL_best_28 ?_
      refine I.iconst dL_best_29 ?_
      refine I.add dL_best_30 ?_
      refine Y.iald dL_best_31 q0.hen (by omega) (by omega) ?_
      refine I.sx eb ?_
      refine J.istore dL_best_32 (by decide) rfl ?_
      refine J.iload dL_best_34 rfl ?_
      refine J.iload dL_best_36 rfl ?_
      refine I.icmp_lt 44 dL_best_38 (by decide) (by omega) (by omega) (fun h38 => ?_) (fun h38 => ?_)
      · skip
        have g1 : 1 < f (37 + c) - f (34 + c) + 1 := by omega
        obtain ⟨bl, br⟩ := gBn_2 (f := f) (c := c) (by omega) (by omega) g1
        obtain ⟨pl, pr⟩ := gPt_e (f := f) (c := c) (by omega) (by omega)
        have ple := gPt_rng hl' hv' bl.ok
        have pre := gPt_rng hl' hv' br.ok
        have wl := gWf_rng (gRem_FL hl' hv' bl) (gRem_FS hl' hv' bl)
        have wr := gWf_rng (gRem_FL hl' hv' br) (gRem_FS hl' hv' br)
        have bk := (gRem_cnt hl' hv' bl).2
        have bk2 := (gRem_cnt hl' hv' br).2
        have b0 := gBurns_rng (gRem_FL hl' hv' bl) (gRem_FS hl' hv' bl)
        have b02 := gBurns_rng (gRem_FL hl' hv' br) (gRem_FS hl' hv' br)
        have s1 := q0.rem hl' hv' bl (x := f (34 + c) - o c + 1) (by rw [ea, if_pos (by omega)])
        have s2 := q0.rem hl' hv' br (x := f (37 + c) - o c - 1) (by rw [eb, if_neg (by omega)]; omega)
        refine I.iconst dL_best_44 ?_
        refine J.istore_n 3 dL_best_45 rfl (by decide) rfl ?_
        refine J.aload_n 1 dL_best_46 rfl rfl ?_
        refine I.iconst dL_best_47 ?_
        refine J.iload dL_best_48 rfl ?_
        refine I.mul dL_best_50 ?_
        refine J.iload dL_best_51 rfl ?_
        refine I.iconst dL_best_53 ?_
        refine I.add dL_best_54 ?_
        refine Y.iast dL_best_55 q0.hen (by omega) (by omega) ?_
        refine J.iload dL_best_56 rfl ?_
        refine J.aload_n 0 dL_best_58 rfl rfl ?_
        refine J.iload dL_best_59 rfl ?_
        refine Y.raald dL_best_61 q0.hsc (by omega) (by omega) (e3 (by omega)) ?_
        refine J.iload dL_best_62 rfl ?_
        refine Y.iald dL_best_64 (e5 (by omega)) (by omega) (by omega) ?_
        refine I.sx ((up_ne (Or.inl (e4 (by omega)))).trans ((e9 (by omega) (f (34 + c)) (by omega) (by omega)).trans pl.symm)) ?_
        refine J.aload_n 0 dL_best_65 rfl rfl ?_
        refine J.aload_n 1 dL_best_66 rfl rfl ?_
        refine I.iconst dL_best_67 ?_
        refine Y.callS (d' := d - 1) (mi' := mL_best) [.ref sc, .ref en, .int (iI 0)] dL_best_68 lL_190 eL_best rfl (by show d - 1 + 1 ≤ d; omega) (ih' (gBurns (gRem f (2 * c))).toNat (by omega) (d - 1) (by omega) (gRem_FL hl' hv' bl) (gRem_FS hl' hv' bl) (by omega) s1 (Or.inl rfl)) (Nat.le_of_ble_eq_true rfl) ?_
        refine I.sub dL_best_71 ?_
        refine I.mmax dL_best_72 lL_194 (by omega) (by omega) (Nat.le_of_ble_eq_true rfl) ?_
        refine J.istore dL_best_75 (by decide) rfl ?_
        refine J.aload_n 1 dL_best_77 rfl rfl ?_
        refine I.iconst dL_best_78 ?_
        refine J.iload dL_best_79 rfl ?_
        refine I.mul dL_best_81 ?_
        refine J.iload dL_best_82 rfl ?_
        refine Y.iast dL_best_84 q0.hen (by omega) (by omega) ?_
        rw [up_up2, up_own2 ea.symm]
        refine J.aload_n 1 dL_best_85 rfl rfl ?_
        refine I.iconst dL_best_86 ?_
        refine J.iload dL_best_87 rfl ?_
        refine I.mul dL_best_89 ?_
        refine I.iconst dL_best_90 ?_
        refine I.add dL_best_91 ?_
        refine J.iload dL_best_92 rfl ?_
        refine I.iconst dL_best_94 ?_
        refine I.sub dL_best_95 ?_
        refine Y.iast dL_best_96 q0.hen (by omega) (by omega) ?_
        refine J.iload dL_best_97 rfl ?_
        refine J.aload_n 0 dL_best_99 rfl rfl ?_
        refine J.iload dL_best_100 rfl ?_
        refine Y.raald dL_best_102 q0.hsc (by omega) (by omega) (e3 (by omega)) ?_
        refine J.iload dL_best_103 rfl ?_
        refine Y.iald dL_best_105 (e5 (by omega)) (by omega) (by omega) ?_
        refine I.sx ((up_ne (Or.inl (e4 (by omega)))).trans ((e9 (by omega) (f (37 + c)) (by omega) (by omega)).trans pr.symm)) ?_
        refine J.aload_n 0 dL_best_106 rfl rfl ?_
        refine J.aload_n 1 dL_best_107 rfl rfl ?_
        refine I.iconst dL_best_108 ?_
        refine Y.callS (d' := d - 1) (mi' := mL_best) [.ref sc, .ref en, .int (iI 0)] dL_best_109 lL_190 eL_best rfl (by show d - 1 + 1 ≤ d; omega) (ih' (gBurns (gRem f (2 * c + 1))).toNat (by omega) (d - 1) (by omega) (gRem_FL hl' hv' br) (gRem_FS hl' hv' br) (by omega) s2 (Or.inl rfl)) (Nat.le_of_ble_eq_true rfl) ?_
        refine I.sub dL_best_112 ?_
        refine I.mmax dL_best_113 lL_194 (by omega) (by omega) (Nat.le_of_ble_eq_true rfl) ?_
        refine J.istore dL_best_116 (by decide) rfl ?_
        refine J.aload_n 1 dL_best_118 rfl rfl ?_
        refine I.iconst dL_best_119 ?_
        refine J.iload dL_best_120 rfl ?_
        refine I.mul dL_best_122 ?_
        refine I.iconst dL_best_123 ?_
        refine I.add dL_best_124 ?_
        refine J.iload dL_best_125 rfl ?_
        refine Y.iast dL_best_127 q0.hen (by omega) (by omega) ?_
        rw [up_up2, up_own2 eb.symm]
        refine I.iinc dL_best_128 rfl rfl ?_
        refine J.goto 9 dL_best_131 (by decide) ?_
        refine J.fgt (by exact ⟨Or.inr rfl, Or.inr rfl, Or.inr rfl, Or.inr rfl, Or.inr rfl, Or.inr rfl, Or.inl rfl, Or.inl rfl, trivial⟩) (ih (c := c + 1) (x := 1) (a := max (max a (gPt f (2 * c) - gWf (gRem f (2 * c)))) (gPt f (2 * c + 1) - gWf (gRem f (2 * c + 1)))) (by omega) (by omega) (Or.inr rfl) (by omega) fun x' a' hx' ha' h1 h2 => kx x' a' hx' ha' (fun e => absurd (h1 e).1 (by decide)) (h2.trans ?_))
        unfold gB
        rw [foldF_s, if_pos g1, Int.max_assoc]
      · skip
        refine J.goto 128 dL_best_41 (by decide) ?_
        refine I.iinc dL_best_128 rfl rfl ?_
        refine J.goto 9 dL_best_131 (by decide) ?_
        refine J.fgt (by exact ⟨Or.inr rfl, Or.inr rfl, Or.inr rfl, Or.inr rfl, Or.inr rfl, Or.inr rfl, Or.inl rfl, Or.inl rfl, trivial⟩) (ih (c := c + 1) (x := x) (a := a) (by omega) (by omega) hx ha fun x' a' hx' ha' h1 h2 => kx x' a' hx' ha' (fun e => ⟨(h1 e).1, fun y y0 y1 => ?_⟩) (h2.trans ?_))
        · by_cases ey : y = c
          · subst ey; omega
          · exact (h1 e).2 y (by omega) (by omega)
        · unfold gB
          rw [foldF_s, if_neg (by omega)]
set_option maxHeartbeats 4000000 in
theorem c_best {Γ : jE} (hl : Γ.1.stackTraces = false) {sh : List (Nat × Nat)} {t : Nat → Nat → Option Nat} {sc en n : Nat} {o : Int → Int} : ∀ k, BestC Γ sh t sc en n o k := by
  intro k
  induction k using Nat.strongRecOn with
  | ind k ih0 =>
    intro d s f p hd hl' hv' hb q0 hp
    have hn3 := q0.n3 hl' hv'
    have hnf := q0.hn
    have hc3 := hl'.ch _ hv'.cur.1 hv'.cur.2
    have hw := gWf_eq hl' hv'
    have hwr := gWf_rng hl' hv'
    refine Con.ofJ (by decide +kernel) (by simp [Value.category]) (Nat.le_of_ble_eq_true rfl) ?_ hl
    refine I.iconst dL_best_0 ?_
    refine J.istore_n 3 dL_best_1 rfl (by decide) rfl ?_
    refine J.ldc (iI (-100000)) dL_best_2 (by rw [show iI (-100000) = -100000 from by decide]; exact qL_189) ?_
    refine J.istore dL_best_4 (by decide) rfl ?_
    refine I.iconst dL_best_6 ?_
    refine J.istore dL_best_7 (by decide) rfl ?_
    refine k_best (Γ := Γ) hl hl' hv' q0 (fun k' hk' d => ih0 k' (by omega) d) (by omega) n (c := 0) (x := 0) (a := -100000) (by omega) (by omega) (Or.inl rfl) (by omega) fun x a hx ha h1 h2 => ?_
    have hm : gWf f = max 0 a := by
      rw [h2, ← gB_max, show max (0 : Int) (-100000) = 0 from by decide, show n = (f (18 + f 1)).toNat by omega]; exact hw
    refine J.iload_n 3 dL_best_134 rfl rfl ?_
    refine I.if_ne 140 dL_best_135 (by decide) (by omega) (fun h135 => ?_) (fun h135 => ?_)
    · skip
      refine J.iload dL_best_140 rfl ?_
      refine I.iconst dL_best_142 ?_
      refine I.mmax dL_best_143 lL_194 (by omega) (by omega) (Nat.le_of_ble_eq_true rfl) ?_
      refine J.istore dL_best_146 (by decide) rfl ?_
      refine J.iload_n 2 dL_best_148 rfl rfl ?_
      refine I.if_eq 157 dL_best_149 (by decide) (by omega) (fun h149 => ?_) (fun h149 => ?_)
      · skip
        refine J.iload dL_best_157 rfl ?_
        refine J.iload dL_best_159 rfl ?_
        refine I.neg dL_best_161 ?_
        refine I.mmax dL_best_162 lL_194 (by omega) (by omega) (Nat.le_of_ble_eq_true rfl) ?_
        exact J.iret rfl dL_best_165 ⟨by congr 3; omega, rfl⟩
      · skip
        refine J.iload dL_best_152 rfl ?_
        refine J.goto 165 dL_best_154 (by decide) ?_
        exact J.iret rfl dL_best_165 ⟨by congr 3; omega, rfl⟩
    · skip
      have hw0 : gWf f = 0 := gWf_short hl' hv' (fun y y0 y1 => (h1 h135).2 y y0 (by omega))
      refine I.iconst dL_best_138 ?_
      exact J.iret rfl dL_best_139 ⟨by rw [hw0], rfl⟩
/-- the score of the best so far -/
def lMo (f : Int → Int) (b : Int) : Int := if b = -1 then -1 else gPt f b
section BRZ
variable {sh : List (Nat × Nat)} {t : Nat → Nat → Option Nat} {s : Nat → Int → Int} {sc en n : Nat} {f o : Int → Int}
theorem BR.atz {z : Int} (h : BR sh t s sc en n f o) (hl : FL f) (hv : FS f) (b : gBn f z) : (0 ≤ z ∧ z < 6 ∧ z < 2 * n) ∧ ∃ r m : Nat, t sc (z / 2).toNat = some r ∧ r ≠ en ∧ sh[r]? = some (100, m) ∧ m < 1000000 ∧ 0 ≤ s en z ∧ s en z < m ∧ s r (s en z) = gPt f z := by
  have hc := hl.ch _ hv.cur.1 hv.cur.2
  have h6 := (gE_rng hc b).2.2
  have h00 := b.1
  have hn := h.hn
  refine ⟨⟨h00.1, h6, by omega⟩, ?_⟩
  obtain ⟨a1, a2, r, m, a3, a4, a5, a6, a7, a8, a9⟩ := h.at (c := z / 2) (by omega) (by omega)
  obtain ⟨p1, p2⟩ := gPt_e (f := f) (c := z / 2) (by omega) (by omega)
  have hb := b.2
  refine ⟨r, m, a3 hb, a4 hb, a5 hb, a6, ?_⟩
  rcases (by omega : z % 2 = 0 ∨ z % 2 = 1) with e | e
  · have ez : z = 2 * (z / 2) := by omega
    have e1 : s en z = f (34 + z / 2) - o (z / 2) := by rw [← a1, ← ez]
    have e2 : gPt f z = gSc (f (40 + 8 * (3 * f 1 + z / 2) + f (34 + z / 2))) := by rw [← p1, ← ez]
    rw [e1, e2]
    exact ⟨by omega, by omega, a9 hb _ (by omega) (by omega)⟩
  · have ez : z = 2 * (z / 2) + 1 := by omega
    have e1 : s en z = f (37 + z / 2) - o (z / 2) := by rw [← a2, ← ez]
    have e2 : gPt f z = gSc (f (40 + 8 * (3 * f 1 + z / 2) + f (37 + z / 2))) := by rw [← p2, ← ez]
    rw [e1, e2]
    exact ⟨by omega, by omega, a9 hb _ (by omega) (by omega)⟩
end BRZ
set_option maxHeartbeats 4000000 in
theorem k_gr {Γ : jE} (hl : Γ.1.stackTraces = false) {sh : List (Nat × Nat)} {t : Nat → Nat → Option Nat} {s : Nat → Int → Int} {sc en n : Nat} {f o : Int → Int} {d : Nat} {P : Option Value → jM → Prop} (hl' : FL f) (hv' : FS f) (q0 : BR sh t s sc en n f o) {c j b m : Int} (c0 : 0 ≤ c) (c1 : c < n) (hj : j = 0 ∨ j = 1) (hs : 1 < f (37 + c) - f (34 + c) + 1) (hb : b = -1 ∨ gBn f b) (hm : m = lMo f b)
    (kx : J Γ (d, 0, 0) mL_greedyOf 37 [some (.ref sc), some (.ref en), some (.int (iI (gGs f (2 * c + j) b))), some (.int (iI (lMo f (gGs f (2 * c + j) b)))), some (.int (iI c)), some (.int (iI (j + 1)))] [] (jmx sh t s) P X0) :
    J Γ (d, 0, 0) mL_greedyOf 37 [some (.ref sc), some (.ref en), some (.int (iI b)), some (.int (iI m)), some (.int (iI c)), some (.int (iI j))] [] (jmx sh t s) P X0 := by
  have hn3 := q0.n3 hl' hv'
  have hnf := q0.hn
  have bz : gBn f (2 * c + j) := by
    obtain ⟨bl, br⟩ := gBn_2 (f := f) (c := c) (by omega) (by omega) hs
    rcases hj with rfl | rfl
    · rw [Int.add_zero]; exact bl
    · exact br
  have pz := gPt_rng hl' hv' bz.ok
  have pb : -1 ≤ m ∧ m ≤ 24 := by
    rw [hm]; unfold lMo
    rcases hb with rfl | hb
    · rw [if_pos rfl]; omega
    · have := gPt_rng hl' hv' hb.ok; have := hb.1; rw [if_neg (by omega)]; omega
  refine J.iload dL_greedyOf_37 rfl ?_
  refine I.iconst dL_greedyOf_39 ?_
  refine I.icmp_ge 93 dL_greedyOf_40 (by decide) (by omega) (by omega) (fun h40 => ?_) (fun h40 => ?_)
  · exact absurd h40 (by omega)
  · skip
    skip
    have zz : ∃ r m : Nat, t sc c.toNat = some r ∧ r ≠ en ∧ sh[r]? = some (100, m) ∧ m < 1000000 ∧ 0 ≤ s en (2 * c + j) ∧ s en (2 * c + j) < m ∧ s r (s en (2 * c + j)) = gPt f (2 * c + j) := by
      have := (q0.atz hl' hv' bz).2
      rw [show (2 * c + j) / 2 = c by omega] at this
      exact this
    obtain ⟨r, mm, e3, e4, e5, e6, e7, e8, e9⟩ := zz
    refine J.aload_n 0 dL_greedyOf_43 rfl rfl ?_
    refine J.iload dL_greedyOf_44 rfl ?_
    refine Y.raald dL_greedyOf_46 q0.hsc (by omega) (by omega) e3 ?_
    refine J.aload_n 1 dL_greedyOf_47 rfl rfl ?_
    refine I.iconst dL_greedyOf_48 ?_
    refine J.iload dL_greedyOf_49 rfl ?_
    refine I.mul dL_greedyOf_51 ?_
    refine J.iload dL_greedyOf_52 rfl ?_
    refine I.add dL_greedyOf_54 ?_
    refine Y.iald dL_greedyOf_55 q0.hen (by omega) (by omega) ?_
    refine Y.iald dL_greedyOf_56 e5 (by omega) (by omega) ?_
    refine I.sx e9 ?_
    refine J.iload_n 3 dL_greedyOf_57 rfl rfl ?_
    refine I.icmp_gt 64 dL_greedyOf_58 (by decide) (by omega) (by omega) (fun h58 => ?_) (fun h58 => ?_)
    · skip
      have e : gGs f (2 * c + j) b = 2 * c + j := by
        unfold gGs
        rw [show (2 * c + j) / 2 = c by omega, if_pos hs, if_pos (by unfold lMo at hm; by_cases eb : b = -1; exact Or.inl eb; rw [if_neg eb] at hm; exact Or.inr (by omega))]
      have e2 : lMo f (2 * c + j) = gPt f (2 * c + j) := if_neg (by omega)
      refine J.aload_n 0 dL_greedyOf_64 rfl rfl ?_
      refine J.iload dL_greedyOf_65 rfl ?_
      refine Y.raald dL_greedyOf_67 q0.hsc (by omega) (by omega) e3 ?_
      refine J.aload_n 1 dL_greedyOf_68 rfl rfl ?_
      refine I.iconst dL_greedyOf_69 ?_
      refine J.iload dL_greedyOf_70 rfl ?_
      refine I.mul dL_greedyOf_72 ?_
      refine J.iload dL_greedyOf_73 rfl ?_
      refine I.add dL_greedyOf_75 ?_
      refine Y.iald dL_greedyOf_76 q0.hen (by omega) (by omega) ?_
      refine Y.iald dL_greedyOf_77 e5 (by omega) (by omega) ?_
      refine I.sx e9 ?_
      refine J.istore_n 3 dL_greedyOf_78 rfl (by decide) rfl ?_
      refine I.iconst dL_greedyOf_79 ?_
      refine J.iload dL_greedyOf_80 rfl ?_
      refine I.mul dL_greedyOf_82 ?_
      refine J.iload dL_greedyOf_83 rfl ?_
      refine I.add dL_greedyOf_85 ?_
      refine J.istore_n 2 dL_greedyOf_86 rfl (by decide) rfl ?_
      refine I.iinc dL_greedyOf_87 rfl rfl ?_
      refine J.goto 37 dL_greedyOf_90 (by decide) ?_
      rw [e, e2] at kx
      exact kx
    · skip
      have e : gGs f (2 * c + j) b = b := by
        unfold gGs
        rw [show (2 * c + j) / 2 = c by omega, if_pos hs, if_neg (by unfold lMo at hm; by_cases eb : b = -1; (rw [if_pos eb] at hm; omega); rw [if_neg eb] at hm; exact fun x => x.elim eb (by omega))]
      refine J.goto 87 dL_greedyOf_61 (by decide) ?_
      refine I.iinc dL_greedyOf_87 rfl rfl ?_
      refine J.goto 37 dL_greedyOf_90 (by decide) ?_
      rw [e, hm.symm] at kx
      exact kx
set_option maxHeartbeats 4000000 in
theorem k_greedyOf {Γ : jE} (hl : Γ.1.stackTraces = false) {sh : List (Nat × Nat)} {t : Nat → Nat → Option Nat} {s : Nat → Int → Int} {sc en n : Nat} {f o : Int → Int} {d : Nat} {P : Option Value → jM → Prop} (hl' : FL f) (hv' : FS f) (q0 : BR sh t s sc en n f o) :
    ∀ (k : Nat) {c b m : Int}, (k : Int) = n - c → 0 ≤ c → (b = -1 ∨ gBn f b) → m = lMo f b →
    (∀ b', b' = foldF (gGs f) (2 * k) (2 * c) b → J Γ (d, 0, 0) mL_greedyOf 99 [some (.ref sc), some (.ref en), some (.int (iI b')), none, none, none] [] (jmx sh t s) P X0) →
    J Γ (d, 0, 0) mL_greedyOf 7 [some (.ref sc), some (.ref en), some (.int (iI b)), some (.int (iI m)), some (.int (iI c)), none] [] (jmx sh t s) P X0 := by
  have hn3 := q0.n3 hl' hv'
  have hnf := q0.hn
  intro k
  induction k with
  | zero =>
    intro c b m hk hc hb hm kx
    refine J.iload dL_greedyOf_7 rfl ?_
    refine J.aload_n 0 dL_greedyOf_9 rfl rfl ?_
    refine Y.alen dL_greedyOf_10 q0.hsc (by decide) ?_
    refine I.icmp_ge 99 dL_greedyOf_11 (by decide) (by omega) (by omega) (fun h11 => ?_) (fun h11 => ?_)
    · skip
      exact J.fgt (by exact ⟨Or.inr rfl, Or.inr rfl, Or.inr rfl, Or.inl rfl, Or.inl rfl, Or.inl rfl, trivial⟩) (kx b rfl)
    · exact absurd h11 (by omega)
  | succ k ih =>
    intro c b m hk hc hb hm kx
    refine J.iload dL_greedyOf_7 rfl ?_
    refine J.aload_n 0 dL_greedyOf_9 rfl rfl ?_
    refine Y.alen dL_greedyOf_10 q0.hsc (by decide) ?_
    refine I.icmp_ge 99 dL_greedyOf_11 (by decide) (by omega) (by omega) (fun h11 => ?_) (fun h11 => ?_)
    · exact absurd h11 (by omega)
    · skip
      have at1 := q0.at (c := c) (by omega) (by omega)
      obtain ⟨ea, eb, r, mm, e3, e4, e5, e6, e7, e8, e9⟩ := at1
      have hen := hv'.ends c (by omega) (by omega)
      have he1 : f (37 + c) < 8 := by have := hl'.len (f 1) c hv'.cur.1 hv'.cur.2 (by omega) (by omega); omega
      refine J.aload_n 1 dL_greedyOf_14 rfl rfl ?_
      refine I.iconst dL_greedyOf_15 ?_
      refine J.iload dL_greedyOf_16 rfl ?_
      refine I.mul dL_greedyOf_18 ?_
      refine Y.iald dL_greedyOf_19 q0.hen (by omega) (by omega) ?_
      refine I.sx ea ?_
      refine J.aload_n 1 dL_greedyOf_20 rfl rfl ?_
      refine I.iconst dL_greedyOf_21 ?_
      refine J.iload dL_greedyOf_22 rfl ?_
      refine I.mul dL_greedyOf_24 ?_
      refine I.iconst dL_greedyOf_25 ?_
      refine I.add dL_greedyOf_26 ?_
      refine Y.iald dL_greedyOf_27 q0.hen (by omega) (by omega) ?_
      refine I.sx eb ?_
      refine I.icmp_lt 34 dL_greedyOf_28 (by decide) (by omega) (by omega) (fun h28 => ?_) (fun h28 => ?_)
      · skip
        refine I.iconst dL_greedyOf_34 ?_
        refine J.istore dL_greedyOf_35 (by decide) rfl ?_
        have g1 : 1 < f (37 + c) - f (34 + c) + 1 := by omega
        obtain ⟨bl, br⟩ := gBn_2 (f := f) (c := c) (by omega) (by omega) g1
        have hb1 : gGs f (2 * c + 0) b = -1 ∨ gBn f (gGs f (2 * c + 0) b) := by
          unfold gGs
          rw [show (2 * c + 0) / 2 = c by omega, if_pos g1]
          split
          · rw [Int.add_zero]; exact Or.inr bl
          · exact hb
        have hb2 : gGs f (2 * c + 1) (gGs f (2 * c + 0) b) = -1 ∨ gBn f (gGs f (2 * c + 1) (gGs f (2 * c + 0) b)) := by
          generalize gGs f (2 * c + 0) b = b1 at hb1 ⊢
          unfold gGs
          rw [show (2 * c + 1) / 2 = c by omega, if_pos g1]
          split
          · exact Or.inr br
          · exact hb1
        refine k_gr hl hl' hv' q0 (by omega) (by omega) (Or.inl rfl) g1 hb hm ?_
        refine k_gr hl hl' hv' q0 (by omega) (by omega) (Or.inr rfl) g1 hb1 rfl ?_
        refine J.iload dL_greedyOf_37 rfl ?_
        refine I.iconst dL_greedyOf_39 ?_
        refine I.icmp_ge 93 dL_greedyOf_40 (by decide) (by omega) (by omega) (fun h40 => ?_) (fun h40 => ?_)
        · refine I.iinc dL_greedyOf_93 rfl rfl ?_
          refine J.goto 7 dL_greedyOf_96 (by decide) ?_
          refine J.fgt (by exact ⟨Or.inr rfl, Or.inr rfl, Or.inr rfl, Or.inr rfl, Or.inr rfl, Or.inl rfl, trivial⟩) (ih (c := c + 1) (by omega) (by omega) hb2 rfl fun b' h => kx b' (h.trans ?_))
          rw [show 2 * (k + 1) = 2 * k + 1 + 1 by omega, foldF_s, foldF_s, show (2 * (c + 1) : Int) = 2 * c + 1 + 1 by omega, Int.add_zero]
        · exact absurd h40 (by decide)
      · skip
        refine J.goto 93 dL_greedyOf_31 (by decide) ?_
        refine I.iinc dL_greedyOf_93 rfl rfl ?_
        refine J.goto 7 dL_greedyOf_96 (by decide) ?_
        refine J.fgt (by exact ⟨Or.inr rfl, Or.inr rfl, Or.inr rfl, Or.inr rfl, Or.inr rfl, Or.inl rfl, trivial⟩) (ih (c := c + 1) (by omega) (by omega) hb hm fun b' h => kx b' (h.trans ?_))
        rw [show 2 * (k + 1) = 2 * k + 1 + 1 by omega, foldF_s, foldF_s, show (2 * (c + 1) : Int) = 2 * c + 1 + 1 by omega]
        have x1 : gGs f (2 * c) b = b := by unfold gGs; rw [show (2 * c) / 2 = c by omega, if_neg (by omega)]
        have x2 : gGs f (2 * c + 1) b = b := by unfold gGs; rw [show (2 * c + 1) / 2 = c by omega, if_neg (by omega)]
        rw [x1, x2]
set_option maxHeartbeats 4000000 in
theorem c_greedyOf {Γ : jE} (hl : Γ.1.stackTraces = false) {sh : List (Nat × Nat)} {t : Nat → Nat → Option Nat} {s : Nat → Int → Int} {sc en n : Nat} {f o : Int → Int} {d : Nat} (hl' : FL f) (hv' : FS f) (q0 : BR sh t s sc en n f o) : Con Γ (d, 0, 0) mL_greedyOf [.ref sc, .ref en] (jmx sh t s) (fun v M' => v = some (.int (iI (gGr f))) ∧ M' = jmx sh t s) X0 := by
  refine Con.ofJ (by decide +kernel) (by simp [Value.category]) (Nat.le_of_ble_eq_true rfl) ?_ hl
  have hn3 := q0.n3 hl' hv'
  have hnf := q0.hn
  refine I.iconst dL_greedyOf_0 ?_
  refine J.istore_n 2 dL_greedyOf_1 rfl (by decide) rfl ?_
  refine I.iconst dL_greedyOf_2 ?_
  refine J.istore_n 3 dL_greedyOf_3 rfl (by decide) rfl ?_
  refine I.iconst dL_greedyOf_4 ?_
  refine J.istore dL_greedyOf_5 (by decide) rfl ?_
  refine k_greedyOf hl hl' hv' q0 n (c := 0) (b := -1) (m := -1) (by omega) (by omega) (Or.inl rfl) rfl fun b' hb' => ?_
  refine J.iload_n 2 dL_greedyOf_99 rfl rfl ?_
  refine J.iret rfl dL_greedyOf_100 ⟨?_, rfl⟩
  rw [hb', show 2 * n = (2 * f (18 + f 1)).toNat by omega]
  rfl
