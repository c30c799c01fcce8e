/-- a burn that can be made -/
def gBn (f : Int → Int) (z : Int) : Prop := (0 ≤ z ∧ z / 2 < f (18 + f 1)) ∧ f (34 + z / 2) < f (37 + z / 2)
theorem gBn.ok {f : Int → Int} {z : Int} (h : gBn f z) : gOk f z := Or.inr h.1
section GW
variable {f g : Int → Int} {z : Int}
theorem gRem_ne {j : Int} (h : j ≠ gE z) : gRem f z j = f j := upr_ne h
theorem gE_rng (hc : 1 ≤ f (18 + f 1) ∧ f (18 + f 1) ≤ 3) (h : gBn f z) : 34 ≤ gE z ∧ gE z < 40 ∧ z < 6 := by
  have := h.1
  unfold gE
  omega
theorem gRem_o (hc : 1 ≤ f (18 + f 1) ∧ f (18 + f 1) ≤ 3) (h : gBn f z) {j : Int} (hj : j < 34 ∨ 40 ≤ j) : gRem f z j = f j := gRem_ne (by have := gE_rng hc h; omega)
theorem gRem_lo (h0 : 0 ≤ z ∧ z < 6) {c : Int} (c0 : 0 ≤ c) (c1 : c < 3) : gRem f z (34 + c) = if c = z / 2 ∧ z % 2 = 0 then f (34 + c) + 1 else f (34 + c) := by
  unfold gRem gE
  by_cases h : z % 2 = 0
  · rw [if_pos h, if_pos h]
    by_cases e : c = z / 2
    · rw [if_pos ⟨e, h⟩, upr_eqq (by omega), ← e]
    · rw [if_neg (fun x => e x.1), upr_ne (by omega)]
  · rw [if_neg h, if_neg h, upr_ne (by omega), if_neg (fun x => h x.2)]
theorem gRem_hi (h0 : 0 ≤ z ∧ z < 6) {c : Int} (c0 : 0 ≤ c) (c1 : c < 3) : gRem f z (37 + c) = if c = z / 2 ∧ z % 2 = 1 then f (37 + c) - 1 else f (37 + c) := by
  unfold gRem gE
  by_cases h : z % 2 = 0
  · rw [if_pos h, if_pos h, upr_ne (by omega), if_neg (by omega)]
  · rw [if_neg h, if_neg h]
    by_cases e : c = z / 2
    · rw [if_pos ⟨e, by omega⟩, upr_eqq (by omega), ← e]; omega
    · rw [if_neg (fun x => e x.1), upr_ne (by omega)]
theorem gRem_C (hc : 1 ≤ f (18 + f 1) ∧ f (18 + f 1) ≤ 3) (hu : 0 ≤ f 1 ∧ f 1 < 4) (h : gBn f z) : gRem f z (18 + gRem f z 1) = f (18 + f 1) := by
  rw [gRem_o (j := 1) hc h (by omega)]; exact gRem_o hc h (by omega)
theorem gRem_lay (hc : 1 ≤ f (18 + f 1) ∧ f (18 + f 1) ≤ 3) (h : gBn f z) : gLay f (gRem f z) :=
  ⟨gRem_o hc h (by omega), fun j a b => gRem_o hc h (by omega), fun j a b => gRem_o hc h (by omega)⟩
theorem gRem_cnt (hl : FL f) (hv : FS f) (h : gBn f z) : gBt (gRem f z) = gBt f + 1 ∧ gBurns (gRem f z) = gBurns f - 1 := by
  have hc := hl.ch _ hv.cur.1 hv.cur.2
  have hr := hl.rn
  have hu := hv.cur
  have h6 := (gE_rng hc h).2.2
  have h00 := h.1.1
  unfold gBt gBurns
  rw [gRem_C hc (by omega) h, gRem_o (j := 1) hc h (by omega)]
  unfold gS3
  dsimp only
  rw [gRem_o (j := 22 + 3 * f 1 + 0) hc h (by omega), gRem_o (j := 22 + 3 * f 1 + 1) hc h (by omega), gRem_o (j := 22 + 3 * f 1 + 2) hc h (by omega),
    gRem_lo ⟨h00, h6⟩ (c := 0) (by omega) (by omega), gRem_lo ⟨h00, h6⟩ (c := 1) (by omega) (by omega), gRem_lo ⟨h00, h6⟩ (c := 2) (by omega) (by omega),
    gRem_hi ⟨h00, h6⟩ (c := 0) (by omega) (by omega), gRem_hi ⟨h00, h6⟩ (c := 1) (by omega) (by omega), gRem_hi ⟨h00, h6⟩ (c := 2) (by omega) (by omega)]
  have h1 := h.1.2
  have e2 : z % 2 = 0 ∨ z % 2 = 1 := by omega
  have e3 : z / 2 = 0 ∨ z / 2 = 1 ∨ z / 2 = 2 := by omega
  rcases e3 with e3 | e3 | e3 <;> rcases e2 with e2 | e2 <;> rw [e3] at h1 <;> simp only [e2, e3, true_and, and_true, Int.reduceEq, false_and, and_false, if_false, if_true] <;> constructor <;> (repeat' split) <;> omega
theorem gRem_FL (hl : FL f) (hv : FS f) (h : gBn f z) : FL (gRem f z) := hl.lay (gRem_lay (hl.ch _ hv.cur.1 hv.cur.2) h)
theorem gRem_FS (hl : FL f) (hv : FS f) (h : gBn f z) : FS (gRem f z) := by
  have hc := hl.ch _ hv.cur.1 hv.cur.2
  have hr := hl.rn
  have hu := hv.cur
  have h6 := (gE_rng hc h).2.2
  have h00 := h.1.1
  have hB := (gRem_cnt hl hv h).1
  have hB0 := gBt_rng hl hv
  have o := fun {j : Int} => gRem_o (j := j) hc h
  refine ⟨by rw [o (by omega), o (by omega)]; exact hu, by rw [o (by omega)]; exact hv.turn, by rw [o (by omega)]; exact hv.first, by rw [o (by omega)]; exact hv.passed, ?_, ?_, ?_, ?_, ?_⟩
  · rw [o (j := 5) (by omega), o (j := 4) (by omega), hB]; have := hv.moves; omega
  · intro c c0 c1
    rw [gRem_C hc (by omega) h] at c1
    have e := hv.ends c c0 c1
    rw [gRem_lo ⟨h00, h6⟩ c0 (by omega), gRem_hi ⟨h00, h6⟩ c0 (by omega), o (j := 1) (by omega), o (j := 22 + 3 * f 1 + c) (by omega)]
    have h2 := h.2
    by_cases g : c = z / 2
    · rw [← g] at h2
      (repeat' split) <;> omega
    · rw [if_neg (fun x => g x.1), if_neg (fun x => g x.1)]; exact e
  · intro r p r0 r1 p0 p1
    rw [o (j := 6 + 2 * r + p) (by omega), o (j := 1) (by omega), hB]
    have := hv.sc r p r0 r1 p0 p1
    (repeat' split) <;> (repeat' split at this) <;> omega
  · intro p p0 p1
    rw [o (j := 14 + p) (by omega), o (j := 1) (by omega), hB]
    have := hv.bu p p0 p1
    omega
  · intro i i0 i1
    rw [o (j := 5) (by omega)] at i1
    rw [o (j := 136 + i) (by omega)]
    exact hv.lg i i0 i1
/-- the best of the burns, from a value on -/
def gB (W : (Int → Int) → Int) (f : Int → Int) (k : Nat) (c a : Int) : Int :=
  foldF (fun c a => if 1 < f (37 + c) - f (34 + c) + 1 then max a (max (gPt f (2 * c) - W (gRem f (2 * c))) (gPt f (2 * c + 1) - W (gRem f (2 * c + 1)))) else a) k c a
/-- the value of optimal play -/
def gW : Nat → (Int → Int) → Int
  | 0, _ => 0
  | n + 1, f => gB (gW n) f (f (18 + f 1)).toNat 0 0
def gWf (f : Int → Int) : Int := gW 21 f
theorem gBn_2 {c : Int} (c0 : 0 ≤ c) (c1 : c < f (18 + f 1)) (h : 1 < f (37 + c) - f (34 + c) + 1) : gBn f (2 * c) ∧ gBn f (2 * c + 1) := by
  have e1 : 2 * c / 2 = c := by omega
  have e2 : (2 * c + 1) / 2 = c := by omega
  constructor
  · unfold gBn; rw [e1]; exact ⟨⟨by omega, c1⟩, by omega⟩
  · unfold gBn; rw [e2]; exact ⟨⟨by omega, c1⟩, by omega⟩
theorem gB_congr {W V : (Int → Int) → Int} : ∀ (k : Nat) (c a : Int), 0 ≤ c → c + k ≤ f (18 + f 1) → (∀ z, gBn f z → W (gRem f z) = V (gRem f z)) → gB W f k c a = gB V f k c a
  | 0, c, a, _, _, _ => rfl
  | k + 1, c, a, c0, ck, h => by
    unfold gB
    rw [foldF_s, foldF_s]
    by_cases g : 1 < f (37 + c) - f (34 + c) + 1
    · rw [if_pos g, if_pos g]
      obtain ⟨b1, b2⟩ := gBn_2 c0 (by omega) g
      rw [h _ b1, h _ b2]
      exact gB_congr k (c + 1) _ (by omega) (by omega) h
    · rw [if_neg g, if_neg g]
      exact gB_congr k (c + 1) _ (by omega) (by omega) h
theorem gB_short {W : (Int → Int) → Int} (hs : gShort f) : ∀ (k : Nat) (c a : Int), 0 ≤ c → c + k ≤ f (18 + f 1) → gB W f k c a = a
  | 0, c, a, _, _ => rfl
  | k + 1, c, a, c0, ck => by
    unfold gB
    rw [foldF_s, if_neg (by have := hs c c0 (by omega); omega)]
    exact gB_short hs k (c + 1) a (by omega) (by omega)
theorem gBurns_short (hl : FL f) (hv : FS f) (h : gBurns f ≤ 0) : gShort f := by
  have hc := hl.ch _ hv.cur.1 hv.cur.2
  have e := hv.ends
  unfold gBurns gS3 at h
  dsimp only at h
  intro c c0 c1
  have e0 := fun x => e 0 (by omega) x
  have e1 := fun x => e 1 (by omega) x
  have e2 := fun x => e 2 (by omega) x
  rw [if_pos (by omega)] at h
  have := e0 (by omega)
  by_cases g1 : 1 < f (18 + f 1)
  · have := e1 g1
    rw [if_pos g1] at h
    by_cases g2 : 2 < f (18 + f 1)
    · have := e2 g2
      rw [if_pos g2] at h
      have hcc : c = 0 ∨ c = 1 ∨ c = 2 := by omega
      rcases hcc with rfl | rfl | rfl <;> omega
    · rw [if_neg g2] at h
      have hcc : c = 0 ∨ c = 1 := by omega
      rcases hcc with rfl | rfl <;> omega
  · rw [if_neg g1, if_neg (by omega)] at h
    have hcc : c = 0 := by omega
    subst hcc; omega
theorem gBurns_rng (hl : FL f) (hv : FS f) : 0 ≤ gBurns f ∧ gBurns f ≤ 21 := by
  have hc := hl.ch _ hv.cur.1 hv.cur.2
  have e0 := fun x => hv.e hl 0 (by omega) x
  have e1 := fun x => hv.e hl 1 (by omega) x
  have e2 := fun x => hv.e hl 2 (by omega) x
  unfold gBurns gS3
  dsimp only
  rw [if_pos (by omega)]
  have := e0 (by omega)
  by_cases g1 : 1 < f (18 + f 1)
  · have := e1 g1
    rw [if_pos g1]
    by_cases g2 : 2 < f (18 + f 1)
    · have := e2 g2
      rw [if_pos g2]; omega
    · rw [if_neg g2]; omega
  · rw [if_neg g1, if_neg (by omega)]; omega
theorem gW_stable : ∀ (n : Nat) {f : Int → Int}, FL f → FS f → gBurns f ≤ n → gW (n + 1) f = gW n f
  | 0, f, hl, hv, h => by
    have hc := hl.ch _ hv.cur.1 hv.cur.2
    exact gB_short (gBurns_short hl hv (by omega)) _ 0 0 (by omega) (by omega)
  | n + 1, f, hl, hv, h => by
    have hc := hl.ch _ hv.cur.1 hv.cur.2
    refine gB_congr _ 0 0 (by omega) (by omega) fun z hz => ?_
    exact gW_stable n (gRem_FL hl hv hz) (gRem_FS hl hv hz) (by rw [(gRem_cnt hl hv hz).2]; omega)
theorem gWf_eq (hl : FL f) (hv : FS f) : gWf f = gB gWf f (f (18 + f 1)).toNat 0 0 := by
  have := gBurns_rng hl hv
  exact (gW_stable 21 hl hv (by omega)).symm
theorem gB_low {W : (Int → Int) → Int} : ∀ (k : Nat) (c a : Int), a ≤ gB W f k c a
  | 0, c, a => Int.le_refl _
  | k + 1, c, a => by
    unfold gB
    rw [foldF_s]
    by_cases g : 1 < f (37 + c) - f (34 + c) + 1
    · rw [if_pos g]
      have := gB_low (W := W) k (c + 1) (max a (max (gPt f (2 * c) - W (gRem f (2 * c))) (gPt f (2 * c + 1) - W (gRem f (2 * c + 1)))))
      unfold gB at this
      omega
    · rw [if_neg g]; exact gB_low k (c + 1) a
theorem gW_rng : ∀ (n : Nat) {f : Int → Int}, FL f → FS f → 0 ≤ gW n f ∧ gW n f ≤ 24
  | 0, f, _, _ => ⟨Int.le_refl _, by show (0 : Int) ≤ 24; decide⟩
  | n + 1, f, hl, hv => by
    have hc := hl.ch _ hv.cur.1 hv.cur.2
    have key : ∀ (k : Nat) (c a : Int), 0 ≤ c → c + k ≤ f (18 + f 1) → 0 ≤ a ∧ a ≤ 24 → 0 ≤ gB (gW n) f k c a ∧ gB (gW n) f k c a ≤ 24 := by
      intro k
      induction k with
      | zero => intro c a _ _ h; exact h
      | succ k ih =>
        intro c a c0 ck h
        unfold gB
        rw [foldF_s]
        by_cases g : 1 < f (37 + c) - f (34 + c) + 1
        · rw [if_pos g]
          obtain ⟨b1, b2⟩ := gBn_2 c0 (by omega) g
          have p1 := gPt_rng hl hv b1.ok
          have p2 := gPt_rng hl hv b2.ok
          have w1 := gW_rng n (gRem_FL hl hv b1) (gRem_FS hl hv b1)
          have w2 := gW_rng n (gRem_FL hl hv b2) (gRem_FS hl hv b2)
          exact ih (c + 1) _ (by omega) (by omega) (by omega)
        · rw [if_neg g]; exact ih (c + 1) a (by omega) (by omega) h
    exact key _ 0 0 (by omega) (by omega) (by omega)
theorem gWf_rng (hl : FL f) (hv : FS f) : 0 ≤ gWf f ∧ gWf f ≤ 24 := gW_rng 21 hl hv
/-- with the pass as the first choice the value is the same -/
theorem gB_neg (hl : FL f) (hv : FS f) (hs : ¬ gShort f) : gB gWf f (f (18 + f 1)).toNat 0 (-gWf f) = gWf f := by
  have hc := hl.ch _ hv.cur.1 hv.cur.2
  have hw := gWf_rng hl hv
  -- the best burn, and nothing else
  have key : ∀ (k : Nat) (c : Int), 0 ≤ c → c + k ≤ f (18 + f 1) → (∃ x, c ≤ x ∧ x < c + k ∧ 1 < f (37 + x) - f (34 + x) + 1) → ∃ M, ∀ a, gB gWf f k c a = max a M := by
    intro k
    induction k with
    | zero => rintro c _ _ ⟨x, h1, h2, -⟩; omega
    | succ k ih =>
      rintro c c0 ck ⟨x, h1, h2, h3⟩
      by_cases hx : ∃ x, c + 1 ≤ x ∧ x < c + 1 + k ∧ 1 < f (37 + x) - f (34 + x) + 1
      · obtain ⟨M, hM⟩ := ih (c + 1) (by omega) (by omega) hx
        by_cases g : 1 < f (37 + c) - f (34 + c) + 1
        · refine ⟨max (max (gPt f (2 * c) - gWf (gRem f (2 * c))) (gPt f (2 * c + 1) - gWf (gRem f (2 * c + 1)))) M, fun a => ?_⟩
          have := hM (max a (max (gPt f (2 * c) - gWf (gRem f (2 * c))) (gPt f (2 * c + 1) - gWf (gRem f (2 * c + 1)))))
          unfold gB at this ⊢
          rw [foldF_s, if_pos g, this, Int.max_assoc]
        · refine ⟨M, fun a => ?_⟩
          have := hM a
          unfold gB at this ⊢
          rw [foldF_s, if_neg g, this]
      · have g : 1 < f (37 + c) - f (34 + c) + 1 := by
          by_cases e : x = c
          · rw [← e]; exact h3
          · exact absurd ⟨x, by omega, by omega, h3⟩ hx
        have hn : ∀ a, gB gWf f k (c + 1) a = a := by
          intro a
          have : ∀ (k' : Nat) (c' : Int), c + 1 ≤ c' → c' + k' ≤ c + 1 + k → gB gWf f k' c' a = a := by
            intro k'
            induction k' with
            | zero => intro c' _ _; rfl
            | succ k' ih' =>
              intro c' h1 h2
              unfold gB
              rw [foldF_s, if_neg (fun e => hx ⟨c', h1, by omega, e⟩)]
              exact ih' (c' + 1) (by omega) (by omega)
          exact this k (c + 1) (by omega) (by omega)
        refine ⟨max (gPt f (2 * c) - gWf (gRem f (2 * c))) (gPt f (2 * c + 1) - gWf (gRem f (2 * c + 1))), fun a => ?_⟩
        have := hn (max a (max (gPt f (2 * c) - gWf (gRem f (2 * c))) (gPt f (2 * c + 1) - gWf (gRem f (2 * c + 1)))))
        unfold gB at this ⊢
        rw [foldF_s, if_pos g, this]
  have hx : ∃ x, 0 ≤ x ∧ x < 0 + (((f (18 + f 1)).toNat : Nat) : Int) ∧ 1 < f (37 + x) - f (34 + x) + 1 := by
    apply Classical.byContradiction
    intro hn
    exact hs fun c c0 c1 => Classical.byContradiction fun g => hn ⟨c, c0, by omega, by omega⟩
  obtain ⟨M, hM⟩ := key (f (18 + f 1)).toNat 0 (by omega) (by omega) hx
  have e := gWf_eq hl hv
  rw [hM] at e ⊢
  omega
end GW
