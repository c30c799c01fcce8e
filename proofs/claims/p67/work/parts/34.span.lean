/-- spans of a chain, numbered -/
def gTri (h : Int) : Int := h * (h + 1) / 2
theorem gTri_c {h : Int} (h0 : 0 ≤ h) (h1 : h ≤ 8) : (h = 0 ∧ gTri h = 0) ∨ (h = 1 ∧ gTri h = 1) ∨ (h = 2 ∧ gTri h = 3) ∨ (h = 3 ∧ gTri h = 6) ∨ (h = 4 ∧ gTri h = 10) ∨ (h = 5 ∧ gTri h = 15) ∨ (h = 6 ∧ gTri h = 21) ∨ (h = 7 ∧ gTri h = 28) ∨ (h = 8 ∧ gTri h = 36) := by
  have e : h = 0 ∨ h = 1 ∨ h = 2 ∨ h = 3 ∨ h = 4 ∨ h = 5 ∨ h = 6 ∨ h = 7 ∨ h = 8 := by omega
  rcases e with rfl | rfl | rfl | rfl | rfl | rfl | rfl | rfl | rfl <;> simp [gTri]
def gSp (lo hi : Int) : Int := gTri hi + hi - lo
theorem gSp_rng {lo hi n : Int} (h0 : 0 ≤ lo) (h1 : lo ≤ hi) (h2 : hi < n) (h3 : n ≤ 8) : 0 ≤ gSp lo hi ∧ gSp lo hi < gTri n := by
  have a := gTri_c (h := hi) (by omega) (by omega)
  have b := gTri_c (h := n) (by omega) (by omega)
  unfold gSp
  omega
theorem gSp_inj {lo hi lo' hi' : Int} (h0 : 0 ≤ lo) (h1 : lo ≤ hi) (h2 : hi ≤ 7) (g0 : 0 ≤ lo') (g1 : lo' ≤ hi') (g2 : hi' ≤ 7) (e : gSp lo hi = gSp lo' hi') : lo = lo' ∧ hi = hi' := by
  have a := gTri_c (h := hi) (by omega) (by omega)
  have b := gTri_c (h := hi') (by omega) (by omega)
  unfold gSp at e
  omega
theorem gSp_ex {n x : Int} (h0 : 1 ≤ n) (h1 : n ≤ 8) (h2 : 0 ≤ x) (h3 : x < gTri n) : ∃ lo hi, 0 ≤ lo ∧ lo ≤ hi ∧ hi < n ∧ gSp lo hi = x := by
  have b := gTri_c (h := n) (by omega) (by omega)
  have k : ∀ hi, 0 ≤ hi → hi ≤ 7 → gTri hi ≤ x → x ≤ gTri hi + hi → hi < n → ∃ lo hi, 0 ≤ lo ∧ lo ≤ hi ∧ hi < n ∧ gSp lo hi = x := fun hi a c d e g => ⟨gTri hi + hi - x, hi, by omega, by omega, g, by unfold gSp; omega⟩
  have t : gTri 0 = 0 ∧ gTri 1 = 1 ∧ gTri 2 = 3 ∧ gTri 3 = 6 ∧ gTri 4 = 10 ∧ gTri 5 = 15 ∧ gTri 6 = 21 ∧ gTri 7 = 28 := by decide
  by_cases x0 : x < 1
  · exact k 0 (by omega) (by omega) (by omega) (by omega) (by omega)
  by_cases x1 : x < 3
  · exact k 1 (by omega) (by omega) (by omega) (by omega) (by omega)
  by_cases x2 : x < 6
  · exact k 2 (by omega) (by omega) (by omega) (by omega) (by omega)
  by_cases x3 : x < 10
  · exact k 3 (by omega) (by omega) (by omega) (by omega) (by omega)
  by_cases x4 : x < 15
  · exact k 4 (by omega) (by omega) (by omega) (by omega) (by omega)
  by_cases x5 : x < 21
  · exact k 5 (by omega) (by omega) (by omega) (by omega) (by omega)
  by_cases x6 : x < 28
  · exact k 6 (by omega) (by omega) (by omega) (by omega) (by omega)
  · exact k 7 (by omega) (by omega) (by omega) (by omega) (by omega)
/-- a chain's tiles at first, one where there is no chain -/
def gLn (f : Int → Int) (r c : Int) : Int := if c < f (18 + r) then f (22 + 3 * r + c) else 1
def gN (f : Int → Int) (r c : Int) : Int := gTri (gLn f r c)
def gWt (f : Int → Int) (r c : Int) : Int := if c = 0 then gN f r 2 * gN f r 1 else if c = 1 then gN f r 2 else 1
/-- ends: e c and e (3 + c) -/
def EV (f : Int → Int) (r : Int) (e : Int → Int) : Prop := ∀ c, 0 ≤ c → c < 3 → 0 ≤ e c ∧ e c ≤ e (3 + c) ∧ e (3 + c) < gLn f r c
def gPl (f : Int → Int) (r : Int) (e : Int → Int) : Int := gSp (e 0) (e 3) * gWt f r 0 + gSp (e 1) (e 4) * gWt f r 1 + gSp (e 2) (e 5) * gWt f r 2
/-- the row with these ends, and no move made -/
def gCan (f : Int → Int) (r : Int) (e : Int → Int) : Int → Int := fun j => if j = 1 then r else if j = 0 ∨ 18 ≤ j ∧ j < 34 ∨ 40 ≤ j ∧ j < 136 then f j else if 34 ≤ j ∧ j < 40 then e (j - 34) else 0
theorem gCan_1 {f : Int → Int} {r : Int} {e : Int → Int} : gCan f r e 1 = r := if_pos rfl
theorem gCan_o {f : Int → Int} {r : Int} {e : Int → Int} {j : Int} (h : j = 0 ∨ 18 ≤ j ∧ j < 34 ∨ 40 ≤ j ∧ j < 136) : gCan f r e j = f j := (if_neg (by omega)).trans (if_pos h)
theorem gCan_lo {f : Int → Int} {r : Int} {e : Int → Int} {c : Int} (h : 0 ≤ c ∧ c < 3) : gCan f r e (34 + c) = e c := (if_neg (by omega)).trans ((if_neg (by omega)).trans ((if_pos (by omega)).trans (by rw [show 34 + c - 34 = c by omega])))
theorem gCan_hi {f : Int → Int} {r : Int} {e : Int → Int} {c : Int} (h : 0 ≤ c ∧ c < 3) : gCan f r e (37 + c) = e (3 + c) := (if_neg (by omega)).trans ((if_neg (by omega)).trans ((if_pos (by omega)).trans (by rw [show 37 + c - 34 = 3 + c by omega])))
theorem gCan_z {f : Int → Int} {r : Int} {e : Int → Int} {j : Int} (h : 2 ≤ j ∧ j < 18 ∨ 136 ≤ j) : gCan f r e j = 0 := (if_neg (by omega)).trans ((if_neg (by omega)).trans (if_neg (by omega)))
theorem gCan_ext {f g : Int → Int} {r : Int} {e e' : Int → Int} (hl : gLay f g) (h : ∀ c, 0 ≤ c → c < 6 → e' c = e c) : gCan g r e' = gCan f r e := by
  funext j
  unfold gCan
  by_cases a : j = 1
  · rw [if_pos a, if_pos a]
  · rw [if_neg a, if_neg a]
    by_cases b : j = 0 ∨ 18 ≤ j ∧ j < 34 ∨ 40 ≤ j ∧ j < 136
    · rw [if_pos b, if_pos b]
      rcases b with rfl | b | b
      · exact hl.1
      · exact hl.2.1 j b.1 b.2
      · exact hl.2.2 j b.1 b.2
    · rw [if_neg b, if_neg b]
      by_cases c : 34 ≤ j ∧ j < 40
      · rw [if_pos c, if_pos c]; exact h _ (by omega) (by omega)
      · rw [if_neg c, if_neg c]
section GC
variable {f : Int → Int} {r : Int} {e : Int → Int}
theorem gLn_rng (hl : FL f) (hr : 0 ≤ r ∧ r < f 0) {c : Int} (c0 : 0 ≤ c) : 1 ≤ gLn f r c ∧ gLn f r c ≤ 8 := by
  unfold gLn
  split
  · exact hl.len r c hr.1 hr.2 c0 (by assumption)
  · omega
theorem gN_rng (hl : FL f) (hr : 0 ≤ r ∧ r < f 0) {c : Int} (c0 : 0 ≤ c) : 1 ≤ gN f r c ∧ gN f r c ≤ 36 := by
  have a := gLn_rng hl hr c0
  have b := gTri_c (h := gLn f r c) (by omega) (by omega)
  unfold gN
  omega
theorem gCan_lay (f : Int → Int) (r : Int) (e : Int → Int) : gLay f (gCan f r e) := ⟨gCan_o (by omega), fun j a b => gCan_o (by omega), fun j a b => gCan_o (by omega)⟩
theorem gCan_C (hr : 0 ≤ r ∧ r < 4) : gCan f r e (18 + gCan f r e 1) = f (18 + r) := by rw [gCan_1]; exact gCan_o (by omega)
theorem EV.in (he : EV f r e) {c : Int} (c0 : 0 ≤ c) (c1 : c < 3) (c2 : c < f (18 + r)) : 0 ≤ e c ∧ e c ≤ e (3 + c) ∧ e (3 + c) < f (22 + 3 * r + c) := by
  have := he c c0 c1
  unfold gLn at this
  rw [if_pos c2] at this
  exact this
theorem EV.out (he : EV f r e) {c : Int} (c0 : 0 ≤ c) (c1 : c < 3) (c2 : f (18 + r) ≤ c) : e c = 0 ∧ e (3 + c) = 0 := by
  have := he c c0 c1
  unfold gLn at this
  rw [if_neg (by omega)] at this
  omega
theorem gCan_FL (hl : FL f) : FL (gCan f r e) := hl.lay (gCan_lay f r e)
theorem gCan_Bt (hl : FL f) (hr : 0 ≤ r ∧ r < f 0) (he : EV f r e) : 0 ≤ gBt (gCan f r e) := by
  have hc := hl.ch r hr.1 hr.2
  have h4 := hl.rn
  have k : ∀ c, 0 ≤ c → c < 3 → c < f (18 + r) → 0 ≤ gCan f r e (22 + 3 * gCan f r e 1 + c) - 1 - (gCan f r e (37 + c) - gCan f r e (34 + c)) := fun c c0 c1 c2 => by
    have := he.in c0 c1 c2
    rw [gCan_1, gCan_lo ⟨c0, c1⟩, gCan_hi ⟨c0, c1⟩, gCan_o (by omega)]
    omega
  unfold gBt gS3
  rw [gCan_C (by omega)]
  have k0 := k 0 (by omega) (by omega)
  have k1 := k 1 (by omega) (by omega)
  have k2 := k 2 (by omega) (by omega)
  dsimp only
  (repeat' split) <;> omega
theorem gCan_FS (hl : FL f) (hr : 0 ≤ r ∧ r < f 0) (he : EV f r e) : FS (gCan f r e) := by
  have hc := hl.ch r hr.1 hr.2
  have h4 := hl.rn
  have bt := gCan_Bt hl hr he
  have z : ∀ {j : Int}, (2 ≤ j ∧ j < 18 ∨ 136 ≤ j) → gCan f r e j = 0 := fun h => gCan_z h
  refine ⟨by rw [gCan_1, gCan_o (by omega)]; exact hr, by rw [z (by omega)]; omega, by rw [z (by omega)]; omega, by rw [z (by omega)]; omega, ?_, fun c c0 c1 => ?_, fun q p r0 r1 p0 p1 => ?_, fun p p0 p1 => ?_, fun i i0 i1 => ?_⟩
  · rw [z (j := 5) (by omega), z (j := 4) (by omega)]; omega
  · rw [gCan_C (by omega)] at c1
    have := he.in c0 (by omega) c1
    rw [gCan_1, gCan_lo (by omega), gCan_hi (by omega), gCan_o (by omega)]
    exact this
  · rw [z (by omega)]
    refine ⟨by omega, ?_⟩
    (repeat' split) <;> omega
  · rw [z (by omega), gCan_1]; omega
  · rw [z (j := 5) (by omega)] at i1; omega
/-- the ends of a row -/
def eOf (f : Int → Int) : Int → Int := fun j => if j < 3 then (if j < f (18 + f 1) then f (34 + j) else 0) else (if j - 3 < f (18 + f 1) then f (34 + j) else 0)
theorem eOf_lo {c : Int} (h : c < 3) : eOf f c = if c < f (18 + f 1) then f (34 + c) else 0 := if_pos h
theorem eOf_hi {c : Int} (h : 0 ≤ c) : eOf f (3 + c) = if c < f (18 + f 1) then f (37 + c) else 0 := by
  unfold eOf
  rw [if_neg (by omega), show 3 + c - 3 = c by omega, show (34 : Int) + (3 + c) = 37 + c by omega]
theorem eOf_EV (hl : FL f) (hv : FS f) : EV f (f 1) (eOf f) := fun c c0 c1 => by
  rw [eOf_lo c1, eOf_hi c0]
  unfold gLn
  by_cases h : c < f (18 + f 1)
  · rw [if_pos h, if_pos h, if_pos h]; exact hv.ends c c0 h
  · rw [if_neg h, if_neg h, if_neg h]; omega
theorem eOf_eqv (hl : FL f) (hv : FS f) : gEqv f (gCan f (f 1) (eOf f)) := by
  have hc := hl.ch _ hv.cur.1 hv.cur.2
  have h4 := hl.rn
  have hu := hv.cur
  refine ⟨gCan_1, gCan_o (by omega), fun j a b => gCan_o (by omega), fun c c0 c1 => Or.inl ?_⟩
  rw [gCan_lo (by omega), gCan_hi (by omega), eOf_lo (by omega), eOf_hi c0, if_pos c1, if_pos c1]
  exact ⟨rfl, rfl⟩
/-- an end of e moved -/
def eUp (e : Int → Int) (j by' : Int) : Int → Int := fun i => if i = j then e i + by' else e i
theorem eUp_EV (he : EV f r e) {c : Int} (c0 : 0 ≤ c) (c1 : c < 3) (hb : e c < e (3 + c)) : EV f r (eUp e c 1) ∧ EV f r (eUp e (3 + c) (-1)) := by
  constructor
  · intro x x0 x1
    have := he x x0 x1
    unfold eUp
    rw [if_neg (show ¬ 3 + x = c by omega)]
    by_cases q : x = c
    · subst q; rw [if_pos rfl]; omega
    · rw [if_neg q]; exact this
  · intro x x0 x1
    have := he x x0 x1
    unfold eUp
    rw [if_neg (show ¬ x = 3 + c by omega)]
    by_cases q : x = c
    · subst q; rw [if_pos rfl]; omega
    · rw [if_neg (show ¬ 3 + x = 3 + c by omega)]; exact this
theorem gRem_can {c : Int} (c0 : 0 ≤ c) (c1 : c < 3) : gRem (gCan f r e) (2 * c) = gCan f r (eUp e c 1) ∧ gRem (gCan f r e) (2 * c + 1) = gCan f r (eUp e (3 + c) (-1)) := by
  have a : gE (2 * c) = 34 + c := by unfold gE; rw [if_pos (by omega)]; omega
  have b : gE (2 * c + 1) = 37 + c := by unfold gE; rw [if_neg (by omega)]; omega
  constructor
  · funext j
    unfold gRem
    rw [a, if_pos (by omega)]
    by_cases q : j = 34 + c
    · subst q; rw [upr_eqq rfl, gCan_lo (by omega), gCan_lo (by omega)]; unfold eUp; rw [if_pos rfl]
    · rw [upr_ne q]
      by_cases q2 : 34 ≤ j ∧ j < 40
      · have x : ∀ e', gCan f r e' j = e' (j - 34) := fun e' => (if_neg (by omega)).trans ((if_neg (by omega)).trans (if_pos q2))
        rw [x, x]; unfold eUp; rw [if_neg (by omega)]
      · unfold gCan
        (repeat' split) <;> first | rfl | omega
  · funext j
    unfold gRem
    rw [b, if_neg (by omega)]
    by_cases q : j = 37 + c
    · subst q; rw [upr_eqq rfl, gCan_hi (by omega), gCan_hi (by omega)]; unfold eUp; rw [if_pos rfl]
    · rw [upr_ne q]
      by_cases q2 : 34 ≤ j ∧ j < 40
      · have x : ∀ e', gCan f r e' j = e' (j - 34) := fun e' => (if_neg (by omega)).trans ((if_neg (by omega)).trans (if_pos q2))
        rw [x, x]; unfold eUp; rw [if_neg (by omega)]
      · unfold gCan
        (repeat' split) <;> first | rfl | omega
theorem gPl_up {c : Int} (c0 : 0 ≤ c) (c1 : c < 3) (hb : 0 ≤ e c ∧ e c < e (3 + c) ∧ e (3 + c) ≤ 7) : gPl f r (eUp e c 1) = gPl f r e - gWt f r c ∧ gPl f r (eUp e (3 + c) (-1)) = gPl f r e - gWt f r c * (e (3 + c) + 1) := by
  have s1 : gSp (e c + 1) (e (3 + c)) = gSp (e c) (e (3 + c)) - 1 := by unfold gSp; omega
  have s2 : gSp (e c) (e (3 + c) + -1) = gSp (e c) (e (3 + c)) - (e (3 + c) + 1) := by
    have a := gTri_c (h := e (3 + c)) (by omega) (by omega)
    have b := gTri_c (h := e (3 + c) + -1) (by omega) (by omega)
    unfold gSp; omega
  have cc : c = 0 ∨ c = 1 ∨ c = 2 := by omega
  unfold gPl eUp
  have m1 : ∀ x w : Int, (x - 1) * w = x * w - w := fun x w => by rw [Int.sub_mul, Int.one_mul]
  have m2 : ∀ x y w : Int, (x - (y + 1)) * w = x * w - w * (y + 1) := fun x y w => by rw [Int.sub_mul, Int.mul_comm (y + 1) w]
  rcases cc with rfl | rfl | rfl
  · simp only [show (3 : Int) + 0 = 3 from rfl] at s1 s2 ⊢
    refine ⟨?_, ?_⟩
    · simp only [show ¬ (3 : Int) = 0 by decide, show ¬ (1 : Int) = 0 by decide, show ¬ (4 : Int) = 0 by decide, show ¬ (2 : Int) = 0 by decide, show ¬ (5 : Int) = 0 by decide, if_true, if_false]
      rw [s1, m1]; omega
    · simp only [show ¬ (0 : Int) = 3 by decide, show ¬ (1 : Int) = 3 by decide, show ¬ (4 : Int) = 3 by decide, show ¬ (2 : Int) = 3 by decide, show ¬ (5 : Int) = 3 by decide, if_true, if_false]
      rw [s2, m2]; omega
  · simp only [show (3 : Int) + 1 = 4 from rfl] at s1 s2 ⊢
    refine ⟨?_, ?_⟩
    · simp only [show ¬ (0 : Int) = 1 by decide, show ¬ (3 : Int) = 1 by decide, show ¬ (4 : Int) = 1 by decide, show ¬ (2 : Int) = 1 by decide, show ¬ (5 : Int) = 1 by decide, if_true, if_false]
      rw [s1, m1]; omega
    · simp only [show ¬ (0 : Int) = 4 by decide, show ¬ (3 : Int) = 4 by decide, show ¬ (1 : Int) = 4 by decide, show ¬ (2 : Int) = 4 by decide, show ¬ (5 : Int) = 4 by decide, if_true, if_false]
      rw [s2, m2]; omega
  · simp only [show (3 : Int) + 2 = 5 from rfl] at s1 s2 ⊢
    refine ⟨?_, ?_⟩
    · simp only [show ¬ (0 : Int) = 2 by decide, show ¬ (3 : Int) = 2 by decide, show ¬ (1 : Int) = 2 by decide, show ¬ (4 : Int) = 2 by decide, show ¬ (5 : Int) = 2 by decide, if_true, if_false]
      rw [s1, m1]; omega
    · simp only [show ¬ (0 : Int) = 5 by decide, show ¬ (3 : Int) = 5 by decide, show ¬ (1 : Int) = 5 by decide, show ¬ (4 : Int) = 5 by decide, show ¬ (2 : Int) = 5 by decide, if_true, if_false]
      rw [s2, m2]; omega
/-- numbers by mixed digits -/
theorem mix_inj {a b a' b' n : Int} (h0 : 0 ≤ b) (h1 : b < n) (g0 : 0 ≤ b') (g1 : b' < n) (e : a * n + b = a' * n + b') : a = a' ∧ b = b' := by
  have k : ∀ x y : Int, x + 1 ≤ y → x * n + n ≤ y * n := fun x y h => by
    have := Int.mul_le_mul_of_nonneg_right h (show 0 ≤ n by omega)
    rw [Int.add_mul, Int.one_mul] at this
    exact this
  by_cases p : a + 1 ≤ a'
  · have := k a a' p; omega
  · by_cases q : a' + 1 ≤ a
    · have := k a' a q; omega
    · have : a = a' := by omega
      subst this; omega
theorem mix_lt {a b n m : Int} (h0 : 0 ≤ b) (h1 : b < n) (g0 : 0 ≤ a) (g1 : a < m) : 0 ≤ a * n + b ∧ a * n + b < m * n := by
  have h := Int.mul_le_mul_of_nonneg_right (show a + 1 ≤ m by omega) (show 0 ≤ n by omega)
  rw [Int.add_mul, Int.one_mul] at h
  have := Int.mul_nonneg g0 (show 0 ≤ n by omega)
  omega
theorem gPl_mix : gPl f r e = (gSp (e 0) (e 3) * gN f r 1 + gSp (e 1) (e 4)) * gN f r 2 + gSp (e 2) (e 5) := by
  unfold gPl gWt
  simp only [show ¬ (1 : Int) = 0 by decide, show ¬ (2 : Int) = 0 by decide, show ¬ (2 : Int) = 1 by decide, if_true, if_false]
  rw [Int.add_mul, Int.mul_one, Int.mul_comm (gN f r 2) (gN f r 1), Int.mul_assoc]
theorem EV.sp (hl : FL f) (hr : 0 ≤ r ∧ r < f 0) (he : EV f r e) : (0 ≤ gSp (e 0) (e 3) ∧ gSp (e 0) (e 3) < gN f r 0) ∧ (0 ≤ gSp (e 1) (e 4) ∧ gSp (e 1) (e 4) < gN f r 1) ∧ 0 ≤ gSp (e 2) (e 5) ∧ gSp (e 2) (e 5) < gN f r 2 := by
  have a := he 0 (by omega) (by omega)
  have b := he 1 (by omega) (by omega)
  have c := he 2 (by omega) (by omega)
  have la := gLn_rng hl hr (c := 0) (by omega)
  have lb := gLn_rng hl hr (c := 1) (by omega)
  have lc := gLn_rng hl hr (c := 2) (by omega)
  exact ⟨gSp_rng a.1 a.2.1 a.2.2 la.2, gSp_rng b.1 b.2.1 b.2.2 lb.2, gSp_rng c.1 c.2.1 c.2.2 lc.2⟩
def gPn (f : Int → Int) (r : Int) : Int := gN f r 2 * gN f r 1 * gN f r 0
theorem gPl_rng (hl : FL f) (hr : 0 ≤ r ∧ r < f 0) (he : EV f r e) : 0 ≤ gPl f r e ∧ gPl f r e < gPn f r := by
  obtain ⟨a, b, c⟩ := he.sp hl hr
  have x := mix_lt b.1 b.2 a.1 a.2
  have y := mix_lt c.1 c.2 x.1 x.2
  rw [gPl_mix]
  unfold gPn
  rw [show gN f r 2 * gN f r 1 * gN f r 0 = gN f r 0 * gN f r 1 * gN f r 2 by rw [Int.mul_comm (gN f r 2 * gN f r 1), Int.mul_comm (gN f r 2), Int.mul_assoc]]
  exact y
theorem gPn_rng (hl : FL f) (hr : 0 ≤ r ∧ r < f 0) : 1 ≤ gPn f r ∧ gPn f r ≤ 46656 := by
  have a := gN_rng hl hr (c := 0) (by omega)
  have b := gN_rng hl hr (c := 1) (by omega)
  have c := gN_rng hl hr (c := 2) (by omega)
  unfold gPn
  have k1 := Int.mul_le_mul c.2 b.2 (by omega) (by omega)
  have k2 := Int.mul_le_mul k1 a.2 (by omega) (by omega)
  have k3 := Int.mul_le_mul c.1 b.1 (by omega) (by omega)
  have k4 := Int.mul_le_mul k3 a.1 (by omega) (by omega)
  omega
theorem gPl_inj (hl : FL f) (hr : 0 ≤ r ∧ r < f 0) {e' : Int → Int} (he : EV f r e) (he' : EV f r e') (h : gPl f r e = gPl f r e') : ∀ c, 0 ≤ c → c < 6 → e' c = e c := by
  obtain ⟨a, b, c⟩ := he.sp hl hr
  obtain ⟨a', b', c'⟩ := he'.sp hl hr
  rw [gPl_mix, gPl_mix] at h
  have x := mix_inj c.1 c.2 c'.1 c'.2 h
  have y := mix_inj b.1 b.2 b'.1 b'.2 x.1
  have la := gLn_rng hl hr (c := 0) (by omega)
  have lb := gLn_rng hl hr (c := 1) (by omega)
  have lc := gLn_rng hl hr (c := 2) (by omega)
  have p0 := he 0 (by omega) (by omega)
  have p1 := he 1 (by omega) (by omega)
  have p2 := he 2 (by omega) (by omega)
  have q0 := he' 0 (by omega) (by omega)
  have q1 := he' 1 (by omega) (by omega)
  have q2 := he' 2 (by omega) (by omega)
  simp only [show (3 : Int) + 0 = 3 from rfl, show (3 : Int) + 1 = 4 from rfl, show (3 : Int) + 2 = 5 from rfl] at p0 p1 p2 q0 q1 q2
  have i0 := gSp_inj p0.1 p0.2.1 (by omega) q0.1 q0.2.1 (by omega) y.1
  have i1 := gSp_inj p1.1 p1.2.1 (by omega) q1.1 q1.2.1 (by omega) y.2
  have i2 := gSp_inj p2.1 p2.2.1 (by omega) q2.1 q2.2.1 (by omega) x.2
  intro c c0 c1
  have cc : c = 0 ∨ c = 1 ∨ c = 2 ∨ c = 3 ∨ c = 4 ∨ c = 5 := by omega
  rcases cc with rfl | rfl | rfl | rfl | rfl | rfl
  · exact i0.1.symm
  · exact i1.1.symm
  · exact i2.1.symm
  · exact i0.2.symm
  · exact i1.2.symm
  · exact i2.2.symm
/-- ends out of digits -/
theorem EV.ex (hl : FL f) (hr : 0 ≤ r ∧ r < f 0) {x y z : Int} (hx : 0 ≤ x ∧ x < gN f r 0) (hy : 0 ≤ y ∧ y < gN f r 1) (hz : 0 ≤ z ∧ z < gN f r 2) : ∃ e, EV f r e ∧ gSp (e 0) (e 3) = x ∧ gSp (e 1) (e 4) = y ∧ gSp (e 2) (e 5) = z := by
  have la := gLn_rng hl hr (c := 0) (by omega)
  have lb := gLn_rng hl hr (c := 1) (by omega)
  have lc := gLn_rng hl hr (c := 2) (by omega)
  obtain ⟨l0, h0, a1, a2, a3, a4⟩ := gSp_ex la.1 la.2 hx.1 hx.2
  obtain ⟨l1, h1, b1, b2, b3, b4⟩ := gSp_ex lb.1 lb.2 hy.1 hy.2
  obtain ⟨l2, h2, c1, c2, c3, c4⟩ := gSp_ex lc.1 lc.2 hz.1 hz.2
  refine ⟨fun j => if j = 0 then l0 else if j = 1 then l1 else if j = 2 then l2 else if j = 3 then h0 else if j = 4 then h1 else h2, fun c c0 c1' => ?_, a4, b4, c4⟩
  have cc : c = 0 ∨ c = 1 ∨ c = 2 := by omega
  rcases cc with rfl | rfl | rfl
  · exact ⟨a1, a2, a3⟩
  · exact ⟨b1, b2, b3⟩
  · exact ⟨c1, c2, c3⟩
end GC
