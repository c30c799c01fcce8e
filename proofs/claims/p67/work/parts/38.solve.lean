theorem gLn_max {f : Int → Int} {r c : Int} (hl : FL f) (hr : 0 ≤ r ∧ r < f 0) (c0 : 0 ≤ c) : max 1 (if c < f (18 + r) then f (22 + 3 * r + c) else 0) = gLn f r c := by
  unfold gLn
  by_cases h : c < f (18 + r)
  · rw [if_pos h, if_pos h]; have := hl.len r c hr.1 hr.2 c0 h; omega
  · rw [if_neg h, if_neg h]; rfl
section SW
variable {s : Nat → Int → Int} {f : Int → Int} {r : Int} {e : Int → Int}
/-- what a step of the walk leaves -/
def WQ (s : Nat → Int → Int) (f : Int → Int) (r : Int) (e : Int → Int) (s' : Nat → Int → Int) : Prop := (∀ q j, q ≠ 57 → s' q j = s q j) ∧ (gPl f r e + 1 < gPn f r → ∃ e', WK s' f r e' ∧ gPl f r e' = gPl f r e + 1)
theorem WK.digits (h : WK s f r e) {s' : Nat → Int → Int} {x y z : Int} (k : ∀ q j, q ≠ 57 → s' q j = s q j) (k0 : s' 57 0 = x) (k1 : s' 57 1 = y) (k2 : s' 57 2 = z) (hx : 0 ≤ x ∧ x < gN f r 0) (hy : 0 ≤ y ∧ y < gN f r 1) (hz : 0 ≤ z ∧ z < gN f r 2)
    (hp : (x * gN f r 1 + y) * gN f r 2 + z = gPl f r e + 1) : WQ s f r e s' := by
  refine ⟨k, fun _ => ?_⟩
  obtain ⟨e', ev, e0, e1, e2⟩ := EV.ex h.l h.rr hx hy hz
  refine ⟨e', ⟨h.1, fun lo hi a b c => ?_, ⟨fun c t a b c' d => ?_, fun c a b => ?_, fun c a b => ?_, ?_⟩, ev, fun c c0 c1 => ?_⟩, ?_⟩
  · rw [k _ _ (by omega), k _ _ (by omega)]; exact h.2.1 lo hi a b c
  · rw [k _ _ (by omega)]; exact h.2.2.1.1 c t a b c' d
  · rw [k _ _ (by omega)]; exact h.2.2.1.2.1 c a b
  · rw [k _ _ (by omega)]; exact h.2.2.1.2.2.1 c a b
  · rw [k _ _ (by omega)]; exact h.2.2.1.2.2.2
  · have cc : c = 0 ∨ c = 1 ∨ c = 2 := by omega
    rcases cc with rfl | rfl | rfl
    · rw [k0]; exact e0.symm
    · rw [k1]; exact e1.symm
    · rw [k2]; exact e2.symm
  · rw [gPl_mix, e0, e1, e2]; exact hp
theorem WK.step2 (h : WK s f r e) (d : gSp (e 2) (e 5) + 1 < gN f r 2) : WQ s f r e (up s 57 2 (gSp (e 2) (e 5) + 1)) := by
  obtain ⟨a, b, c⟩ := h.ev.sp h.l h.rr
  refine h.digits (x := gSp (e 0) (e 3)) (y := gSp (e 1) (e 4)) (z := gSp (e 2) (e 5) + 1) (fun q j hq => up_ne (Or.inl hq)) ?_ ?_ (up_eq _ _ _ _) a b ⟨by omega, d⟩ ?_
  · rw [up_ne (Or.inr (by omega))]; exact h.sp (c := 0) (by omega) (by omega)
  · rw [up_ne (Or.inr (by omega))]; exact h.sp (c := 1) (by omega) (by omega)
  · rw [gPl_mix]; omega
theorem WK.step1 (h : WK s f r e) (g : gN f r 2 ≤ gSp (e 2) (e 5) + 1) (d : gSp (e 1) (e 4) + 1 < gN f r 1) : WQ s f r e (up (up s 57 2 0) 57 1 (gSp (e 1) (e 4) + 1)) := by
  obtain ⟨a, b, c⟩ := h.ev.sp h.l h.rr
  refine h.digits (x := gSp (e 0) (e 3)) (y := gSp (e 1) (e 4) + 1) (z := 0) (fun q j hq => by rw [up_ne (Or.inl hq), up_ne (Or.inl hq)]) ?_ (up_eq _ _ _ _) ?_ a ⟨by omega, d⟩ (by omega) ?_
  · rw [up_ne (Or.inr (by omega)), up_ne (Or.inr (by omega))]; exact h.sp (c := 0) (by omega) (by omega)
  · rw [up_ne (Or.inr (by omega)), up_eq]
  · rw [gPl_mix, ← Int.add_assoc, Int.add_mul (gSp (e 0) (e 3) * gN f r 1 + gSp (e 1) (e 4)), Int.one_mul]; omega
theorem WK.step0 (h : WK s f r e) (g : gN f r 2 ≤ gSp (e 2) (e 5) + 1) (g' : gN f r 1 ≤ gSp (e 1) (e 4) + 1) (d : gSp (e 0) (e 3) + 1 < gN f r 0) : WQ s f r e (up (up (up s 57 2 0) 57 1 0) 57 0 (gSp (e 0) (e 3) + 1)) := by
  obtain ⟨a, b, c⟩ := h.ev.sp h.l h.rr
  refine h.digits (x := gSp (e 0) (e 3) + 1) (y := 0) (z := 0) (fun q j hq => by rw [up_ne (Or.inl hq), up_ne (Or.inl hq), up_ne (Or.inl hq)]) (up_eq _ _ _ _) ?_ ?_ ⟨by omega, d⟩ (by omega) (by omega) ?_
  · rw [up_ne (Or.inr (by omega)), up_eq]
  · rw [up_ne (Or.inr (by omega)), up_ne (Or.inr (by omega)), up_eq]
  · have e1 : gN f r 1 = gSp (e 1) (e 4) + 1 := by omega
    have e2 : gN f r 2 = gSp (e 2) (e 5) + 1 := by omega
    rw [gPl_mix, Int.add_mul (gSp (e 0) (e 3)), Int.one_mul]
    have : gSp (e 0) (e 3) * gN f r 1 + gN f r 1 + 0 = gSp (e 0) (e 3) * gN f r 1 + gSp (e 1) (e 4) + 1 := by omega
    rw [this, Int.add_mul _ 1, Int.one_mul]; omega
theorem WK.stepE (h : WK s f r e) (g : gN f r 2 ≤ gSp (e 2) (e 5) + 1) (g' : gN f r 1 ≤ gSp (e 1) (e 4) + 1) (d : gN f r 0 ≤ gSp (e 0) (e 3) + 1) : WQ s f r e (up (up (up s 57 2 0) 57 1 0) 57 0 0) := by
  obtain ⟨a, b, c⟩ := h.ev.sp h.l h.rr
  refine ⟨fun q j hq => by rw [up_ne (Or.inl hq), up_ne (Or.inl hq), up_ne (Or.inl hq)], fun hp => ?_⟩
  exfalso
  have e0 : gN f r 0 = gSp (e 0) (e 3) + 1 := by omega
  have e1 : gN f r 1 = gSp (e 1) (e 4) + 1 := by omega
  have e2 : gN f r 2 = gSp (e 2) (e 5) + 1 := by omega
  have k1 : gN f r 0 * gN f r 1 = gSp (e 0) (e 3) * gN f r 1 + gSp (e 1) (e 4) + 1 := by
    have : gN f r 0 * gN f r 1 = gSp (e 0) (e 3) * gN f r 1 + gN f r 1 := by rw [e0, Int.add_mul, Int.one_mul]
    omega
  have k2 : gPn f r = (gSp (e 0) (e 3) * gN f r 1 + gSp (e 1) (e 4)) * gN f r 2 + gN f r 2 := by
    unfold gPn
    rw [Int.mul_comm (gN f r 2 * gN f r 1), Int.mul_comm (gN f r 2), ← Int.mul_assoc, k1, Int.add_mul _ 1, Int.one_mul]
  rw [gPl_mix, k2] at hp
  omega
end SW
/-- the shape of the last chains of a round -/
def ShP (s z : Nat → Int → Int) (f : Int → Int) (r i : Int) : Prop :=
  (∀ q j, (q < 51 ∨ 57 ≤ q ∨ q = 52 ∨ q = 53 ∨ q = 51 ∧ j ≠ 9) → z q j = s q j) ∧
  (∀ c t, i < c → c < f (18 + r) → 0 ≤ t → t < f (22 + 3 * r + c) → z 54 (c * 8 + t) = gSc (f (40 + 8 * (3 * r + c) + t))) ∧
  (∀ c, i < c → c < 3 → z 55 c = gN f r c) ∧ (∀ c, i < c → c < 3 → z 56 c = gWt f r c) ∧ z 51 9 = (if i = -1 then gPn f r else gWt f r i)
theorem ShP.step {s z w : Nat → Int → Int} {f : Int → Int} {r i : Int} (h : ShP s z f r i) (hl : FL f) (hr : 0 ≤ r ∧ r < f 0) (i0 : 0 ≤ i) (i1 : i < 3)
    (h1 : ∀ q j, (q ≠ 54 ∨ j < i * 8 + 0 ∨ i * 8 + 8 ≤ j) → w q j = up (up (up z 55 i (gN f r i)) 56 i (gWt f r i)) 51 9 (gWt f r i * gN f r i) q j)
    (h2 : ∀ x, 0 ≤ x → x < gLn f r i → i < f (18 + r) → w 54 (i * 8 + x) = gSc (f (40 + 8 * (3 * r + i) + x))) : ShP s w f r (i + -1) := by
  obtain ⟨a, b, c, d, p⟩ := h
  refine ⟨fun q j hq => ?_, fun c' t c0 c1 t0 t1 => ?_, fun c' c0 c1 => ?_, fun c' c0 c1 => ?_, ?_⟩
  · rw [h1 q j (by omega), up_ne (by omega), up_ne (by omega), up_ne (by omega)]; exact a q j hq
  · by_cases q : c' = i
    · subst q
      have := h2 t t0 (by unfold gLn; rw [if_pos c1]; exact t1) c1
      exact this
    · have l := hl.len r c' hr.1 hr.2 (by omega) c1
      rw [h1 54 _ (by omega), up_ne (by omega), up_ne (by omega), up_ne (by omega)]
      exact b c' t (by omega) c1 t0 t1
  · rw [h1 55 _ (by omega), up_ne (by omega), up_ne (by omega)]
    by_cases q : c' = i
    · subst q; exact up_eq _ _ _ _
    · rw [up_ne (by omega)]; exact c c' (by omega) c1
  · rw [h1 56 _ (by omega), up_ne (by omega)]
    by_cases q : c' = i
    · subst q; exact up_eq _ _ _ _
    · rw [up_ne (by omega), up_ne (by omega)]; exact d c' (by omega) c1
  · rw [h1 51 _ (by omega), up_eq]
    have ii : i = 0 ∨ i = 1 ∨ i = 2 := by omega
    rcases ii with rfl | rfl | rfl
    · rfl
    · rfl
    · show gWt f r 2 * gN f r 2 = gWt f r 1
      unfold gWt
      simp
theorem ShP.done {s z : Nat → Int → Int} {f : Int → Int} {r : Int} (h : ShP s z f r (-1)) (hs : ST s) (hr : 0 ≤ r ∧ r < f 0) : SO (up (up (up z 51 10 r) 51 11 0) 51 12 0) f := by
  obtain ⟨a, b, c, d, p⟩ := h
  have k : ∀ q j, (q ≠ 51 ∨ j < 10 ∨ 12 < j) → up (up (up z 51 10 r) 51 11 0) 51 12 0 q j = z q j := fun q j hq => by rw [up_ne (by omega), up_ne (by omega), up_ne (by omega)]
  refine ⟨fun lo hi x y w => ?_, Or.inl ?_, Or.inl (up_eq _ _ _ _), Or.inr ?_⟩
  · rw [k _ _ (by omega), k _ _ (by omega), a _ _ (by omega), a _ _ (by omega)]; exact hs lo hi x y w
  · rw [up_ne (by omega), up_eq]
  · have e : up (up (up z 51 10 r) 51 11 0) 51 12 0 51 10 = r := by rw [up_ne (by omega), up_ne (by omega), up_eq]
    rw [e]
    refine ⟨hr, ⟨fun c' t c0 c1 t0 t1 => ?_, fun c' c0 c1 => ?_, fun c' c0 c1 => ?_, ?_⟩, fun x => ?_, fun x => ?_⟩
    · rw [k _ _ (by omega)]; exact b c' t (by omega) c1 t0 t1
    · rw [k _ _ (by omega)]; exact c c' (by omega) c1
    · rw [k _ _ (by omega)]; exact d c' (by omega) c1
    · rw [k _ _ (by omega)]; exact p
    · rw [up_ne (by omega), up_eq] at x; omega
    · rw [up_eq] at x; omega
section SF
variable {s s' : Nat → Int → Int} {f g : Int → Int} {r : Int}
theorem EV.lay (hl : gLay f g) {e : Int → Int} (hr : 0 ≤ r ∧ r < 4) (hc : f (18 + r) ≤ 3) (h : EV g r e) : EV f r e := fun c c0 c1 => by
  have := h c c0 c1
  have e1 : gLn g r c = gLn f r c := by
    unfold gLn
    rw [hl.2.1 (18 + r) (by omega) (by omega), hl.2.1 (22 + 3 * r + c) (by omega) (by omega)]
  rw [e1] at this
  exact this
theorem gLn_lay (hl : gLay f g) (hr : 0 ≤ r ∧ r < 4) {c : Int} (c0 : 0 ≤ c) (c1 : c < 3) : gLn g r c = gLn f r c := by
  unfold gLn
  rw [hl.2.1 (18 + r) (by omega) (by omega), hl.2.1 (22 + 3 * r + c) (by omega) (by omega)]
theorem gN_lay (hl : gLay f g) (hr : 0 ≤ r ∧ r < 4) {c : Int} (c0 : 0 ≤ c) (c1 : c < 3) : gN g r c = gN f r c := by
  unfold gN; rw [gLn_lay hl hr c0 c1]
theorem gWt_lay (hl : gLay f g) (hr : 0 ≤ r ∧ r < 4) (c : Int) : gWt g r c = gWt f r c := by
  unfold gWt
  rw [gN_lay hl hr (c := 1) (by omega) (by omega), gN_lay hl hr (c := 2) (by omega) (by omega)]
theorem gPl_lay (hl : gLay f g) (hr : 0 ≤ r ∧ r < 4) (e : Int → Int) : gPl g r e = gPl f r e := by
  unfold gPl
  rw [gWt_lay hl hr, gWt_lay hl hr, gWt_lay hl hr]
theorem gPn_lay (hl : gLay f g) (hr : 0 ≤ r ∧ r < 4) : gPn g r = gPn f r := by
  unfold gPn
  rw [gN_lay hl hr (c := 0) (by omega) (by omega), gN_lay hl hr (c := 1) (by omega) (by omega), gN_lay hl hr (c := 2) (by omega) (by omega)]
theorem SH.lay (hl : gLay f g) (hf : FL f) (hr : 0 ≤ r ∧ r < f 0) (h : SH s f r) : SH s g r := by
  have h4 := hf.rn
  have hc := hf.ch r hr.1 hr.2
  refine ⟨fun c t a b c' d => ?_, fun c a b => ?_, fun c a b => ?_, ?_⟩
  · rw [hl.2.1 (18 + r) (by omega) (by omega)] at b
    rw [hl.2.1 (22 + 3 * r + c) (by omega) (by omega)] at d
    have l := hf.len r c hr.1 hr.2 a b
    rw [hl.2.2 _ (by omega) (by omega)]
    exact h.1 c t a b c' d
  · rw [gN_lay hl (by omega) a b]; exact h.2.1 c a b
  · rw [gWt_lay hl (by omega)]; exact h.2.2.1 c a b
  · rw [gPn_lay hl (by omega)]; exact h.2.2.2
theorem SO.lay (hl : gLay f g) (hf : FL f) (h : SO s f) : SO s g := by
  have h4 := hf.rn
  refine ⟨h.1, h.2.1, h.2.2.1, ?_⟩
  rcases h.2.2.2 with k | ⟨hr, sh, k1, k2⟩
  · exact Or.inl k
  · have hc := hf.ch _ hr.1 hr.2
    refine Or.inr ⟨by rw [hl.1]; exact hr, sh.lay hl hf hr, fun x e ev hp => ?_, fun x => ⟨fun e ev hp => ?_, fun e ev hp => ?_⟩⟩
    · rw [gPl_lay hl (by omega), gPn_lay hl (by omega)] at hp
      rw [gPl_lay hl (by omega), gCan_ext hl (fun _ _ _ => rfl)]
      exact k1 x e (ev.lay hl (by omega) (by omega)) hp
    · rw [gPl_lay hl (by omega), gPn_lay hl (by omega)] at hp
      rw [gPl_lay hl (by omega), gCan_ext hl (fun _ _ _ => rfl)]
      exact (k2 x).1 e (ev.lay hl (by omega) (by omega)) hp
    · rw [gPl_lay hl (by omega), gPn_lay hl (by omega)] at hp
      rw [gPl_lay hl (by omega), gCan_ext hl (fun _ _ _ => rfl)]
      exact (k2 x).2 e (ev.lay hl (by omega) (by omega)) hp
theorem SO.keep (h : SO s f) (k : ∀ q j, (51 ≤ q ∧ q ≤ 60 ∧ q ≠ 57) → s' q j = s q j) : SO s' f := by
  obtain ⟨a, b, c, d⟩ := h
  refine ⟨fun lo hi x y z => ?_, ?_, ?_, ?_⟩
  · rw [k _ _ (by omega), k _ _ (by omega)]; exact a lo hi x y z
  · rw [k _ _ (by omega)]; exact b
  · rw [k _ _ (by omega)]; exact c
  · rw [k 51 10 (by omega), k 51 11 (by omega), k 51 12 (by omega)]
    rcases d with d | ⟨hr, sh, k1, k2⟩
    · exact Or.inl d
    · refine Or.inr ⟨hr, ⟨fun c' t x y z w => ?_, fun c' x y => ?_, fun c' x y => ?_, ?_⟩, fun x e ev hp => ?_, fun x => ⟨fun e ev hp => ?_, fun e ev hp => ?_⟩⟩
      · rw [k _ _ (by omega)]; exact sh.1 c' t x y z w
      · rw [k _ _ (by omega)]; exact sh.2.1 c' x y
      · rw [k _ _ (by omega)]; exact sh.2.2.1 c' x y
      · rw [k _ _ (by omega)]; exact sh.2.2.2
      · rw [k _ _ (by omega)]; exact k1 x e ev hp
      · rw [k _ _ (by omega)]; exact (k2 x).1 e ev hp
      · rw [k _ _ (by omega)]; exact (k2 x).2 e ev hp
/-- the solver stands at the round of a row -/
theorem SO.at (h : SO s f) (hf : FL f) (hv : FS f) (e : s 51 10 = f 1) : SH s f (f 1) ∧ (s 51 11 = 1 → TO s f (f 1) (gPn f (f 1))) ∧ (s 51 12 = 1 → TA s f (f 1) (gPn f (f 1)) ∧ TB s f (f 1) (gPn f (f 1))) := by
  have := hv.cur
  rcases h.2.2.2 with k | k
  · omega
  · rw [e] at k; exact k.2
theorem TO.val (h : TO s f (f 1) (gPn f (f 1))) (hl : FL f) (hv : FS f) : s 58 (gPl f (f 1) (eOf f)) = gWf f := by
  have ev := eOf_EV hl hv
  rw [h _ ev (gPl_rng hl hv.cur ev).2]
  exact gWf_eqv hl hv (eOf_eqv hl hv)
theorem can_val (hl : FL f) (hv : FS f) {z : Int} (b : gBn f z) : gPt (gCan f (f 1) (eOf f)) z = gPt f z ∧ gWf (gRem (gCan f (f 1) (eOf f)) z) = gWf (gRem f z) :=
  ⟨(eOf_eqv hl hv).pt hl hv b, gWf_eqv (gRem_FL hl hv b) (gRem_FS hl hv b) ((eOf_eqv hl hv).rem hl hv b)⟩
/-- one chain alone -/
def eOne (f : Int → Int) (c : Int) : Int → Int := fun j => if j = c ∨ j = 3 + c then eOf f j else 0
theorem eOne_EV (hl : FL f) (hv : FS f) {c : Int} (c0 : 0 ≤ c) (c1 : c < f (18 + f 1)) : EV f (f 1) (eOne f c) := fun x x0 x1 => by
  have hc := hl.ch _ hv.cur.1 hv.cur.2
  have ev := eOf_EV hl hv x x0 x1
  have l := gLn_rng hl hv.cur x0
  unfold eOne
  by_cases q : x = c
  · rw [if_pos (Or.inl q), if_pos (by omega)]; exact ev
  · rw [if_neg (by omega), if_neg (by omega)]; omega
theorem eOne_pl (hl : FL f) (hv : FS f) {c : Int} (c0 : 0 ≤ c) (c1 : c < f (18 + f 1)) : gPl f (f 1) (eOne f c) = gSp (f (34 + c)) (f (37 + c)) * gWt f (f 1) c := by
  have hc := hl.ch _ hv.cur.1 hv.cur.2
  have z0 : gSp 0 0 = 0 := by decide
  have a : eOne f c c = f (34 + c) := by unfold eOne; rw [if_pos (Or.inl rfl), eOf_lo (by omega), if_pos c1]
  have b : eOne f c (3 + c) = f (37 + c) := by unfold eOne; rw [if_pos (Or.inr rfl), eOf_hi c0, if_pos c1]
  have n : ∀ x, 0 ≤ x → x < 3 → x ≠ c → eOne f c x = 0 ∧ eOne f c (3 + x) = 0 := fun x x0 x1 h => by
    unfold eOne; rw [if_neg (by omega), if_neg (by omega)]; exact ⟨rfl, rfl⟩
  unfold gPl
  have cc : c = 0 ∨ c = 1 ∨ c = 2 := by omega
  rcases cc with rfl | rfl | rfl
  · have n1 := n 1 (by omega) (by omega) (by omega)
    have n2 := n 2 (by omega) (by omega) (by omega)
    simp only [show (3 : Int) + 0 = 3 from rfl, show (3 : Int) + 1 = 4 from rfl, show (3 : Int) + 2 = 5 from rfl] at *
    rw [a, b, n1.1, n1.2, n2.1, n2.2, z0, Int.zero_mul, Int.zero_mul]; omega
  · have n1 := n 0 (by omega) (by omega) (by omega)
    have n2 := n 2 (by omega) (by omega) (by omega)
    simp only [show (3 : Int) + 0 = 3 from rfl, show (3 : Int) + 1 = 4 from rfl, show (3 : Int) + 2 = 5 from rfl] at *
    rw [a, b, n1.1, n1.2, n2.1, n2.2, z0, Int.zero_mul, Int.zero_mul]; omega
  · have n1 := n 0 (by omega) (by omega) (by omega)
    have n2 := n 1 (by omega) (by omega) (by omega)
    simp only [show (3 : Int) + 0 = 3 from rfl, show (3 : Int) + 1 = 4 from rfl, show (3 : Int) + 2 = 5 from rfl] at *
    rw [a, b, n1.1, n1.2, n2.1, n2.2, z0, Int.zero_mul, Int.zero_mul]; omega
theorem eOne_val (hl : FL f) (hv : FS f) {c : Int} (c0 : 0 ≤ c) (c1 : c < f (18 + f 1)) : gWf (gCan f (f 1) (eOne f c)) = gWf (gOnly f c (f (18 + f 1))) := by
  have hc := hl.ch _ hv.cur.1 hv.cur.2
  have h4 := hl.rn
  have hu := hv.cur
  have o : ∀ {j : Int}, (j < 37 ∨ 40 ≤ j) → gOnly f c (f (18 + f 1)) j = f j := fun h => gOnly_o (by omega) h
  refine gWf_eqv (hl.lay (gOnly_lay (by omega))) (gOnly_FS hl hv (Int.le_refl _)) ⟨?_, ?_, fun j a b => ?_, fun x x0 x1 => ?_⟩
  · rw [o (by omega)]; exact gCan_1
  · rw [o (j := 1) (by omega), o (by omega)]; exact gCan_o (by omega)
  · rw [o (by omega)]; exact gCan_o (by omega)
  · rw [o (j := 1) (by omega), o (by omega)] at x1
    rw [gCan_lo (by omega), gCan_hi (by omega), o (j := 34 + x) (by omega), gOnly_hi]
    unfold eOne
    by_cases q : x = c
    · left
      rw [if_pos (Or.inl q), if_pos (by omega), if_neg (by omega), eOf_lo (by omega), eOf_hi x0, if_pos x1, if_pos x1]; exact ⟨rfl, rfl⟩
    · right
      rw [if_pos (by omega), if_neg (by omega), if_neg (by omega)]; exact ⟨rfl, rfl⟩
end SF
