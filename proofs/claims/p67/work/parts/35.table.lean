theorem foldF_app {α : Type} {st : Int → α → α} : ∀ (k m : Nat) (i : Int) (a : α), foldF st (k + m) i a = foldF st m (i + k) (foldF st k i a)
  | 0, m, i, a => by rw [Nat.zero_add, show i + ((0 : Nat) : Int) = i by omega]; rfl
  | k + 1, m, i, a => by
    rw [Nat.add_right_comm, foldF_s, foldF_s, foldF_app k m, show i + 1 + (k : Int) = i + ((k + 1 : Nat) : Int) by omega]
theorem foldF_id {α : Type} {st : Int → α → α} : ∀ (k : Nat) (i : Int) (a : α), (∀ j b, i ≤ j → j < i + k → st j b = b) → foldF st k i a = a
  | 0, _, _, _ => rfl
  | k + 1, i, a, h => by
    rw [foldF_s, h i a (by omega) (by omega)]
    exact foldF_id k (i + 1) a (fun j b x y => h j b (by omega) (by omega))
theorem foldF_congr {α : Type} {st su : Int → α → α} : ∀ (k : Nat) (i : Int) (a : α), (∀ j b, i ≤ j → j < i + k → st j b = su j b) → foldF st k i a = foldF su k i a
  | 0, _, _, _ => rfl
  | k + 1, i, a, h => by
    rw [foldF_s, foldF_s, h i a (by omega) (by omega)]
    exact foldF_congr k (i + 1) _ (fun j b x y => h j b (by omega) (by omega))
/-- two steps at a time -/
theorem foldF_2 {α : Type} {st : Int → α → α} : ∀ (k : Nat) (c : Int) (a : α), foldF st (2 * k) (2 * c) a = foldF (fun c a => st (2 * c + 1) (st (2 * c) a)) k c a
  | 0, _, _ => rfl
  | k + 1, c, a => by
    rw [show 2 * (k + 1) = 2 * k + 1 + 1 by omega, foldF_s, foldF_s, foldF_s, show 2 * c + 1 + 1 = 2 * (c + 1) by omega]
    exact foldF_2 k (c + 1) _
/-- only the chains that there are count -/
theorem foldF_3 {α : Type} {st : Int → α → α} {n : Int} {a : α} (hn : 1 ≤ n ∧ n ≤ 3) (h : ∀ j b, n ≤ j → j < 3 → st j b = b) : foldF st 3 0 a = foldF st n.toNat 0 a := by
  obtain ⟨m, hm⟩ : ∃ m : Nat, 3 = n.toNat + m := ⟨3 - n.toNat, by omega⟩
  rw [hm, foldF_app, foldF_id]
  intro j b x y
  exact h j b (by omega) (by omega)
section TE
variable {f g : Int → Int}
theorem gMS_eqv {W : (Int → Int) → Int} (hl : FL f) (hv : FS f) (e : gEqv f g) (h : ∀ z, gBn f z → W (gRem g z) = W (gRem f z)) {z a : Int} (z0 : 0 ≤ z) (z1 : z < 2 * f (18 + f 1)) : gMS W g z a = gMS W f z a := by
  unfold gMS
  by_cases q : 1 < f (37 + z / 2) - f (34 + z / 2) + 1
  · have b := gBn_z z0 z1 q
    rw [if_pos q, if_pos ((e.burn (by omega) (by omega)).mpr q), h z b, e.pt hl hv b]
  · rw [if_neg q, if_neg (fun x => q ((e.burn (by omega) (by omega)).mp x))]
theorem gShort_eqv (e : gEqv f g) : gShort g ↔ gShort f := by
  have k : ∀ c, 0 ≤ c → c < f (18 + f 1) → (g (37 + c) - g (34 + c) + 1 ≤ 1 ↔ f (37 + c) - f (34 + c) + 1 ≤ 1) := fun c c0 c1 => by
    have := e.burn c0 c1; omega
  constructor
  · intro h c c0 c1; exact (k c c0 c1).mp (h c c0 (by rw [e.1, e.2.1]; exact c1))
  · intro h c c0 c1; rw [e.1, e.2.1] at c1; exact (k c c0 c1).mpr (h c c0 c1)
theorem gGs_eqv (hl : FL f) (hv : FS f) (e : gEqv f g) : ∀ (k : Nat) (z b : Int), (b = -1 ∨ gBn f b) → 0 ≤ z → z + k ≤ 2 * f (18 + f 1) → foldF (gGs g) k z b = foldF (gGs f) k z b
  | 0, _, _, _, _, _ => rfl
  | k + 1, z, b, hb, z0, zk => by
    rw [foldF_s, foldF_s]
    have s : gGs g z b = gGs f z b ∧ (gGs f z b = -1 ∨ gBn f (gGs f z b)) := by
      unfold gGs
      by_cases q : 1 < f (37 + z / 2) - f (34 + z / 2) + 1
      · have bz := gBn_z z0 (by omega) q
        rw [if_pos q, if_pos ((e.burn (by omega) (by omega)).mpr q), e.pt hl hv bz]
        rcases hb with rfl | hb
        · rw [if_pos (Or.inl rfl), if_pos (Or.inl rfl)]; exact ⟨rfl, Or.inr bz⟩
        · rw [e.pt hl hv hb]
          refine ⟨rfl, ?_⟩
          split
          · exact Or.inr bz
          · exact Or.inr hb
      · rw [if_neg q, if_neg (fun x => q ((e.burn (by omega) (by omega)).mp x))]
        exact ⟨rfl, hb⟩
    rw [s.1]
    exact gGs_eqv hl hv e k (z + 1) _ s.2 (by omega) (by omega)
theorem gGr_eqv (hl : FL f) (hv : FS f) (e : gEqv f g) : gGr g = gGr f := by
  have hc := hl.ch _ hv.cur.1 hv.cur.2
  show foldF (gGs g) (2 * g (18 + g 1)).toNat 0 (-1) = foldF (gGs f) (2 * f (18 + f 1)).toNat 0 (-1)
  rw [e.1, e.2.1]
  exact gGs_eqv hl hv e _ 0 (-1) (Or.inl rfl) (by omega) (by omega)
theorem gM_eqv {W : (Int → Int) → Int} (hl : FL f) (hv : FS f) (e : gEqv f g) (h : ∀ z, gBn f z → W (gRem g z) = W (gRem f z)) (a : Int) : gM W g (2 * g (18 + g 1)).toNat 0 a = gM W f (2 * f (18 + f 1)).toNat 0 a := by
  have hc := hl.ch _ hv.cur.1 hv.cur.2
  rw [e.1, e.2.1]
  exact foldF_congr _ _ _ (fun j b x y => gMS_eqv hl hv e h x (by omega))
theorem gBh_eqv : ∀ (n : Nat) {f g : Int → Int}, FL f → FS f → gEqv f g → gBh n g = gBh n f
  | 0, _, _, _, _, _ => rfl
  | n + 1, f, g, hl, hv, e => by
    by_cases hs : gShort f
    · rw [show gBh (n + 1) f = 0 from if_pos (bI_t hs), show gBh (n + 1) g = 0 from if_pos (bI_t ((gShort_eqv e).mpr hs))]
    · rw [show gBh (n + 1) f = gAS (gBh n) (gRem f (gGr f)) - gPt f (gGr f) from if_neg (by rw [bI_f hs]; decide), show gBh (n + 1) g = gAS (gBh n) (gRem g (gGr g)) - gPt g (gGr g) from if_neg (by rw [bI_f (fun x => hs ((gShort_eqv e).mp x))]; decide)]
      have b := gGr_bn hs
      have gl := gRem_FL hl hv b
      have gv := gRem_FS hl hv b
      have er := e.rem hl hv b
      rw [gGr_eqv hl hv e, e.pt hl hv b]
      have k : gAS (gBh n) (gRem g (gGr f)) = gAS (gBh n) (gRem f (gGr f)) := by
        unfold gAS
        rw [gBh_eqv n gl gv er, gM_eqv gl gv er (fun z bz => gBh_eqv n (gRem_FL gl gv bz) (gRem_FS gl gv bz) (er.rem gl gv bz))]
        by_cases s2 : gShort (gRem f (gGr f))
        · rw [if_pos (bI_t s2), if_pos (bI_t ((gShort_eqv er).mpr s2))]
        · rw [if_neg (by rw [bI_f (fun x => s2 ((gShort_eqv er).mp x))]; decide), if_neg (by rw [bI_f s2]; decide)]
      rw [k]
theorem gBhf_eqv (hl : FL f) (hv : FS f) (e : gEqv f g) : gBhf g = gBhf f := gBh_eqv 21 hl hv e
theorem gAg_eqv (hl : FL f) (hv : FS f) (e : gEqv f g) (b : Int) : gAg b g = gAg b f := by
  by_cases hs : gShort f
  · rw [gAg_o hs, gAg_o ((gShort_eqv e).mpr hs)]
  · have k : ∀ {h : Int → Int}, ¬ gShort h → gAg b h = gM gBhf h (2 * h (18 + h 1)).toNat 0 (if b = 1 then 0 else gBhf h) := fun hh => if_neg (by rw [bI_f hh]; decide)
    rw [k hs, k (fun x => hs ((gShort_eqv e).mp x)), gBhf_eqv hl hv e, gM_eqv hl hv e (fun z bz => gBhf_eqv (gRem_FL hl hv bz) (gRem_FS hl hv bz) (e.rem hl hv bz))]
end TE
/-- the numbers of spans, the other way round -/
def ST (s : Nat → Int → Int) : Prop := ∀ lo hi, 0 ≤ lo → lo ≤ hi → hi ≤ 7 → s 52 (gSp lo hi) = lo ∧ s 53 (gSp lo hi) = hi
/-- the shape of a round -/
def SH (s : Nat → Int → Int) (f : Int → Int) (r : Int) : Prop :=
  (∀ c t, 0 ≤ c → c < f (18 + r) → 0 ≤ t → t < f (22 + 3 * r + c) → s 54 (c * 8 + t) = gSc (f (40 + 8 * (3 * r + c) + t))) ∧
  (∀ c, 0 ≤ c → c < 3 → s 55 c = gN f r c) ∧ (∀ c, 0 ≤ c → c < 3 → s 56 c = gWt f r c) ∧ s 51 9 = gPn f r
/-- the tables are right, up to a position -/
def TO (s : Nat → Int → Int) (f : Int → Int) (r p : Int) : Prop := ∀ e, EV f r e → gPl f r e < p → s 58 (gPl f r e) = gWf (gCan f r e)
def TA (s : Nat → Int → Int) (f : Int → Int) (r p : Int) : Prop := ∀ e, EV f r e → gPl f r e < p → s 59 (gPl f r e) = gAg 0 (gCan f r e)
def TB (s : Nat → Int → Int) (f : Int → Int) (r p : Int) : Prop := ∀ e, EV f r e → gPl f r e < p → s 60 (gPl f r e) = gBhf (gCan f r e)
/-- what the class's solver holds -/
def SO (s : Nat → Int → Int) (f : Int → Int) : Prop := ST s ∧ (s 51 11 = 0 ∨ s 51 11 = 1) ∧ (s 51 12 = 0 ∨ s 51 12 = 1) ∧
  (s 51 10 = -1 ∨ (0 ≤ s 51 10 ∧ s 51 10 < f 0) ∧ SH s f (s 51 10) ∧ (s 51 11 = 1 → TO s f (s 51 10) (gPn f (s 51 10))) ∧ (s 51 12 = 1 → TA s f (s 51 10) (gPn f (s 51 10)) ∧ TB s f (s 51 10) (gPn f (s 51 10))))
/-- the walk stands at ends e -/
def WK (s : Nat → Int → Int) (f : Int → Int) (r : Int) (e : Int → Int) : Prop := (FL f ∧ 0 ≤ r ∧ r < f 0) ∧ ST s ∧ SH s f r ∧ EV f r e ∧ ∀ c, 0 ≤ c → c < 3 → s 57 c = gSp (e c) (e (3 + c))
section WK
variable {s : Nat → Int → Int} {f : Int → Int} {r : Int} {e : Int → Int}
theorem WK.l (h : WK s f r e) : FL f := h.1.1
theorem WK.rr (h : WK s f r e) : 0 ≤ r ∧ r < f 0 := h.1.2
theorem WK.ev (h : WK s f r e) : EV f r e := h.2.2.2.1
theorem WK.sp (h : WK s f r e) {c : Int} (c0 : 0 ≤ c) (c1 : c < 3) : s 57 c = gSp (e c) (e (3 + c)) := h.2.2.2.2 c c0 c1
theorem WK.en (h : WK s f r e) {c : Int} (c0 : 0 ≤ c) (c1 : c < 3) : 0 ≤ e c ∧ e c ≤ e (3 + c) ∧ e (3 + c) ≤ 7 := by
  have a := h.ev c c0 c1
  have b := gLn_rng h.l h.rr c0
  omega
theorem WK.span (h : WK s f r e) {c : Int} (c0 : 0 ≤ c) (c1 : c < 3) : 0 ≤ gSp (e c) (e (3 + c)) ∧ gSp (e c) (e (3 + c)) < 36 := by
  have a := h.en c0 c1
  exact gSp_rng a.1 a.2.1 (show _ < 8 by omega) (by omega)
theorem WK.lo (h : WK s f r e) {c : Int} (c0 : 0 ≤ c) (c1 : c < 3) : s 52 (gSp (e c) (e (3 + c))) = e c := by
  have a := h.en c0 c1
  exact (h.2.1 _ _ a.1 a.2.1 a.2.2).1
theorem WK.hi (h : WK s f r e) {c : Int} (c0 : 0 ≤ c) (c1 : c < 3) : s 53 (gSp (e c) (e (3 + c))) = e (3 + c) := by
  have a := h.en c0 c1
  exact (h.2.1 _ _ a.1 a.2.1 a.2.2).2
theorem WK.wt (h : WK s f r e) {c : Int} (c0 : 0 ≤ c) (c1 : c < 3) : s 56 c = gWt f r c := h.2.2.1.2.2.1 c c0 c1
theorem WK.c (h : WK s f r e) {c : Int} (c0 : 0 ≤ c) (c1 : c < 3) (hb : e c < e (3 + c)) : c < f (18 + r) := Classical.byContradiction fun g => by
  have := h.ev.out c0 c1 (by omega)
  omega
theorem WK.bn (h : WK s f r e) {c : Int} (c0 : 0 ≤ c) (c1 : c < 3) (hb : e c < e (3 + c)) : gBn (gCan f r e) (2 * c) ∧ gBn (gCan f r e) (2 * c + 1) := by
  have := h.c c0 c1 hb
  have h4 := h.l.rn
  have hr := h.rr
  refine gBn_2 c0 (by rw [gCan_C (by omega)]; exact this) ?_
  rw [gCan_lo ⟨c0, c1⟩, gCan_hi ⟨c0, c1⟩]; omega
theorem WK.ptl (h : WK s f r e) {c : Int} (c0 : 0 ≤ c) (c1 : c < 3) (hb : e c < e (3 + c)) : s 54 (c * 8 + e c) = gPt (gCan f r e) (2 * c) := by
  have cc := h.c c0 c1 hb
  have h4 := h.l.rn
  have hr := h.rr
  have a := h.ev.in c0 c1 cc
  have b := h.l.len r c hr.1 hr.2 c0 cc
  rw [gPt_l (by omega) (by omega), h.2.2.1.1 c (e c) c0 cc a.1 (by omega), gCan_1, show 2 * c / 2 = c by omega, gCan_lo ⟨c0, c1⟩, gCan_o (by omega)]
theorem WK.ptr (h : WK s f r e) {c : Int} (c0 : 0 ≤ c) (c1 : c < 3) (hb : e c < e (3 + c)) : s 54 (c * 8 + e (3 + c)) = gPt (gCan f r e) (2 * c + 1) := by
  have cc := h.c c0 c1 hb
  have h4 := h.l.rn
  have hr := h.rr
  have a := h.ev.in c0 c1 cc
  have b := h.l.len r c hr.1 hr.2 c0 cc
  rw [gPt_r (by omega) (by omega), h.2.2.1.1 c (e (3 + c)) c0 cc (by omega) (by omega), gCan_1, show (2 * c + 1) / 2 = c by omega, gCan_hi ⟨c0, c1⟩, gCan_o (by omega)]
theorem WK.upl (h : WK s f r e) {c : Int} (c0 : 0 ≤ c) (c1 : c < 3) (hb : e c < e (3 + c)) : EV f r (eUp e c 1) ∧ gPl f r (eUp e c 1) = gPl f r e - gWt f r c ∧ 0 ≤ gPl f r (eUp e c 1) ∧ gPl f r (eUp e c 1) < gPl f r e ∧ gPl f r e < gPn f r ∧ gPn f r ≤ 46656 := by
  have a := h.en c0 c1
  have u := (eUp_EV h.ev c0 c1 hb).1
  have x := gPl_rng h.l h.rr u
  have y := gPl_rng h.l h.rr h.ev
  have n := gPn_rng h.l h.rr
  have p := (gPl_up (f := f) (r := r) c0 c1 ⟨a.1, hb, a.2.2⟩).1
  have w : 1 ≤ gWt f r c := by
    have n1 := gN_rng h.l h.rr (c := 1) (by omega)
    have n2 := gN_rng h.l h.rr (c := 2) (by omega)
    have k := Int.mul_le_mul n2.1 n1.1 (by omega) (by omega)
    unfold gWt; (repeat' split) <;> omega
  exact ⟨u, p, x.1, by omega, y.2, n.2⟩
theorem WK.upr (h : WK s f r e) {c : Int} (c0 : 0 ≤ c) (c1 : c < 3) (hb : e c < e (3 + c)) : EV f r (eUp e (3 + c) (-1)) ∧ gPl f r (eUp e (3 + c) (-1)) = gPl f r e - gWt f r c * (e (3 + c) + 1) ∧ 0 ≤ gPl f r (eUp e (3 + c) (-1)) ∧ gPl f r (eUp e (3 + c) (-1)) < gPl f r e ∧ gPl f r e < gPn f r ∧ gPn f r ≤ 46656 := by
  have a := h.en c0 c1
  have u := (eUp_EV h.ev c0 c1 hb).2
  have x := gPl_rng h.l h.rr u
  have y := gPl_rng h.l h.rr h.ev
  have n := gPn_rng h.l h.rr
  have p := (gPl_up (f := f) (r := r) c0 c1 ⟨a.1, hb, a.2.2⟩).2
  have w : 1 ≤ gWt f r c := by
    have n1 := gN_rng h.l h.rr (c := 1) (by omega)
    have n2 := gN_rng h.l h.rr (c := 2) (by omega)
    have k := Int.mul_le_mul n2.1 n1.1 (by omega) (by omega)
    unfold gWt; (repeat' split) <;> omega
  have m := Int.mul_le_mul w (show 1 ≤ e (3 + c) + 1 by omega) (by omega) (by omega)
  exact ⟨u, p, x.1, by omega, y.2, n.2⟩
theorem WK.fl (h : WK s f r e) : FL (gCan f r e) := gCan_FL h.l
theorem WK.fs (h : WK s f r e) : FS (gCan f r e) := gCan_FS h.l h.rr h.ev
theorem WK.C (h : WK s f r e) : gCan f r e (18 + gCan f r e 1) = f (18 + r) ∧ 1 ≤ f (18 + r) ∧ f (18 + r) ≤ 3 := by
  have h4 := h.l.rn
  have hr := h.rr
  exact ⟨gCan_C (by omega), h.l.ch r hr.1 hr.2⟩
theorem WK.burn (h : WK s f r e) {c : Int} (c0 : 0 ≤ c) (c1 : c < 3) : 1 < gCan f r e (37 + c) - gCan f r e (34 + c) + 1 ↔ e c < e (3 + c) := by
  rw [gCan_lo ⟨c0, c1⟩, gCan_hi ⟨c0, c1⟩]; omega
end WK
