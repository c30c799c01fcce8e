/-- some rounds of a step -/
def foldF {α : Type} (st : Int → α → α) : Nat → Int → α → α
  | 0, _, a => a
  | k + 1, i, a => foldF st k (i + 1) (st i a)
theorem foldF_s {α : Type} {st : Int → α → α} {k : Nat} {i : Int} {a : α} : foldF st (k + 1) i a = foldF st k (i + 1) (st i a) := rfl
/-- a sum over the chains that there are, of at most 3 -/
def gS3 (n : Int) (g : Int → Int) : Int := (if 0 < n then g 0 else 0) + (if 1 < n then g 1 else 0) + (if 2 < n then g 2 else 0)
/-- the points of a tile -/
def gSc (t : Int) : Int := if t / 10 = t % 10 then 2 * (t / 10 + t % 10) else t / 10 + t % 10
/-- the tiles burnt in the present round -/
def gBt (f : Int → Int) : Int := gS3 (f (18 + f 1)) fun c => f (22 + 3 * f 1 + c) - 1 - (f (37 + c) - f (34 + c))
def gShort (f : Int → Int) : Prop := ∀ c, 0 ≤ c → c < f (18 + f 1) → f (37 + c) - f (34 + c) + 1 ≤ 1
def gOver (f : Int → Int) : Prop := f 4 = 2 ∨ gShort f
/-- rounds, chains and tiles of a row -/
def FL (f : Int → Int) : Prop :=
  (1 ≤ f 0 ∧ f 0 ≤ 4) ∧
  (∀ r, 0 ≤ r → r < f 0 → 1 ≤ f (18 + r) ∧ f (18 + r) ≤ 3) ∧
  (∀ r c, 0 ≤ r → r < f 0 → 0 ≤ c → c < f (18 + r) → 1 ≤ f (22 + 3 * r + c) ∧ f (22 + 3 * r + c) ≤ 8) ∧
  (∀ r c t, 0 ≤ r → r < f 0 → 0 ≤ c → c < f (18 + r) → 0 ≤ t → t < f (22 + 3 * r + c) → 0 ≤ f (40 + 8 * (3 * r + c) + t) ∧ f (40 + 8 * (3 * r + c) + t) / 10 ≤ 6 ∧ f (40 + 8 * (3 * r + c) + t) % 10 ≤ 6)
theorem FL.rn {f : Int → Int} (h : FL f) : 1 ≤ f 0 ∧ f 0 ≤ 4 := h.1
theorem FL.ch {f : Int → Int} (h : FL f) : ∀ r, 0 ≤ r → r < f 0 → 1 ≤ f (18 + r) ∧ f (18 + r) ≤ 3 := h.2.1
theorem FL.len {f : Int → Int} (h : FL f) : ∀ r c, 0 ≤ r → r < f 0 → 0 ≤ c → c < f (18 + r) → 1 ≤ f (22 + 3 * r + c) ∧ f (22 + 3 * r + c) ≤ 8 := h.2.2.1
theorem FL.tile {f : Int → Int} (h : FL f) : ∀ r c t, 0 ≤ r → r < f 0 → 0 ≤ c → c < f (18 + r) → 0 ≤ t → t < f (22 + 3 * r + c) → 0 ≤ f (40 + 8 * (3 * r + c) + t) ∧ f (40 + 8 * (3 * r + c) + t) / 10 ≤ 6 ∧ f (40 + 8 * (3 * r + c) + t) % 10 ≤ 6 := h.2.2.2
/-- what moves change -/
def FS (f : Int → Int) : Prop :=
  (0 ≤ f 1 ∧ f 1 < f 0) ∧
  (0 ≤ f 2 ∧ f 2 ≤ 1) ∧
  (0 ≤ f 3 ∧ f 3 ≤ 1) ∧
  (0 ≤ f 4 ∧ f 4 ≤ 2) ∧
  (0 ≤ f 5 ∧ f 5 ≤ 2 * gBt f + f 4 ∧ f 5 ≤ 42) ∧
  (∀ c, 0 ≤ c → c < f (18 + f 1) → 0 ≤ f (34 + c) ∧ f (34 + c) ≤ f (37 + c) ∧ f (37 + c) < f (22 + 3 * f 1 + c)) ∧
  (∀ r p, 0 ≤ r → r < 4 → 0 ≤ p → p ≤ 1 → 0 ≤ f (6 + 2 * r + p) ∧ f (6 + 2 * r + p) ≤ (if r < f 1 then 504 else if r = f 1 then 24 * gBt f else 0)) ∧
  (∀ p, 0 ≤ p → p ≤ 1 → 0 ≤ f (14 + p) ∧ f (14 + p) ≤ 21 * f 1 + gBt f) ∧
  (∀ i, 0 ≤ i → i < f 5 → 0 ≤ f (136 + i) ∧ f (136 + i) ≤ 6)
theorem FS.cur {f : Int → Int} (h : FS f) : 0 ≤ f 1 ∧ f 1 < f 0 := h.1
theorem FS.turn {f : Int → Int} (h : FS f) : 0 ≤ f 2 ∧ f 2 ≤ 1 := h.2.1
theorem FS.first {f : Int → Int} (h : FS f) : 0 ≤ f 3 ∧ f 3 ≤ 1 := h.2.2.1
theorem FS.passed {f : Int → Int} (h : FS f) : 0 ≤ f 4 ∧ f 4 ≤ 2 := h.2.2.2.1
theorem FS.moves {f : Int → Int} (h : FS f) : 0 ≤ f 5 ∧ f 5 ≤ 2 * gBt f + f 4 ∧ f 5 ≤ 42 := h.2.2.2.2.1
theorem FS.ends {f : Int → Int} (h : FS f) : ∀ c, 0 ≤ c → c < f (18 + f 1) → 0 ≤ f (34 + c) ∧ f (34 + c) ≤ f (37 + c) ∧ f (37 + c) < f (22 + 3 * f 1 + c) := h.2.2.2.2.2.1
theorem FS.sc {f : Int → Int} (h : FS f) : ∀ r p, 0 ≤ r → r < 4 → 0 ≤ p → p ≤ 1 → 0 ≤ f (6 + 2 * r + p) ∧ f (6 + 2 * r + p) ≤ (if r < f 1 then 504 else if r = f 1 then 24 * gBt f else 0) := h.2.2.2.2.2.2.1
theorem FS.bu {f : Int → Int} (h : FS f) : ∀ p, 0 ≤ p → p ≤ 1 → 0 ≤ f (14 + p) ∧ f (14 + p) ≤ 21 * f 1 + gBt f := h.2.2.2.2.2.2.2.1
theorem FS.lg {f : Int → Int} (h : FS f) : ∀ i, 0 ≤ i → i < f 5 → 0 ≤ f (136 + i) ∧ f (136 + i) ≤ 6 := h.2.2.2.2.2.2.2.2
/-- a layout of the class and a row -/
def RY (s : Nat → Int → Int) (y : Nat) (f : Int → Int) : Prop :=
  (s y 0 = f 0) ∧
  (∀ r, 0 ≤ r → r < f 0 → s (y + 1) r = f (18 + r)) ∧
  (∀ r c, 0 ≤ r → r < f 0 → 0 ≤ c → c < f (18 + r) → s (y + 2) (r * 3 + c) = f (22 + 3 * r + c)) ∧
  (∀ r c t, 0 ≤ r → r < f 0 → 0 ≤ c → c < f (18 + r) → 0 ≤ t → t < f (22 + 3 * r + c) → s (y + 3) ((r * 3 + c) * 8 + t) = f (40 + 8 * (3 * r + c) + t) / 10) ∧
  (∀ r c t, 0 ≤ r → r < f 0 → 0 ≤ c → c < f (18 + r) → 0 ≤ t → t < f (22 + 3 * r + c) → s (y + 4) ((r * 3 + c) * 8 + t) = f (40 + 8 * (3 * r + c) + t) % 10) ∧
  (∀ r c t, 0 ≤ r → r < f 0 → 0 ≤ c → c < f (18 + r) → 0 ≤ t → t < f (22 + 3 * r + c) → s (y + 5) ((r * 3 + c) * 8 + t) = gSc (f (40 + 8 * (3 * r + c) + t)))
theorem RY.rn {s : Nat → Int → Int} {y : Nat} {f : Int → Int} (h : RY s y f) : s y 0 = f 0 := h.1
theorem RY.ch {s : Nat → Int → Int} {y : Nat} {f : Int → Int} (h : RY s y f) : ∀ r, 0 ≤ r → r < f 0 → s (y + 1) r = f (18 + r) := h.2.1
theorem RY.len {s : Nat → Int → Int} {y : Nat} {f : Int → Int} (h : RY s y f) : ∀ r c, 0 ≤ r → r < f 0 → 0 ≤ c → c < f (18 + r) → s (y + 2) (r * 3 + c) = f (22 + 3 * r + c) := h.2.2.1
theorem RY.left {s : Nat → Int → Int} {y : Nat} {f : Int → Int} (h : RY s y f) : ∀ r c t, 0 ≤ r → r < f 0 → 0 ≤ c → c < f (18 + r) → 0 ≤ t → t < f (22 + 3 * r + c) → s (y + 3) ((r * 3 + c) * 8 + t) = f (40 + 8 * (3 * r + c) + t) / 10 := h.2.2.2.1
theorem RY.right {s : Nat → Int → Int} {y : Nat} {f : Int → Int} (h : RY s y f) : ∀ r c t, 0 ≤ r → r < f 0 → 0 ≤ c → c < f (18 + r) → 0 ≤ t → t < f (22 + 3 * r + c) → s (y + 4) ((r * 3 + c) * 8 + t) = f (40 + 8 * (3 * r + c) + t) % 10 := h.2.2.2.2.1
theorem RY.points {s : Nat → Int → Int} {y : Nat} {f : Int → Int} (h : RY s y f) : ∀ r c t, 0 ≤ r → r < f 0 → 0 ≤ c → c < f (18 + r) → 0 ≤ t → t < f (22 + 3 * r + c) → s (y + 5) ((r * 3 + c) * 8 + t) = gSc (f (40 + 8 * (3 * r + c) + t)) := h.2.2.2.2.2
/-- a state of the class and a row -/
def RT (s : Nat → Int → Int) (t : Nat) (f : Int → Int) : Prop :=
  (s t 0 = f 1) ∧
  (s t 1 = f 3) ∧
  (s t 2 = f 2) ∧
  (s t 3 = f 4) ∧
  (s t 4 = bI (gOver f)) ∧
  (s t 5 = f 5) ∧
  (∀ c, 0 ≤ c → c < 3 → s (t + 1) c = if c < f (18 + f 1) then f (34 + c) else 0) ∧
  (∀ c, 0 ≤ c → c < 3 → s (t + 2) c = if c < f (18 + f 1) then f (37 + c) else 0) ∧
  (∀ r p, 0 ≤ r → r < 4 → 0 ≤ p → p ≤ 1 → s (t + 3) (r * 2 + p) = f (6 + 2 * r + p)) ∧
  (∀ p, 0 ≤ p → p ≤ 1 → s (t + 4) p = f (14 + p)) ∧
  (∀ p, 0 ≤ p → p ≤ 1 → s (t + 5) p = f (16 + p)) ∧
  (∀ i, 0 ≤ i → i < f 5 → s (t + 6) i = f (136 + i)) ∧
  (∀ i, 0 ≤ i → i < f 5 → s (t + 7) i = f (184 + i))
theorem RT.cur {s : Nat → Int → Int} {t : Nat} {f : Int → Int} (h : RT s t f) : s t 0 = f 1 := h.1
theorem RT.first {s : Nat → Int → Int} {t : Nat} {f : Int → Int} (h : RT s t f) : s t 1 = f 3 := h.2.1
theorem RT.turn {s : Nat → Int → Int} {t : Nat} {f : Int → Int} (h : RT s t f) : s t 2 = f 2 := h.2.2.1
theorem RT.passed {s : Nat → Int → Int} {t : Nat} {f : Int → Int} (h : RT s t f) : s t 3 = f 4 := h.2.2.2.1
theorem RT.over {s : Nat → Int → Int} {t : Nat} {f : Int → Int} (h : RT s t f) : s t 4 = bI (gOver f) := h.2.2.2.2.1
theorem RT.moves {s : Nat → Int → Int} {t : Nat} {f : Int → Int} (h : RT s t f) : s t 5 = f 5 := h.2.2.2.2.2.1
theorem RT.lo {s : Nat → Int → Int} {t : Nat} {f : Int → Int} (h : RT s t f) : ∀ c, 0 ≤ c → c < 3 → s (t + 1) c = if c < f (18 + f 1) then f (34 + c) else 0 := h.2.2.2.2.2.2.1
theorem RT.hi {s : Nat → Int → Int} {t : Nat} {f : Int → Int} (h : RT s t f) : ∀ c, 0 ≤ c → c < 3 → s (t + 2) c = if c < f (18 + f 1) then f (37 + c) else 0 := h.2.2.2.2.2.2.2.1
theorem RT.sc {s : Nat → Int → Int} {t : Nat} {f : Int → Int} (h : RT s t f) : ∀ r p, 0 ≤ r → r < 4 → 0 ≤ p → p ≤ 1 → s (t + 3) (r * 2 + p) = f (6 + 2 * r + p) := h.2.2.2.2.2.2.2.2.1
theorem RT.bu {s : Nat → Int → Int} {t : Nat} {f : Int → Int} (h : RT s t f) : ∀ p, 0 ≤ p → p ≤ 1 → s (t + 4) p = f (14 + p) := h.2.2.2.2.2.2.2.2.2.1
theorem RT.pa {s : Nat → Int → Int} {t : Nat} {f : Int → Int} (h : RT s t f) : ∀ p, 0 ≤ p → p ≤ 1 → s (t + 5) p = f (16 + p) := h.2.2.2.2.2.2.2.2.2.2.1
theorem RT.lc {s : Nat → Int → Int} {t : Nat} {f : Int → Int} (h : RT s t f) : ∀ i, 0 ≤ i → i < f 5 → s (t + 6) i = f (136 + i) := h.2.2.2.2.2.2.2.2.2.2.2.1
theorem RT.lp {s : Nat → Int → Int} {t : Nat} {f : Int → Int} (h : RT s t f) : ∀ i, 0 ≤ i → i < f 5 → s (t + 7) i = f (184 + i) := h.2.2.2.2.2.2.2.2.2.2.2.2
/-- a match of the class and a row -/
def RM (s : Nat → Int → Int) (m : Nat) (f : Int → Int) : Prop :=
  (RY s (m + 1) f) ∧
  (RT s (m + 7) f) ∧
  (FL f) ∧
  (FS f)
theorem RM.y {s : Nat → Int → Int} {m : Nat} {f : Int → Int} (h : RM s m f) : RY s (m + 1) f := h.1
theorem RM.t {s : Nat → Int → Int} {m : Nat} {f : Int → Int} (h : RM s m f) : RT s (m + 7) f := h.2.1
theorem RM.l {s : Nat → Int → Int} {m : Nat} {f : Int → Int} (h : RM s m f) : FL f := h.2.2.1
theorem RM.v {s : Nat → Int → Int} {m : Nat} {f : Int → Int} (h : RM s m f) : FS f := h.2.2.2
theorem RY.congr {s s' : Nat → Int → Int} {y : Nat} {f : Int → Int} (h : RY s y f) (e : ∀ q i, y ≤ q → q < y + 6 → s' q i = s q i) : RY s' y f :=
  ⟨by rw [e _ _ (by omega) (by omega)]; exact h.rn, fun r a b => by rw [e _ _ (by omega) (by omega)]; exact h.ch r a b, fun r c a b c' d => by rw [e _ _ (by omega) (by omega)]; exact h.len r c a b c' d,
   fun r c t a b c' d x z => by rw [e _ _ (by omega) (by omega)]; exact h.left r c t a b c' d x z, fun r c t a b c' d x z => by rw [e _ _ (by omega) (by omega)]; exact h.right r c t a b c' d x z, fun r c t a b c' d x z => by rw [e _ _ (by omega) (by omega)]; exact h.points r c t a b c' d x z⟩
theorem RT.congr {s s' : Nat → Int → Int} {t : Nat} {f : Int → Int} (h : RT s t f) (e : ∀ q i, t ≤ q → q < t + 8 → s' q i = s q i) : RT s' t f :=
  ⟨by rw [e _ _ (by omega) (by omega)]; exact h.cur, by rw [e _ _ (by omega) (by omega)]; exact h.first, by rw [e _ _ (by omega) (by omega)]; exact h.turn, by rw [e _ _ (by omega) (by omega)]; exact h.passed, by rw [e _ _ (by omega) (by omega)]; exact h.over, by rw [e _ _ (by omega) (by omega)]; exact h.moves,
   fun c a b => by rw [e _ _ (by omega) (by omega)]; exact h.lo c a b, fun c a b => by rw [e _ _ (by omega) (by omega)]; exact h.hi c a b, fun r p a b c d => by rw [e _ _ (by omega) (by omega)]; exact h.sc r p a b c d, fun p a b => by rw [e _ _ (by omega) (by omega)]; exact h.bu p a b, fun p a b => by rw [e _ _ (by omega) (by omega)]; exact h.pa p a b,
   fun i a b => by rw [e _ _ (by omega) (by omega)]; exact h.lc i a b, fun i a b => by rw [e _ _ (by omega) (by omega)]; exact h.lp i a b⟩
theorem RM.congr {s s' : Nat → Int → Int} {m : Nat} {f : Int → Int} (h : RM s m f) (e : ∀ q i, m < q → q < m + 15 → s' q i = s q i) : RM s' m f :=
  ⟨h.y.congr fun q i a b => e q i (by omega) (by omega), h.t.congr fun q i a b => e q i (by omega) (by omega), h.l, h.v⟩
/-- the chains of the present round -/
theorem RM.c {s : Nat → Int → Int} {m : Nat} {f : Int → Int} (h : RM s m f) : 1 ≤ f (18 + f 1) ∧ f (18 + f 1) ≤ 3 := h.l.ch _ h.v.cur.1 h.v.cur.2
/-- what holds of a chain of the present round -/
theorem RM.k {s : Nat → Int → Int} {m : Nat} {f : Int → Int} (h : RM s m f) (c : Int) (h0 : 0 ≤ c) (h1 : c < f (18 + f 1)) : s (m + 7 + 1) c = f (34 + c) ∧ s (m + 7 + 2) c = f (37 + c) ∧ 0 ≤ f (34 + c) ∧ f (34 + c) ≤ f (37 + c) ∧ f (37 + c) < f (22 + 3 * f 1 + c) ∧ f (22 + 3 * f 1 + c) ≤ 8 ∧ c < 3 := by
  have h3 : c < 3 := by have := h.c; omega
  have e1 := h.t.lo c h0 h3
  have e2 := h.t.hi c h0 h3
  rw [if_pos h1] at e1 e2
  obtain ⟨a1, a2, a3⟩ := h.v.ends c h0 h1
  exact ⟨e1, e2, a1, a2, a3, (h.l.len _ c h.v.cur.1 h.v.cur.2 h0 h1).2, h3⟩
/-- the points of a tile are small -/
theorem gSc_rng {t : Int} (h0 : 0 ≤ t) (h1 : t / 10 ≤ 6) (h2 : t % 10 ≤ 6) : 0 ≤ gSc t ∧ gSc t ≤ 24 := by
  unfold gSc; split <;> omega
theorem FL.pts {f : Int → Int} (h : FL f) {r c t : Int} (h0 : 0 ≤ r) (h1 : r < f 0) (h2 : 0 ≤ c) (h3 : c < f (18 + r)) (h4 : 0 ≤ t) (h5 : t < f (22 + 3 * r + c)) : 0 ≤ gSc (f (40 + 8 * (3 * r + c) + t)) ∧ gSc (f (40 + 8 * (3 * r + c) + t)) ≤ 24 := by
  obtain ⟨a, b, c'⟩ := h.tile r c t h0 h1 h2 h3 h4 h5
  exact gSc_rng a b c'

theorem RM.rounds {s : Nat → Int → Int} {m : Nat} {f : Int → Int} (h : RM s m f) : s (m + 1) 0 = f 0 := h.y.rn
theorem RM.ch {s : Nat → Int → Int} {m : Nat} {f : Int → Int} (h : RM s m f) (r : Int) (h0 : 0 ≤ r) (h1 : r < f 0) : s (m + 2) r = f (18 + r) := h.y.ch r h0 h1
theorem RM.len {s : Nat → Int → Int} {m : Nat} {f : Int → Int} (h : RM s m f) (r c : Int) (h0 : 0 ≤ r) (h1 : r < f 0) (h2 : 0 ≤ c) (h3 : c < f (18 + r)) : s (m + 3) (r * 3 + c) = f (22 + 3 * r + c) := h.y.len r c h0 h1 h2 h3
theorem RM.lefts {s : Nat → Int → Int} {m : Nat} {f : Int → Int} (h : RM s m f) (r c t : Int) (h0 : 0 ≤ r) (h1 : r < f 0) (h2 : 0 ≤ c) (h3 : c < f (18 + r)) (h4 : 0 ≤ t) (h5 : t < f (22 + 3 * r + c)) : s (m + 4) ((r * 3 + c) * 8 + t) = f (40 + 8 * (3 * r + c) + t) / 10 := h.y.left r c t h0 h1 h2 h3 h4 h5
theorem RM.rights {s : Nat → Int → Int} {m : Nat} {f : Int → Int} (h : RM s m f) (r c t : Int) (h0 : 0 ≤ r) (h1 : r < f 0) (h2 : 0 ≤ c) (h3 : c < f (18 + r)) (h4 : 0 ≤ t) (h5 : t < f (22 + 3 * r + c)) : s (m + 5) ((r * 3 + c) * 8 + t) = f (40 + 8 * (3 * r + c) + t) % 10 := h.y.right r c t h0 h1 h2 h3 h4 h5
theorem RM.points {s : Nat → Int → Int} {m : Nat} {f : Int → Int} (h : RM s m f) (r c t : Int) (h0 : 0 ≤ r) (h1 : r < f 0) (h2 : 0 ≤ c) (h3 : c < f (18 + r)) (h4 : 0 ≤ t) (h5 : t < f (22 + 3 * r + c)) : s (m + 6) ((r * 3 + c) * 8 + t) = gSc (f (40 + 8 * (3 * r + c) + t)) := h.y.points r c t h0 h1 h2 h3 h4 h5
theorem RM.round {s : Nat → Int → Int} {m : Nat} {f : Int → Int} (h : RM s m f) : s (m + 7) 0 = f 1 := h.t.cur
theorem RM.starter {s : Nat → Int → Int} {m : Nat} {f : Int → Int} (h : RM s m f) : s (m + 7) 1 = f 3 := h.t.first
theorem RM.mover {s : Nat → Int → Int} {m : Nat} {f : Int → Int} (h : RM s m f) : s (m + 7) 2 = f 2 := h.t.turn
theorem RM.passesInARow {s : Nat → Int → Int} {m : Nat} {f : Int → Int} (h : RM s m f) : s (m + 7) 3 = f 4 := h.t.passed
theorem RM.over {s : Nat → Int → Int} {m : Nat} {f : Int → Int} (h : RM s m f) : s (m + 7) 4 = bI (gOver f) := h.t.over
theorem RM.logged {s : Nat → Int → Int} {m : Nat} {f : Int → Int} (h : RM s m f) : s (m + 7) 5 = f 5 := h.t.moves
theorem RM.first {s : Nat → Int → Int} {m : Nat} {f : Int → Int} (h : RM s m f) (c : Int) (h0 : 0 ≤ c) (h1 : c < f (18 + f 1)) : s (m + 8) c = f (34 + c) := (h.k c h0 h1).1
theorem RM.last {s : Nat → Int → Int} {m : Nat} {f : Int → Int} (h : RM s m f) (c : Int) (h0 : 0 ≤ c) (h1 : c < f (18 + f 1)) : s (m + 9) c = f (37 + c) := (h.k c h0 h1).2.1
theorem RM.scores {s : Nat → Int → Int} {m : Nat} {f : Int → Int} (h : RM s m f) (r p : Int) (h0 : 0 ≤ r) (h1 : r < 4) (h2 : 0 ≤ p) (h3 : p ≤ 1) : s (m + 10) (r * 2 + p) = f (6 + 2 * r + p) := h.t.sc r p h0 h1 h2 h3
theorem RM.passed {s : Nat → Int → Int} {m : Nat} {f : Int → Int} (h : RM s m f) (p : Int) (h2 : 0 ≤ p) (h3 : p ≤ 1) : s (m + 12) p = f (16 + p) := h.t.pa p h2 h3
theorem RM.logCodes {s : Nat → Int → Int} {m : Nat} {f : Int → Int} (h : RM s m f) (i : Int) (h0 : 0 ≤ i) (h1 : i < f 5) : s (m + 13) i = f (136 + i) := h.t.lc i h0 h1
theorem RM.logPoints {s : Nat → Int → Int} {m : Nat} {f : Int → Int} (h : RM s m f) (i : Int) (h0 : 0 ≤ i) (h1 : i < f 5) : s (m + 14) i = f (184 + i) := h.t.lp i h0 h1
/-- what a walk over a match uses -/
theorem RM.w {s : Nat → Int → Int} {m : Nat} {f : Int → Int} (h : RM s m f) : (0 ≤ f 1 ∧ f 1 < f 0) ∧ (1 ≤ f 0 ∧ f 0 ≤ 4) ∧ (1 ≤ f (18 + f 1) ∧ f (18 + f 1) ≤ 3) ∧ (0 ≤ f 2 ∧ f 2 ≤ 1) ∧ (0 ≤ f 3 ∧ f 3 ≤ 1) ∧ (0 ≤ f 4 ∧ f 4 ≤ 2) :=
  ⟨h.v.cur, h.l.rn, h.c, h.v.turn, h.v.first, h.v.passed⟩
/-- the ends of a chain -/
theorem RM.e {s : Nat → Int → Int} {m : Nat} {f : Int → Int} (h : RM s m f) (c : Int) (h0 : 0 ≤ c) (h1 : c < f (18 + f 1)) : 0 ≤ f (34 + c) ∧ f (34 + c) ≤ f (37 + c) ∧ f (37 + c) < f (22 + 3 * f 1 + c) ∧ f (22 + 3 * f 1 + c) ≤ 8 ∧ c < 3 := (h.k c h0 h1).2.2
theorem gBt_rng {f : Int → Int} (hl : FL f) (hv : FS f) : 0 ≤ gBt f ∧ gBt f ≤ 21 := by
  have hc := hl.ch _ hv.cur.1 hv.cur.2
  have k0 := fun h => hv.ends 0 (by omega) h
  have k1 := fun h => hv.ends 1 (by omega) h
  have k2 := fun h => hv.ends 2 (by omega) h
  have l0 := fun h => hl.len _ 0 hv.cur.1 hv.cur.2 (by omega) h
  have l1 := fun h => hl.len _ 1 hv.cur.1 hv.cur.2 (by omega) h
  have l2 := fun h => hl.len _ 2 hv.cur.1 hv.cur.2 (by omega) h
  unfold gBt gS3
  dsimp only
  split
  · have := k0 (by omega)
    have := l0 (by omega)
    split
    · have := k1 (by omega)
      have := l1 (by omega)
      split
      · have := k2 (by omega)
        have := l2 (by omega)
        omega
      · omega
    · split <;> omega
  · omega
theorem RM.sr {s : Nat → Int → Int} {m : Nat} {f : Int → Int} (h : RM s m f) (r p : Int) (h0 : 0 ≤ r) (h1 : r < 4) (h2 : 0 ≤ p) (h3 : p ≤ 1) : 0 ≤ f (6 + 2 * r + p) ∧ f (6 + 2 * r + p) ≤ 504 := by
  have := h.v.sc r p h0 h1 h2 h3
  have := gBt_rng h.l h.v
  refine ⟨this.1 |> fun _ => (h.v.sc r p h0 h1 h2 h3).1, ?_⟩
  have h9 := (h.v.sc r p h0 h1 h2 h3).2
  split at h9
  · exact h9
  · split at h9 <;> omega
/-- the tile of a chain by its place now -/
def gT (f : Int → Int) (c t : Int) : Int := f (40 + 8 * (3 * f 1 + c) + (f (34 + c) + t))
def gSum (f : Int → Int) (c : Int) : Int := foldF (fun t a => a + gSc (gT f c t)) (f (37 + c) - f (34 + c) + 1).toNat 0 0
def gBurns (f : Int → Int) : Int := gS3 (f (18 + f 1)) fun c => f (37 + c) - f (34 + c)
def gMvn (f : Int → Int) (k : Nat) (c a : Int) : Int := foldF (fun c a => if 1 < f (37 + c) - f (34 + c) + 1 then a + 2 else a) k c a
noncomputable def gMoves (f : Int → Int) : Int := if bI (gOver f) = 1 then 0 else gMvn f (f (18 + f 1)).toNat 0 1
def gMv (f : Int → Int) : Nat → Int → Int → Int
  | 0, _, _ => 6
  | k + 1, c, i => if 1 < f (37 + c) - f (34 + c) + 1 then (if i < 2 then 2 * c + i else gMv f k (c + 1) (i - 2)) else gMv f k (c + 1) i
def gMvAt (f : Int → Int) (i : Int) : Int := gMv f (f (18 + f 1)).toNat 0 i
noncomputable def gCode (f : Int → Int) (i : Int) : Int := if 0 ≤ i ∧ i < gMoves f then gMvAt f i else -1
/-- a code of a move -/
def gOk (f : Int → Int) (z : Int) : Prop := z = 6 ∨ 0 ≤ z ∧ z / 2 < f (18 + f 1)
def gPt (f : Int → Int) (z : Int) : Int := if z = 6 then 0 else gSc (f (40 + 8 * (3 * f 1 + z / 2) + f ((if z % 2 = 0 then 34 else 37) + z / 2)))
/-- a row copied to another -/
def cpA (s : Nat → Int → Int) (q r n : Nat) : Nat → Int → Int := fun a i => if a = r ∧ 0 ≤ i ∧ i < n then s q i else s a i
theorem cpA_ne {s : Nat → Int → Int} {q r n a : Nat} {i : Int} (h : a ≠ r) : cpA s q r n a i = s a i := if_neg (fun e => h e.1)
theorem cpA_in {s : Nat → Int → Int} {q r n a : Nat} {i : Int} (h : a = r ∧ 0 ≤ i ∧ i < n) : cpA s q r n a i = s q i := if_pos h
theorem up_eqq {s : Nat → Int → Int} {q a : Nat} {i j z : Int} (h : a = q ∧ j = i) : up s q i z a j = z := if_pos h
theorem up_ext {s : Nat → Int → Int} {q : Nat} {i z j : Int} : up s q i z q j = if j = i then z else s q j := by
  unfold up
  by_cases h : j = i
  · rw [if_pos ⟨rfl, h⟩, if_pos h]
  · rw [if_neg (fun e => h e.2), if_neg h]
