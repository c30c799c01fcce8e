def gRemain (f : Int → Int) : Int := foldF (fun c a => a + gSum f c) (f (18 + f 1)).toNat 0 0
def gWithC (f : Int → Int) (p c a : Int) : Int := foldF (fun t a => if gT f c t / 10 = p ∨ gT f c t % 10 = p then a + 1 else a) (f (37 + c) - f (34 + c) + 1).toNat 0 a
def gWith (f : Int → Int) (p : Int) : Int := foldF (gWithC f p) (f (18 + f 1)).toNat 0 0
def gDblC (f : Int → Int) (c a : Int) : Int := foldF (fun t a => if gT f c t / 10 = gT f c t % 10 then a + 1 else a) (f (37 + c) - f (34 + c) + 1).toNat 0 a
def gDbl (f : Int → Int) : Int := foldF (gDblC f) (f (18 + f 1)).toNat 0 0
noncomputable def gMWin (f : Int → Int) : Int := if bI (f 1 = f 0 - 1 ∧ gOver f) = 1 then (if gWins f 0 - gWins f 1 = 0 then gLead (gTot f 0) (gTot f 1) else gLead (gWins f 0) (gWins f 1)) else -1
def gChn (z : Int) : Int := if z = 6 then -1 else z / 2
theorem foldF_rng {st : Int → Int → Int} {b : Int} (h : ∀ i a, a ≤ st i a ∧ st i a ≤ a + b) : ∀ (k : Nat) (i a : Int), a ≤ foldF st k i a ∧ foldF st k i a ≤ a + b * k
  | 0, i, a => by simp [foldF]
  | k + 1, i, a => by
    have h1 := h i a
    have h2 := foldF_rng h k (i + 1) (st i a)
    rw [foldF_s]
    have e : b * ((k + 1 : Nat) : Int) = b * k + b := by rw [Int.natCast_add, Int.mul_add]; simp
    omega
theorem foldF_rng2 {st : Int → Int → Int} {b n : Int} (h : ∀ i, 0 ≤ i → i < n → ∀ a, a ≤ st i a ∧ st i a ≤ a + b) (hb : 0 ≤ b) : ∀ (k : Nat) (i a : Int), 0 ≤ i → i + k ≤ n → a ≤ foldF st k i a ∧ foldF st k i a ≤ a + b * k
  | 0, i, a, _, _ => by simp [foldF]
  | k + 1, i, a, h0, hk => by
    have h1 := h i h0 (by omega) a
    have h2 := foldF_rng2 h hb k (i + 1) (st i a) (by omega) (by omega)
    rw [foldF_s]
    have e : b * ((k + 1 : Nat) : Int) = b * k + b := by rw [Int.natCast_add, Int.mul_add]; simp
    omega
theorem gWins_rng {f : Int → Int} (hl : FL f) (p : Int) : 0 ≤ gWins f p ∧ gWins f p ≤ 4 := by
  have hr := hl.rn
  have := foldF_rng (st := fun r a => if gWin f r = p then a + 1 else a) (b := 1) (fun i a => by split <;> omega) (f 0).toNat 0 0
  unfold gWins
  omega
theorem gTot_rng {f : Int → Int} (hl : FL f) (hv : FS f) {p : Int} (h0 : 0 ≤ p) (h1 : p ≤ 1) : 0 ≤ gTot f p ∧ gTot f p ≤ 2016 := by
  have hr := hl.rn
  have := foldF_rng2 (st := fun r a => a + f (6 + 2 * r + p)) (b := 504) (n := 4) (fun i i0 i1 a => by have := hv.sr hl i p i0 i1 h0 h1; omega) (by omega) (f 0).toNat 0 0 (by omega) (by omega)
  unfold gTot
  omega
theorem gSum_rng {f : Int → Int} (hl : FL f) (hv : FS f) {c : Int} (h0 : 0 ≤ c) (h1 : c < f (18 + f 1)) : 0 ≤ gSum f c ∧ gSum f c ≤ 192 := by
  have e := hv.e hl c h0 h1
  have := foldF_rng2 (st := fun t a => a + gSc (gT f c t)) (b := 24) (n := f (37 + c) - f (34 + c) + 1) (fun i i0 i1 a => by have := gTs_rng hl hv h0 h1 i0 i1; omega) (by omega) (f (37 + c) - f (34 + c) + 1).toNat 0 0 (by omega) (by omega)
  unfold gSum
  omega
theorem gLst_rng {f : Int → Int} (hl : FL f) (hv : FS f) {c : Int} (h0 : 0 ≤ c) (h1 : c < f (18 + f 1)) : 0 ≤ gLst f c ∧ gLst f c ≤ 24 := by
  have e := hv.e hl c h0 h1
  have key : ∀ (k : Nat) (i a : Int), 0 ≤ i → i + k ≤ f (37 + c) - f (34 + c) + 1 → 0 ≤ a ∧ a ≤ 24 → 0 ≤ foldF (fun t a => min a (gSc (gT f c t))) k i a ∧ foldF (fun t a => min a (gSc (gT f c t))) k i a ≤ 24 := by
    intro k
    induction k with
    | zero => intro i a _ _ h; exact h
    | succ k ih =>
      intro i a i0 i1 h
      have := gTs_rng hl hv h0 h1 (t := i) i0 (by omega)
      exact ih (i + 1) _ (by omega) (by omega) (by dsimp only; omega)
  exact key _ 1 _ (by omega) (by omega) (gTs_rng hl hv h0 h1 (t := 0) (by omega) (by omega))
theorem gGreat_rng {f : Int → Int} (hl : FL f) (hv : FS f) {p : Int} (h0 : 0 ≤ p) (h1 : p ≤ 1) : -100 ≤ gGreat f p ∧ gGreat f p ≤ 1200 := by
  have hc := hl.ch _ hv.cur.1 hv.cur.2
  have hu := hv.cur
  have hr := hl.rn
  have hs := hv.sr hl (f 1) p hu.1 (by omega) h0 h1
  unfold gGreat
  split
  · omega
  · have key : ∀ (k : Nat) (i a : Int), 0 ≤ i → i + k ≤ f (18 + f 1) → a - 24 * k ≤ foldF (fun c a => a + (gSum f c - gLst f c)) k i a ∧ foldF (fun c a => a + (gSum f c - gLst f c)) k i a ≤ a + 192 * k := by
      intro k
      induction k with
      | zero => intro i a _ _; simp [foldF]
      | succ k ih =>
        intro i a i0 i1
        have a1 := gSum_rng hl hv i0 (by omega)
        have a2 := gLst_rng hl hv i0 (by omega)
        have := ih (i + 1) (a + (gSum f i - gLst f i)) (by omega) (by omega)
        rw [foldF_s]
        omega
    have := key (f (18 + f 1)).toNat 0 (f (6 + 2 * f 1 + p)) (by omega) (by omega)
    omega
theorem gBurns_eq {s : Nat → Int → Int} {m : Nat} {f : Int → Int} (h : RM s m f) : s (m + 9) 0 - s (m + 8) 0 + (s (m + 9) 1 - s (m + 8) 1) + (s (m + 9) 2 - s (m + 8) 2) = gBurns f := by
  have l0 := h.t.lo 0 (by omega) (by omega)
  have l1 := h.t.lo 1 (by omega) (by omega)
  have l2 := h.t.lo 2 (by omega) (by omega)
  have h0 := h.t.hi 0 (by omega) (by omega)
  have h1 := h.t.hi 1 (by omega) (by omega)
  have h2 := h.t.hi 2 (by omega) (by omega)
  change s (m + 8) _ = _ at l0 l1 l2
  change s (m + 9) _ = _ at h0 h1 h2
  rw [l0, l1, l2, h0, h1, h2]
  unfold gBurns gS3
  dsimp only
  (repeat' split) <;> omega
theorem gBurns_fold {f : Int → Int} (hc : 1 ≤ f (18 + f 1) ∧ f (18 + f 1) ≤ 3) : foldF (fun c a => a + (f (37 + c) - f (34 + c) + 1 - 1)) (f (18 + f 1)).toNat 0 0 = gBurns f := by
  unfold gBurns gS3
  have h : f (18 + f 1) = 1 ∨ f (18 + f 1) = 2 ∨ f (18 + f 1) = 3 := by omega
  rcases h with h | h | h <;> rw [h] <;> simp [foldF] <;> omega
