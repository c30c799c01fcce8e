section GE
variable {f g : Int → Int} {z : Int}
/-- two rows with the same tiles, of which each chain has the same ends or is short in both -/
def gEqv (f g : Int → Int) : Prop := g 1 = f 1 ∧ g (18 + f 1) = f (18 + f 1) ∧ (∀ j, 40 ≤ j → j < 136 → g j = f j) ∧
  ∀ c, 0 ≤ c → c < f (18 + f 1) → (g (34 + c) = f (34 + c) ∧ g (37 + c) = f (37 + c)) ∨ (f (34 + c) = f (37 + c) ∧ g (34 + c) = g (37 + c))
theorem gEqv.pt (hl : FL f) (hv : FS f) (e : gEqv f g) (b : gBn f z) : gPt g z = gPt f z := by
  have hc := hl.ch _ hv.cur.1 hv.cur.2
  have hr := hl.rn
  have hu := hv.cur
  have h6 := (gE_rng hc b).2.2
  obtain ⟨⟨b0, b1⟩, b2⟩ := b
  have x := hv.e hl (z / 2) (by omega) b1
  have y := e.2.2.2 (z / 2) (by omega) b1
  by_cases p : z % 2 = 0
  · rw [gPt_l (by omega) p, gPt_l (by omega) p, e.1, show g (34 + z / 2) = f (34 + z / 2) by omega, e.2.2.1 _ (by omega) (by omega)]
  · rw [gPt_r (by omega) p, gPt_r (by omega) p, e.1, show g (37 + z / 2) = f (37 + z / 2) by omega, e.2.2.1 _ (by omega) (by omega)]
theorem gEqv.rem (hl : FL f) (hv : FS f) (e : gEqv f g) (b : gBn f z) : gEqv (gRem f z) (gRem g z) := by
  have hc := hl.ch _ hv.cur.1 hv.cur.2
  have hr := hl.rn
  have hu := hv.cur
  have ge := gE_rng hc b
  have hC := gRem_C hc (by omega) b
  have z0 : 0 ≤ z ∧ z < 6 := ⟨b.1.1, ge.2.2⟩
  have f1 : gRem f z 1 = f 1 := gRem_ne (by omega)
  have g1 : gRem g z 1 = g 1 := gRem_ne (by omega)
  refine ⟨by rw [f1, g1]; exact e.1, ?_, fun j a b => by rw [gRem_ne (by omega), gRem_ne (by omega)]; exact e.2.2.1 j a b, fun c c0 c1 => ?_⟩
  · rw [f1, gRem_ne (by omega), gRem_ne (by omega)]; exact e.2.1
  · rw [f1, gRem_ne (by omega)] at c1
    have x := hv.e hl c c0 c1
    have y := e.2.2.2 c c0 c1
    rw [gRem_lo z0 c0 (by omega), gRem_hi z0 c0 (by omega), gRem_lo z0 c0 (by omega), gRem_hi z0 c0 (by omega)]
    by_cases q : c = z / 2
    · subst q
      have b2 := b.2
      left
      (repeat' split) <;> omega
    · rw [if_neg (fun h => q h.1), if_neg (fun h => q h.1), if_neg (fun h => q h.1), if_neg (fun h => q h.1)]
      exact y
theorem gEqv.burn {c : Int} (e : gEqv f g) (c0 : 0 ≤ c) (c1 : c < f (18 + f 1)) : 1 < g (37 + c) - g (34 + c) + 1 ↔ 1 < f (37 + c) - f (34 + c) + 1 := by
  have := e.2.2.2 c c0 c1
  omega
theorem gB_eqv {W : (Int → Int) → Int} (hl : FL f) (hv : FS f) (e : gEqv f g) (h : ∀ z, gBn f z → W (gRem g z) = W (gRem f z)) : ∀ (k : Nat) (c a : Int), 0 ≤ c → c + k ≤ f (18 + f 1) → gB W g k c a = gB W f k c a
  | 0, _, _, _, _ => rfl
  | k + 1, c, a, c0, ck => by
    have ih := gB_eqv hl hv e h k (c + 1)
    unfold gB at ih ⊢
    rw [foldF_s, foldF_s]
    by_cases q : 1 < f (37 + c) - f (34 + c) + 1
    · obtain ⟨b1, b2⟩ := gBn_2 c0 (by omega) q
      rw [if_pos q, if_pos ((e.burn c0 (by omega)).mpr q), h _ b1, h _ b2, e.pt hl hv b1, e.pt hl hv b2]
      exact ih _ (by omega) (by omega)
    · rw [if_neg q, if_neg (fun x => q ((e.burn c0 (by omega)).mp x))]
      exact ih _ (by omega) (by omega)
theorem gW_eqv : ∀ (n : Nat) {f g : Int → Int}, FL f → FS f → gEqv f g → gW n g = gW n f
  | 0, _, _, _, _, _ => rfl
  | n + 1, f, g, hl, hv, e => by
    have hc := hl.ch _ hv.cur.1 hv.cur.2
    show gB (gW n) g (g (18 + g 1)).toNat 0 0 = gB (gW n) f (f (18 + f 1)).toNat 0 0
    rw [e.1, e.2.1]
    exact gB_eqv hl hv e (fun z b => gW_eqv n (gRem_FL hl hv b) (gRem_FS hl hv b) (e.rem hl hv b)) _ 0 0 (by omega) (by omega)
theorem gWf_eqv (hl : FL f) (hv : FS f) (e : gEqv f g) : gWf g = gWf f := gW_eqv 21 hl hv e
end GE
section GV
variable {f : Int → Int} {z : Int}
/-- the value of a move -/
def gVal (f : Int → Int) (z : Int) : Int := if z = 6 then (if f 4 = 1 then 0 else -gWf f) else gPt f z - gWf (gRem f z)
theorem gVal_b (h : z ≠ 6) : gVal f z = gPt f z - gWf (gRem f z) := if_neg h
theorem gVal_p1 (h : f 4 = 1) : gVal f 6 = 0 := (if_pos rfl).trans (if_pos h)
theorem gVal_p0 (h : f 4 ≠ 1) : gVal f 6 = -gWf f := (if_pos rfl).trans (if_neg h)
noncomputable def gNow (f : Int → Int) : Int := if bI (gOver f) = 1 then 0 else gWf f
theorem gNow_o (h : gOver f) : gNow f = 0 := if_pos (bI_t h)
theorem gNow_n (h : ¬ gOver f) : gNow f = gWf f := if_neg (by rw [bI_f h]; decide)
theorem gLegal.bn (h : gLegal f z) (h6 : z ≠ 6) : gBn f z := by
  rcases h with h | h
  · exact absurd h h6
  · exact ⟨⟨h.1, h.2.1⟩, h.2.2⟩
theorem gVal_rng (hl : FL f) (hv : FS f) (h : gLegal f z) : -24 ≤ gVal f z ∧ gVal f z ≤ 24 := by
  by_cases e : z = 6
  · subst e
    have := gWf_rng hl hv
    by_cases q : f 4 = 1
    · rw [gVal_p1 q]; omega
    · rw [gVal_p0 q]; omega
  · have b := h.bn e
    have := gWf_rng (gRem_FL hl hv b) (gRem_FS hl hv b)
    have := gPt_rng hl hv h.ok
    rw [gVal_b e]; omega
/-- the first move with the highest value, and the first with the lowest -/
def gFoS (f : Int → Int) (k b : Int) : Int := if gVal f (gMvAt f b) < gVal f (gMvAt f k) then k else b
def gWoS (f : Int → Int) (k b : Int) : Int := if gVal f (gMvAt f k) < gVal f (gMvAt f b) then k else b
noncomputable def gFo (f : Int → Int) : Int := foldF (gFoS f) (gMoves f - 1).toNat 1 0
noncomputable def gWo (f : Int → Int) : Int := foldF (gWoS f) (gMoves f - 1).toNat 1 0
noncomputable def gManyS (f : Int → Int) (k n : Int) : Int := if gVal f (gMvAt f k) = gNow f then n + 1 else n
noncomputable def gMany (f : Int → Int) : Int := foldF (gManyS f) (gMoves f).toNat 0 0
theorem gMany_rng (hc : 1 ≤ f (18 + f 1) ∧ f (18 + f 1) ≤ 3) : 0 ≤ gMany f ∧ gMany f ≤ 7 := by
  have hm := gMoves_rng hc
  have := foldF_rng (st := gManyS f) (b := 1) (fun i a => by unfold gManyS; split <;> omega) (gMoves f).toNat 0 0
  unfold gMany
  omega
theorem foldF_pick {st : Int → Int → Int} (h : ∀ i b, st i b = i ∨ st i b = b) : ∀ (k : Nat) (i b n : Int), 0 ≤ i → i + k ≤ n → 0 ≤ b → b < n → 0 ≤ foldF st k i b ∧ foldF st k i b < n
  | 0, _, _, _, _, _, h1, h2 => ⟨h1, h2⟩
  | k + 1, i, b, n, i0, ik, b0, b1 => by
    rw [foldF_s]
    rcases h i b with e | e <;> rw [e]
    · exact foldF_pick h k (i + 1) i n (by omega) (by omega) i0 (by omega)
    · exact foldF_pick h k (i + 1) b n (by omega) (by omega) b0 b1
theorem gMoves_pos (hc : 1 ≤ f (18 + f 1) ∧ f (18 + f 1) ≤ 3) (ho : ¬ gOver f) : 1 ≤ gMoves f := by
  rw [gMoves_not ho]
  have := gMvn_rng (f := f) (f (18 + f 1)).toNat 0 1
  omega
theorem gFo_rng (hc : 1 ≤ f (18 + f 1) ∧ f (18 + f 1) ≤ 3) (ho : ¬ gOver f) : 0 ≤ gFo f ∧ gFo f < gMoves f := by
  have := gMoves_pos hc ho
  exact foldF_pick (fun i b => by unfold gFoS; split; exact Or.inl rfl; exact Or.inr rfl) _ _ _ _ (by omega) (by omega) (by omega) (by omega)
/-- optimal play, some moves on -/
noncomputable def gRun : Nat → (Int → Int) → (Int → Int)
  | 0, f => f
  | k + 1, f => if bI (gOver f) = 1 then f else gRun k (gPlay f (gMvAt f (gFo f)))
noncomputable def gCnt : Nat → (Int → Int) → Int
  | 0, _ => 0
  | k + 1, f => if bI (gOver f) = 1 then 0 else gCnt k (gPlay f (gMvAt f (gFo f))) + 1
theorem gRun_o {k : Nat} (h : gOver f) : gRun k f = f := by cases k; rfl; exact if_pos (bI_t h)
theorem gRun_n {k : Nat} (h : ¬ gOver f) : gRun (k + 1) f = gRun k (gPlay f (gMvAt f (gFo f))) := if_neg (by rw [bI_f h]; decide)
theorem gCnt_o {k : Nat} (h : gOver f) : gCnt k f = 0 := by cases k; rfl; exact if_pos (bI_t h)
theorem gCnt_n {k : Nat} (h : ¬ gOver f) : gCnt (k + 1) f = gCnt k (gPlay f (gMvAt f (gFo f))) + 1 := if_neg (by rw [bI_f h]; decide)
theorem gFo_legal (hl : FL f) (hv : FS f) (ho : ¬ gOver f) : gLegal f (gMvAt f (gFo f)) := by
  have hc := hl.ch _ hv.cur.1 hv.cur.2
  exact gMvAt_legal hc (gFo_rng hc ho).1
theorem gRun_lv : ∀ (k : Nat) {f : Int → Int}, FL f → FS f → FL (gRun k f) ∧ FS (gRun k f) ∧ gLay f (gRun k f) ∧ gRun k f 1 = f 1
  | 0, f, hl, hv => ⟨hl, hv, gLay.refl f, rfl⟩
  | k + 1, f, hl, hv => by
    by_cases ho : gOver f
    · rw [gRun_o ho]; exact ⟨hl, hv, gLay.refl f, rfl⟩
    · have lg := gFo_legal hl hv ho
      have ly := gPlay_lay hl hv lg
      obtain ⟨a, b, c, d⟩ := gRun_lv k (hl.lay ly) (gPlay_FS hl hv lg ho)
      rw [gRun_n ho]
      exact ⟨a, b, ly.trans c, d.trans (gPlay_1 hl hv lg)⟩
theorem gRun_5 : ∀ (k : Nat) {f : Int → Int}, gRun k f 5 = f 5 + gCnt k f
  | 0, f => by show f 5 = f 5 + 0; omega
  | k + 1, f => by
    by_cases ho : gOver f
    · rw [gRun_o ho, gCnt_o ho]; omega
    · rw [gRun_n ho, gCnt_n ho, gRun_5 k, gPlay_5]; omega
/-- optimal play comes to an end -/
theorem gRun_end : ∀ (k : Nat) {f : Int → Int}, FL f → FS f → 42 - f 5 ≤ k → gOver (gRun k f)
  | 0, f, hl, hv, h => Classical.byContradiction fun ho => by
    have lg := gFo_legal hl hv ho
    have := (gPlay_FS hl hv lg ho).moves
    rw [gPlay_5] at this
    omega
  | k + 1, f, hl, hv, h => by
    by_cases ho : gOver f
    · rw [gRun_o ho]; exact ho
    · have lg := gFo_legal hl hv ho
      rw [gRun_n ho]
      exact gRun_end k (hl.lay (gPlay_lay hl hv lg)) (gPlay_FS hl hv lg ho) (by rw [gPlay_5]; omega)
theorem gRun_more : ∀ (k m : Nat) {f : Int → Int}, k ≤ m → gOver (gRun k f) → gRun m f = gRun k f ∧ gCnt m f = gCnt k f
  | 0, m, f, _, h => ⟨gRun_o h, by rw [gCnt_o (f := f) h, gCnt_o (f := f) h]⟩
  | k + 1, 0, f, h, _ => by omega
  | k + 1, m + 1, f, hm, h => by
    by_cases ho : gOver f
    · rw [gRun_o ho, gRun_o ho, gCnt_o ho, gCnt_o ho]; exact ⟨rfl, rfl⟩
    · rw [gRun_n ho] at h ⊢
      rw [gRun_n ho, gCnt_n ho, gCnt_n ho]
      obtain ⟨a, b⟩ := gRun_more k m (by omega) h
      exact ⟨a, by rw [b]⟩
end GV
theorem gNow_rng {f : Int → Int} (hl : FL f) (hv : FS f) : 0 ≤ gNow f ∧ gNow f ≤ 24 := by
  by_cases ho : gOver f
  · rw [gNow_o ho]; omega
  · rw [gNow_n ho]; exact gWf_rng hl hv
/-- only the values and the row that is looked at have changed -/
def RFr (s s' : Nat → Int → Int) : Prop := (∀ q i, q ≠ 138 → q ≠ 141 → s' q i = s q i) ∧ ∀ j, (j < s 137 2 ∨ s 137 2 + 232 ≤ j) → s' 138 j = s 138 j
theorem RFr.refl (s : Nat → Int → Int) : RFr s s := ⟨fun _ _ _ _ => rfl, fun _ _ => rfl⟩
theorem RFr.step {s z t u : Nat → Int → Int} (h : RFr s z) (v : VFr z t) (w : FrM t u) : RFr s u := by
  have e : t 137 2 = s 137 2 := (v _ _ (by decide)).trans (h.1 _ _ (by decide) (by decide))
  exact ⟨fun q i a b => (w.1 q i a).trans ((v q i b).trans (h.1 q i a b)), fun j hj => (w.2 j (by rw [e]; exact hj)).trans ((v _ _ (by decide)).trans (h.2 j hj))⟩
theorem RFr.v {s z t : Nat → Int → Int} (h : RFr s z) (v : VFr z t) : RFr s t := h.step v (FrM.refl t)
theorem MFr.of {s s' : Nat → Int → Int} (h : s 137 2 = 0) (v : VFr (up s 137 0 0) s') : MFr s s' :=
  ⟨fun q i a b c => (v q i c).trans (up_ne (Or.inl a)), fun i a b => (v _ _ (by decide)).trans (up_ne (Or.inr a)), ((v _ _ (by decide)).trans (up_ne (Or.inr (by decide)))).trans h, (v _ _ (by decide)).trans (up_eq _ _ _ _), fun j hj => (v _ _ (by decide)).trans (up_ne (Or.inl (by decide)))⟩
/-- the row in which of the first n chains only one has more than a tile -/
def gOnly (f : Int → Int) (c n : Int) : Int → Int := fun j => if 37 ≤ j ∧ j < 37 + n ∧ j ≠ 37 + c then f (j - 3) else f j
theorem gS3_mono {n : Int} {a b : Int → Int} (hn : 1 ≤ n ∧ n ≤ 3) (h : ∀ x, 0 ≤ x → x < n → a x ≤ b x) : gS3 n a ≤ gS3 n b := by
  have h0 := h 0 (by omega) (by omega)
  have h1 := h 1 (by omega)
  have h2 := h 2 (by omega)
  unfold gS3
  by_cases q1 : 1 < n
  · have := h1 q1
    by_cases q2 : 2 < n
    · have := h2 q2
      rw [if_pos (show 0 < n by omega), if_pos (show 0 < n by omega), if_pos q1, if_pos q1, if_pos q2, if_pos q2]; omega
    · rw [if_pos (show 0 < n by omega), if_pos (show 0 < n by omega), if_pos q1, if_pos q1, if_neg q2, if_neg q2]; omega
  · rw [if_pos (show 0 < n by omega), if_pos (show 0 < n by omega), if_neg q1, if_neg q1, if_neg (show ¬ 2 < n by omega), if_neg (show ¬ 2 < n by omega)]; omega
section GO
variable {f : Int → Int} {c n : Int}
theorem gOnly_o {j : Int} (hn : n ≤ 3) (h : j < 37 ∨ 40 ≤ j) : gOnly f c n j = f j := if_neg (by omega)
theorem gOnly_hi (x : Int) : gOnly f c n (37 + x) = if 0 ≤ x ∧ x < n ∧ x ≠ c then f (34 + x) else f (37 + x) := by
  unfold gOnly
  by_cases h : 0 ≤ x ∧ x < n ∧ x ≠ c
  · rw [if_pos h, if_pos (by omega), show 37 + x - 3 = 34 + x by omega]
  · rw [if_neg h, if_neg (by omega)]
theorem gOnly_lay (hn : n ≤ 3) : gLay f (gOnly f c n) := ⟨gOnly_o hn (by omega), fun j a b => gOnly_o hn (by omega), fun j a b => gOnly_o hn (by omega)⟩
theorem gOnly_FS (hl : FL f) (hv : FS f) (hn : n ≤ f (18 + f 1)) : FS (gOnly f c n) := by
  have hc := hl.ch _ hv.cur.1 hv.cur.2
  have hr := hl.rn
  have hu := hv.cur
  have n3 : n ≤ 3 := by omega
  have o : ∀ {j : Int}, (j < 37 ∨ 40 ≤ j) → gOnly f c n j = f j := fun h => gOnly_o n3 h
  have bt : gBt f ≤ gBt (gOnly f c n) := by
    unfold gBt
    rw [o (j := 1) (by omega), o (j := 18 + f 1) (by omega)]
    refine gS3_mono hc fun x x0 x1 => ?_
    have := hv.ends x x0 x1
    rw [o (j := 34 + x) (by omega), o (j := 22 + 3 * f 1 + x) (by omega), gOnly_hi]
    split <;> omega
  have m0 := hv.moves
  refine ⟨by rw [o (by omega), o (by omega)]; exact hv.cur, by rw [o (by omega)]; exact hv.turn, by rw [o (by omega)]; exact hv.first, by rw [o (by omega)]; exact hv.passed, ?_, fun x x0 x1 => ?_, fun r p r0 r1 p0 p1' => ?_, fun p p0 p1' => ?_, fun i i0 i1 => ?_⟩
  · rw [o (j := 5) (by omega), o (j := 4) (by omega)]; omega
  · rw [o (j := 1) (by omega), o (j := 18 + f 1) (by omega)] at x1
    have y := hv.ends x x0 x1
    rw [o (j := 1) (by omega), o (j := 34 + x) (by omega), o (j := 22 + 3 * f 1 + x) (by omega), gOnly_hi]
    split <;> omega
  · have y := hv.sc r p r0 r1 p0 p1'
    rw [o (by omega), o (j := 1) (by omega)]
    refine ⟨y.1, ?_⟩
    (repeat' split) <;> (repeat' split at y) <;> omega
  · have y := hv.bu p p0 p1'
    rw [o (by omega), o (j := 1) (by omega)]
    omega
  · rw [o (j := 5) (by omega)] at i1
    rw [o (by omega)]
    exact hv.lg i i0 i1
end GO
