section LN
variable {f g : Int → Int}
theorem gPlay_log (hl : FL f) (hv : FS f) {z j : Int} (hz : gLegal f z) (ho : ¬ gOver f) (h0 : 0 ≤ j) (h1 : j < f 5) : gPlay f z (184 + j) = f (184 + j) := by
  have := hv.cur; have := hl.rn; have := hv.turn; have := (gPlay_FS hl hv hz ho).moves; have := hl.ch _ hv.cur.1 hv.cur.2
  have := gLegal_rng (hl.ch _ hv.cur.1 hv.cur.2) hz.ok
  rw [gPlay_5] at *
  unfold gPlay
  repeat rw [if_neg (by omega)]
theorem gPlay_log0 (hl : FL f) (hv : FS f) {z : Int} (hz : gLegal f z) (ho : ¬ gOver f) : gPlay f z (184 + f 5) = gPt f z := by
  have := hv.cur; have := hl.rn; have := hv.turn; have := (gPlay_FS hl hv hz ho).moves; have := hl.ch _ hv.cur.1 hv.cur.2; have := hv.moves
  have := gLegal_rng (hl.ch _ hv.cur.1 hv.cur.2) hz.ok
  rw [gPlay_5] at *
  unfold gPlay
  repeat rw [if_neg (by omega)]
  rw [if_pos rfl]
theorem gRun_keep : ∀ (m : Nat) {g : Int → Int}, FL g → FS g → ∀ j, 0 ≤ j → j < g 5 → gRun m g (184 + j) = g (184 + j)
  | 0, g, _, _, _, _, _ => rfl
  | m + 1, g, hl, hv, j, j0, j1 => by
    by_cases ho : gOver g
    · rw [gRun_o ho]
    · have lg := gFo_legal hl hv ho
      rw [gRun_n ho, gRun_keep m (hl.lay (gPlay_lay hl hv lg)) (gPlay_FS hl hv lg ho) j j0 (by rw [gPlay_5]; omega)]
      exact gPlay_log hl hv lg ho j0 j1
theorem gRun_log : ∀ (k m : Nat) {f : Int → Int}, FL f → FS f → ¬ gOver (gRun k f) → gRun (k + 1 + m) f (184 + (f 5 + k)) = gPt (gRun k f) (gMvAt (gRun k f) (gFo (gRun k f)))
  | 0, m, f, hl, hv, ho => by
    have ho : ¬ gOver f := ho
    have lg := gFo_legal hl hv ho
    have m0 := hv.moves
    rw [show 0 + 1 + m = m + 1 by omega, gRun_n ho, show f 5 + ((0 : Nat) : Int) = f 5 by omega, gRun_keep m (hl.lay (gPlay_lay hl hv lg)) (gPlay_FS hl hv lg ho) _ (by omega) (by rw [gPlay_5]; omega)]
    exact gPlay_log0 hl hv lg ho
  | k + 1, m, f, hl, hv, ho => by
    by_cases h : gOver f
    · rw [gRun_o h] at ho; exact absurd h ho
    · have lg := gFo_legal hl hv h
      rw [gRun_n h] at ho ⊢
      rw [show k + 1 + 1 + m = k + 1 + m + 1 by omega, gRun_n h]
      have := gRun_log k m (hl.lay (gPlay_lay hl hv lg)) (gPlay_FS hl hv lg h) ho
      rw [gPlay_5, show f 5 + 1 + (k : Int) = f 5 + ((k + 1 : Nat) : Int) by omega] at this
      exact this
theorem gCnt_full : ∀ (k : Nat) {f : Int → Int}, ¬ gOver (gRun k f) → gCnt k f = k
  | 0, f, _ => rfl
  | k + 1, f, ho => by
    by_cases h : gOver f
    · rw [gRun_o h] at ho; exact absurd h ho
    · rw [gRun_n h] at ho
      rw [gCnt_n h, gCnt_full k ho]; omega
theorem gCnt_mono : ∀ (k m : Nat) {f : Int → Int}, gCnt k f ≤ gCnt (k + m) f
  | 0, m, f => (gCnt_rng (0 + m)).1
  | k + 1, m, f => by
    by_cases h : gOver f
    · rw [gCnt_o h, gCnt_o h]; omega
    · rw [show k + 1 + m = k + m + 1 by omega, gCnt_n h, gCnt_n h]
      have := gCnt_mono k m (f := gPlay f (gMvAt f (gFo f)))
      omega
theorem gRun_step : ∀ (k : Nat) {f : Int → Int}, ¬ gOver (gRun k f) → gCnt (k + 1) f = k + 1
  | 0, f, ho => by rw [gCnt_n (show ¬ gOver f from ho)]; rfl
  | k + 1, f, ho => by
    by_cases h : gOver f
    · rw [gRun_o h] at ho; exact absurd h ho
    · rw [gRun_n h] at ho
      rw [gCnt_n h, gRun_step k ho]; omega
theorem gRun_48 (hl : FL f) (hv : FS f) : gRun 48 f = gRun 42 f ∧ gCnt 48 f = gCnt 42 f := gRun_more 42 48 (by omega) (gRun_end 42 hl hv (by have := hv.moves; omega))
/-- the line's moves, by count -/
theorem gLok_iff (hl : FL f) (hv : FS f) (i : Int) : gLok f i ↔ 0 ≤ i ∧ i < gCnt 42 f := by
  have e42 := gRun_end 42 hl hv (by have := hv.moves; omega)
  constructor
  · rintro ⟨i0, _, ho⟩
    refine ⟨i0, ?_⟩
    have a := gRun_step _ ho
    by_cases h : i.toNat + 1 ≤ 42
    · have := gCnt_mono (i.toNat + 1) (42 - (i.toNat + 1)) (f := f)
      rw [show i.toNat + 1 + (42 - (i.toNat + 1)) = 42 by omega] at this
      omega
    · exact absurd (by rw [(gRun_more 42 i.toNat (by omega) e42).1]; exact e42) ho
  · rintro ⟨i0, i1⟩
    have ho : ¬ gOver (gRun i.toNat f) := fun h => by
      have r := @gCnt_rng i.toNat f
      have r2 := @gCnt_rng 42 f
      have := (gRun_more i.toNat 42 (by omega) h).2
      omega
    exact ⟨i0, by rw [gCnt_full _ ho]; omega, ho⟩
theorem gLok_val (hl : FL f) (hv : FS f) {i : Int} (h : gLok f i) : gRun 42 f (184 + (f 5 + i)) = gPt (gRun i.toNat f) (gMvAt (gRun i.toNat f) (gFo (gRun i.toNat f))) := by
  have k := (gLok_iff hl hv i).mp h
  have r2 := @gCnt_rng 42 f
  have := gRun_log i.toNat (42 - (i.toNat + 1)) hl hv h.2.2
  rw [show i.toNat + 1 + (42 - (i.toNat + 1)) = 42 by omega, show f 5 + ((i.toNat : Nat) : Int) = f 5 + i by omega] at this
  exact this
/-- the best of the burns is one of them, or what it began with -/
theorem gB_pick {W : (Int → Int) → Int} : ∀ (k : Nat) (c a : Int), 0 ≤ c → c + k ≤ f (18 + f 1) → gB W f k c a = a ∨ ∃ z, gBn f z ∧ gB W f k c a = gPt f z - W (gRem f z)
  | 0, _, _, _, _ => Or.inl rfl
  | k + 1, c, a, c0, ck => by
    unfold gB
    rw [foldF_s]
    by_cases q : 1 < f (37 + c) - f (34 + c) + 1
    · rw [if_pos q]
      obtain ⟨b1, b2⟩ := gBn_2 c0 (by omega) q
      rcases gB_pick (W := W) k (c + 1) (max a (max (gPt f (2 * c) - W (gRem f (2 * c))) (gPt f (2 * c + 1) - W (gRem f (2 * c + 1))))) (by omega) (by omega) with h | h
      · unfold gB at h
        rw [h]
        by_cases p1 : gPt f (2 * c) - W (gRem f (2 * c)) ≤ a ∧ gPt f (2 * c + 1) - W (gRem f (2 * c + 1)) ≤ a
        · left; omega
        · right
          by_cases p2 : gPt f (2 * c) - W (gRem f (2 * c)) ≤ gPt f (2 * c + 1) - W (gRem f (2 * c + 1))
          · exact ⟨_, b2, by omega⟩
          · exact ⟨_, b1, by omega⟩
      · exact Or.inr h
    · rw [if_neg q]
      exact gB_pick k (c + 1) a (by omega) (by omega)
theorem gB_ge {W : (Int → Int) → Int} : ∀ (k : Nat) (c a : Int), 0 ≤ c → c + k ≤ f (18 + f 1) → ∀ z, gBn f z → c ≤ z / 2 → z / 2 < c + k → gPt f z - W (gRem f z) ≤ gB W f k c a
  | 0, _, _, _, _, _, _, _, _ => by omega
  | k + 1, c, a, c0, ck, z, b, z0, z1 => by
    unfold gB
    rw [foldF_s]
    by_cases e : z / 2 = c
    · have b2 := b.2
      rw [e] at b2
      rw [if_pos (by omega)]
      have lo := gB_low (f := f) (W := W) k (c + 1) (max a (max (gPt f (2 * c) - W (gRem f (2 * c))) (gPt f (2 * c + 1) - W (gRem f (2 * c + 1)))))
      unfold gB at lo
      have zz : z = 2 * c ∨ z = 2 * c + 1 := by omega
      rcases zz with rfl | rfl <;> omega
    · exact gB_ge k (c + 1) _ (by omega) (by omega) z b (by omega) (by omega)
theorem gWf_vals (hl : FL f) (hv : FS f) (ho : ¬ gOver f) : gWf f = gB gWf f (f (18 + f 1)).toNat 0 (gVal f 6) := by
  by_cases h : f 4 = 1
  · rw [gVal_p1 h]; exact gWf_eq hl hv
  · rw [gVal_p0 h]; exact (gB_neg hl hv (fun g => ho (Or.inr g))).symm
theorem gMv_last : ∀ (k : Nat) (c : Int), gMv f k c (gMvn f k c 1 - 1) = 6
  | 0, _ => rfl
  | k + 1, c => by
    rw [gMvn_s]
    by_cases h : 1 < f (37 + c) - f (34 + c) + 1
    · have r := gMvn_rng (f := f) k (c + 1) 1
      rw [if_pos h, gMvn_2, gMv_s1 h (by omega), show gMvn f k (c + 1) 1 + 2 - 1 - 2 = gMvn f k (c + 1) 1 - 1 by omega]
      exact gMv_last k (c + 1)
    · rw [if_neg h, gMv_s3 h]
      exact gMv_last k (c + 1)
theorem gMv_sur : ∀ (k : Nat) (c z : Int), 0 ≤ c → c ≤ z / 2 → z / 2 < c + k → f (34 + z / 2) < f (37 + z / 2) → ∃ j, 0 ≤ j ∧ j < gMvn f k c 1 - 1 ∧ gMv f k c j = z
  | 0, _, _, _, _, _, _ => by omega
  | k + 1, c, z, c0, z0, z1, hb => by
    have r := gMvn_rng (f := f) k (c + 1) 1
    rw [gMvn_s]
    by_cases e : z / 2 = c
    · rw [e] at hb
      have h : 1 < f (37 + c) - f (34 + c) + 1 := by omega
      rw [if_pos h, gMvn_2]
      exact ⟨z - 2 * c, by omega, by omega, by rw [gMv_s2 h (by omega)]; omega⟩
    · obtain ⟨j, j0, j1, j2⟩ := gMv_sur k (c + 1) z (by omega) (by omega) (by omega) hb
      by_cases h : 1 < f (37 + c) - f (34 + c) + 1
      · rw [if_pos h, gMvn_2]
        exact ⟨j + 2, by omega, by omega, by rw [gMv_s1 h (by omega), show j + 2 - 2 = j by omega]; exact j2⟩
      · rw [if_neg h]
        exact ⟨j, j0, j1, by rw [gMv_s3 h]; exact j2⟩
theorem gMvAt_last (ho : ¬ gOver f) : gMvAt f (gMoves f - 1) = 6 := by rw [gMoves_not ho]; exact gMv_last _ 0
theorem gMvAt_sur (hc : 1 ≤ f (18 + f 1) ∧ f (18 + f 1) ≤ 3) (ho : ¬ gOver f) {z : Int} (b : gBn f z) : ∃ j, 0 ≤ j ∧ j < gMoves f ∧ gMvAt f j = z := by
  have b1 := b.1
  obtain ⟨j, j0, j1, j2⟩ := gMv_sur (f := f) (f (18 + f 1)).toNat 0 z (by omega) (by omega) (by omega) b.2
  exact ⟨j, j0, by rw [gMoves_not ho]; omega, j2⟩
/-- the first best move has the highest value -/
theorem gFo_max : ∀ (k : Nat) (i b : Int), gVal f (gMvAt f b) ≤ gVal f (gMvAt f (foldF (gFoS f) k i b)) ∧ ∀ j, i ≤ j → j < i + k → gVal f (gMvAt f j) ≤ gVal f (gMvAt f (foldF (gFoS f) k i b))
  | 0, i, b => ⟨Int.le_refl _, fun j a c => by omega⟩
  | k + 1, i, b => by
    rw [foldF_s]
    obtain ⟨h1, h2⟩ := gFo_max k (i + 1) (gFoS f i b)
    have s : gVal f (gMvAt f b) ≤ gVal f (gMvAt f (gFoS f i b)) ∧ gVal f (gMvAt f i) ≤ gVal f (gMvAt f (gFoS f i b)) := by
      unfold gFoS
      by_cases q : gVal f (gMvAt f b) < gVal f (gMvAt f i)
      · rw [if_pos q]; omega
      · rw [if_neg q]; omega
    refine ⟨by omega, fun j a c => ?_⟩
    by_cases e : j = i
    · subst e; omega
    · exact h2 j (by omega) (by omega)
theorem gFo_val (hl : FL f) (hv : FS f) (ho : ¬ gOver f) : gVal f (gMvAt f (gFo f)) = gWf f := by
  have hc := hl.ch _ hv.cur.1 hv.cur.2
  have mp := gMoves_pos hc ho
  have e := gWf_vals hl hv ho
  have mx := gFo_max (f := f) (gMoves f - 1).toNat 1 0
  have hi : ∀ j, 0 ≤ j → j < gMoves f → gVal f (gMvAt f j) ≤ gVal f (gMvAt f (gFo f)) := fun j a b => by
    by_cases q : j = 0
    · subst q; exact mx.1
    · exact mx.2 j (by omega) (by omega)
  have up : gVal f (gMvAt f (gFo f)) ≤ gWf f := by
    have lg := gFo_legal hl hv ho
    by_cases q : gMvAt f (gFo f) = 6
    · rw [q, e]; exact gB_low _ _ _
    · have b := lg.bn q
      have b1 := b.1
      rw [gVal_b q, e]
      exact gB_ge _ _ _ (by omega) (by omega) _ b (by omega) (by omega)
  have lo : gWf f ≤ gVal f (gMvAt f (gFo f)) := by
    rcases gB_pick (f := f) (W := gWf) (f (18 + f 1)).toNat 0 (gVal f 6) (by omega) (by omega) with h | ⟨z, b, h⟩
    · rw [e, h]
      have := hi (gMoves f - 1) (by omega) (by omega)
      rw [gMvAt_last ho] at this
      exact this
    · obtain ⟨j, j0, j1, j2⟩ := gMvAt_sur hc ho b
      have := hi j j0 j1
      have z6 : z ≠ 6 := by have := (gE_rng hc b).2.2; omega
      rw [j2, gVal_b z6] at this
      rw [e, h]; exact this
  omega
theorem many_ge : ∀ (k : Nat) (i n : Int), n ≤ foldF (gManyS f) k i n ∧ ∀ j, i ≤ j → j < i + k → gVal f (gMvAt f j) = gNow f → n + 1 ≤ foldF (gManyS f) k i n
  | 0, i, n => ⟨Int.le_refl _, fun j a b => by omega⟩
  | k + 1, i, n => by
    rw [foldF_s]
    obtain ⟨h1, h2⟩ := many_ge k (i + 1) (gManyS f i n)
    have s : n ≤ gManyS f i n := by unfold gManyS; split <;> omega
    refine ⟨by omega, fun j a b hj => ?_⟩
    by_cases e : j = i
    · subst e
      have : gManyS f j n = n + 1 := if_pos hj
      omega
    · have := h2 j (by omega) (by omega) hj; omega
theorem many_two : ∀ (k : Nat) (i n j j' : Int), i ≤ j → j < j' → j' < i + k → gVal f (gMvAt f j) = gNow f → gVal f (gMvAt f j') = gNow f → n + 2 ≤ foldF (gManyS f) k i n
  | 0, _, _, _, _, _, _, _, _, _ => by omega
  | k + 1, i, n, j, j', a, b, c, h, h' => by
    rw [foldF_s]
    have s : n ≤ gManyS f i n := by unfold gManyS; split <;> omega
    by_cases e : j = i
    · subst e
      have s2 : gManyS f j n = n + 1 := if_pos h
      have := (many_ge k (j + 1) (gManyS f j n)).2 j' (by omega) (by omega) h'
      omega
    · have := many_two k (i + 1) (gManyS f i n) j j' (by omega) b (by omega) h h'
      omega
theorem forced_iff (hl : FL f) (hv : FS f) (ho : ¬ gOver f) : (gMany f = 1 ∧ gVal f 6 = gNow f) ↔ (gMany f = 1 ∧ gMvAt f (gFo f) = 6) := by
  have hc := hl.ch _ hv.cur.1 hv.cur.2
  have fr := gFo_rng hc ho
  have fv := gFo_val hl hv ho
  have nw := gNow_n ho
  constructor
  · rintro ⟨h1, h2⟩
    refine ⟨h1, ?_⟩
    have e : gFo f = gMoves f - 1 := Classical.byContradiction fun g => by
      have := many_two (f := f) (gMoves f).toNat 0 0 (gFo f) (gMoves f - 1) fr.1 (by omega) (by omega) (fv.trans nw.symm) (by rw [gMvAt_last ho]; exact h2)
      have h1' : foldF (gManyS f) (gMoves f).toNat 0 0 = 1 := h1
      omega
    rw [e]; exact gMvAt_last ho
  · rintro ⟨h1, h2⟩
    rw [h2] at fv
    exact ⟨h1, fv.trans nw.symm⟩
theorem gMany_over (ho : gOver f) : gMany f = 0 := by unfold gMany; rw [gMoves_over ho]; rfl
end LN
/-- the class's match m and a solver that is ready for its round -/
def SR (s : Nat → Int → Int) (m : Nat) (f : Int → Int) : Prop := RM s m f ∧ SO s f ∧ s 51 10 = f 1 ∧ s 51 11 = 1
theorem SR.w {s s' : Nat → Int → Int} {m : Nat} {f : Int → Int} (h : SR s m f) (hm : jIsM m) (k : ∀ q j, q ≠ 57 → s' q j = s q j) : SR s' m f := by
  have hm2 : m = 3 ∨ m = 21 ∨ m = 36 := hm
  exact ⟨h.1.congr fun q j a b => k q j (by omega), h.2.1.keep fun q j a => k q j (by omega), (k _ _ (by decide)).trans h.2.2.1, (k _ _ (by decide)).trans h.2.2.2⟩
/-- what a call of the class that works on the trial and the solver leaves -/
def CFr (s s' : Nat → Int → Int) (f : Int → Int) : Prop := SO s' f ∧ ∀ q j, (q ≤ 36 ∨ 60 < q) → s' q j = s q j
/-- an exception, and what holds of the memory -/
def XQ (E0 : String) (Q : (Nat → Int → Int) → Prop) (ε : jEps) : String → jM → Prop := fun E M => E = E0 ∧ ∃ s', M = jmem s' ε ∧ Q s'
