section LY
variable {s s' : Nat → Int → Int} {g : Int → Int} {y : Nat}
theorem RY.ord (h : RY s y g) (p : FP g) (h0 : g 0 < 4) : RY (up (up s (y + 1) (g 0) 0) y 0 (g 0 + 1)) y (gORd g) := by
  obtain ⟨a1, a2, a3, a4, a5⟩ := p
  have e0 : gORd g 0 = g 0 + 1 := rfl
  have e : ∀ j, j ≠ 0 → gORd g j = g j := fun j h => upr_ne h
  have z0 := (a2 (g 0) a1.1 h0).2.2 (Int.le_refl _)
  have w : ∀ r, r < gORd g 0 → ∀ c, 0 ≤ c → c < gORd g (18 + r) → 0 ≤ r → r < g 0 := fun r r1 c c0 c1 r0 => by
    rw [e _ (by omega)] at c1
    by_cases q : r = g 0
    · rw [q, z0] at c1; omega
    · rw [e0] at r1; omega
  refine ⟨up_eq _ _ _ _, fun r r0 r1 => ?_, fun r c r0 r1 c0 c1 => ?_, fun r c t r0 r1 c0 c1 t0 t1 => ?_, fun r c t r0 r1 c0 c1 t0 t1 => ?_, fun r c t r0 r1 c0 c1 t0 t1 => ?_⟩
  · rw [e _ (by omega), up_ne (by omega)]
    by_cases q : r = g 0
    · rw [q, up_eq, z0]
    · rw [up_ne (by omega)]; exact h.ch r r0 (by rw [e0] at r1; omega)
  · have x := w r r1 c c0 c1 r0
    rw [e _ (by omega)] at c1 ⊢
    rw [up_ne (by omega), up_ne (by omega)]; exact h.len r c r0 x c0 c1
  · have x := w r r1 c c0 c1 r0
    rw [e _ (by omega)] at c1 t1 ⊢
    rw [up_ne (by omega), up_ne (by omega)]; exact h.left r c t r0 x c0 c1 t0 t1
  · have x := w r r1 c c0 c1 r0
    rw [e _ (by omega)] at c1 t1 ⊢
    rw [up_ne (by omega), up_ne (by omega)]; exact h.right r c t r0 x c0 c1 t0 t1
  · have x := w r r1 c c0 c1 r0
    rw [e _ (by omega)] at c1 t1 ⊢
    rw [up_ne (by omega), up_ne (by omega)]; exact h.points r c t r0 x c0 c1 t0 t1
theorem RY.och {r : Int} (h : RY s y g) (p : FP g) (r0 : 0 ≤ r) (r1 : r < g 0) (h3 : g (18 + r) < 3) : RY (up (up s (y + 2) (r * 3 + g (18 + r)) 0) (y + 1) r (g (18 + r) + 1)) y (gOCh g r) := by
  obtain ⟨a1, a2, a3, a4, a5⟩ := p
  have e0 : gOCh g r (18 + r) = g (18 + r) + 1 := upr_eqq rfl
  have e : ∀ j, j ≠ 18 + r → gOCh g r j = g j := fun j h => upr_ne h
  have x2 := a2 r r0 (by omega)
  have z0 := (a3 r (g (18 + r)) r0 (by omega) x2.1 h3).2.2 (Int.le_refl _)
  have w : ∀ s, 0 ≤ s → s < g 0 → ∀ c, 0 ≤ c → c < gOCh g r (18 + s) → c < 3 ∧ (c < g (18 + s) ∨ s = r ∧ c = g (18 + r)) := fun s s0 s1 c c0 c1 => by
    have x := a2 s s0 (by omega)
    by_cases q : s = r
    · subst q; rw [e0] at c1; omega
    · rw [e _ (by omega)] at c1; omega
  refine ⟨by rw [up_ne (by omega), up_ne (by omega), e _ (by omega)]; exact h.rn, fun s s0 s1 => ?_, fun s c s0 s1 c0 c1 => ?_, fun s c t s0 s1 c0 c1 t0 t1 => ?_, fun s c t s0 s1 c0 c1 t0 t1 => ?_, fun s c t s0 s1 c0 c1 t0 t1 => ?_⟩
  · rw [e 0 (by omega)] at s1
    by_cases q : s = r
    · subst q; rw [up_eq, e0]
    · rw [up_ne (by omega), up_ne (by omega), e _ (by omega)]; exact h.ch s s0 s1
  · rw [e 0 (by omega)] at s1
    have x := w s s0 s1 c c0 c1
    rw [up_ne (by omega), e _ (by omega)]
    rcases x.2 with q | ⟨rfl, rfl⟩
    · rw [up_ne (by by_cases e : s = r; (subst e; omega); omega)]; exact h.len s c s0 s1 c0 q
    · rw [up_eq, z0]
  · rw [e 0 (by omega)] at s1
    have x := w s s0 s1 c c0 c1
    rw [e _ (by omega)] at t1 ⊢
    rcases x.2 with q | ⟨rfl, rfl⟩
    · rw [up_ne (by omega), up_ne (by omega)]; exact h.left s c t s0 s1 c0 q t0 t1
    · omega
  · rw [e 0 (by omega)] at s1
    have x := w s s0 s1 c c0 c1
    rw [e _ (by omega)] at t1 ⊢
    rcases x.2 with q | ⟨rfl, rfl⟩
    · rw [up_ne (by omega), up_ne (by omega)]; exact h.right s c t s0 s1 c0 q t0 t1
    · omega
  · rw [e 0 (by omega)] at s1
    have x := w s s0 s1 c c0 c1
    rw [e _ (by omega)] at t1 ⊢
    rcases x.2 with q | ⟨rfl, rfl⟩
    · rw [up_ne (by omega), up_ne (by omega)]; exact h.points s c t s0 s1 c0 q t0 t1
    · omega
theorem RY.add {r c t a b : Int} (h : RY s y g) (p : FP g) (r0 : 0 ≤ r) (r1 : r < g 0) (c0 : 0 ≤ c) (c1 : c < g (18 + r)) (ht : t = g (22 + 3 * r + c)) (t8 : t < 8) (ha : 0 ≤ a ∧ a ≤ 6) (hb : 0 ≤ b ∧ b ≤ 6) :
    RY (up (up (up (up s (y + 3) ((r * 3 + c) * 8 + t) a) (y + 4) ((r * 3 + c) * 8 + t) b) (y + 5) ((r * 3 + c) * 8 + t) (if a = b then 2 * (a + b) else a + b)) (y + 2) (r * 3 + c) (t + 1)) y (gAdd g r c t (10 * a + b)) := by
  obtain ⟨a1, a2, a3, a4, a5⟩ := p
  have x2 := a2 r r0 (by omega)
  have x3 := a3 r c r0 (by omega) c0 (by omega)
  have lo : ∀ j, j < 22 → gAdd g r c t (10 * a + b) j = g j := fun j hj => gAdd_o (by omega) (by unfold gTp; omega)
  have d1 : (10 * a + b) / 10 = a := by omega
  have d2 : (10 * a + b) % 10 = b := by omega
  have tt : ∀ s d k, 0 ≤ s → s < g 0 → 0 ≤ d → d < gAdd g r c t (10 * a + b) (18 + s) → 0 ≤ k → k < gAdd g r c t (10 * a + b) (22 + 3 * s + d) → (s = r ∧ d = c ∧ k = t) ∨ (d < g (18 + s) ∧ d < 3 ∧ k < g (22 + 3 * s + d) ∧ k < 8 ∧ (s * 3 + d) * 8 + k ≠ (r * 3 + c) * 8 + t ∧ gAdd g r c t (10 * a + b) (40 + 8 * (3 * s + d) + k) = g (40 + 8 * (3 * s + d) + k)) := fun s d k s0 s1 d0 d1 k0 k1 => by
    rw [lo _ (by omega)] at d1
    have y2 := a2 s s0 (by omega)
    have y3 := a3 s d s0 (by omega) d0 (by omega)
    by_cases q : s = r ∧ d = c
    · obtain ⟨rfl, rfl⟩ := q
      rw [gAdd_l] at k1
      by_cases q2 : k = t
      · exact Or.inl ⟨rfl, rfl, q2⟩
      · exact Or.inr ⟨d1, by omega, by omega, by omega, by omega, gAdd_o (by omega) (by unfold gTp; omega)⟩
    · rw [gAdd_o (by omega) (by unfold gTp; omega)] at k1
      exact Or.inr ⟨d1, by omega, k1, by omega, by omega, gAdd_o (by omega) (by unfold gTp; omega)⟩
  refine ⟨by rw [up_ne (by omega), up_ne (by omega), up_ne (by omega), up_ne (by omega), lo _ (by omega)]; exact h.rn, fun s s0 s1 => ?_, fun s d s0 s1 d0 d1 => ?_, fun s d k s0 s1 e0 e1 k0 k1 => ?_, fun s d k s0 s1 e0 e1 k0 k1 => ?_, fun s d k s0 s1 e0 e1 k0 k1 => ?_⟩
  · rw [lo _ (by omega)] at s1
    rw [up_ne (by omega), up_ne (by omega), up_ne (by omega), up_ne (by omega), lo _ (by omega)]; exact h.ch s s0 s1
  · rw [lo _ (by omega)] at s1 d1
    have y2 := a2 s s0 (by omega)
    by_cases q : s = r ∧ d = c
    · obtain ⟨rfl, rfl⟩ := q
      rw [up_eq, gAdd_l]
    · rw [up_ne (by omega), up_ne (by omega), up_ne (by omega), up_ne (by omega), gAdd_o (by omega) (by unfold gTp; omega)]; exact h.len s d s0 s1 d0 d1
  · rw [lo _ (by omega)] at s1
    rcases tt s d k s0 s1 e0 e1 k0 k1 with ⟨rfl, rfl, rfl⟩ | ⟨f1, f2, f3, f4, f5, f6⟩
    · rw [up_ne (by omega), up_ne (by omega), up_ne (by omega), up_eq]
      exact d1.symm.trans (congrArg (· / 10) (gAdd_t ⟨s0, by omega⟩ ⟨e0, by omega⟩ k0).symm)
    · rw [up_ne (by omega), up_ne (by omega), up_ne (by omega), up_ne (by omega), f6]; exact h.left s d k s0 s1 e0 f1 k0 f3
  · rw [lo _ (by omega)] at s1
    rcases tt s d k s0 s1 e0 e1 k0 k1 with ⟨rfl, rfl, rfl⟩ | ⟨f1, f2, f3, f4, f5, f6⟩
    · rw [up_ne (by omega), up_ne (by omega), up_eq]
      exact d2.symm.trans (congrArg (· % 10) (gAdd_t ⟨s0, by omega⟩ ⟨e0, by omega⟩ k0).symm)
    · rw [up_ne (by omega), up_ne (by omega), up_ne (by omega), up_ne (by omega), f6]; exact h.right s d k s0 s1 e0 f1 k0 f3
  · rw [lo _ (by omega)] at s1
    rcases tt s d k s0 s1 e0 e1 k0 k1 with ⟨rfl, rfl, rfl⟩ | ⟨f1, f2, f3, f4, f5, f6⟩
    · rw [up_ne (by omega), up_eq]
      refine Eq.trans ?_ (congrArg gSc (gAdd_t ⟨s0, by omega⟩ ⟨e0, by omega⟩ k0).symm)
      unfold gSc; rw [d1, d2]
    · rw [up_ne (by omega), up_ne (by omega), up_ne (by omega), up_ne (by omega), f6]; exact h.points s d k s0 s1 e0 f1 k0 f3
end LY
set_option maxHeartbeats 1000000 in
theorem c_X1_clear {Γ : jE} (hl : Γ.1.stackTraces = false) {s : Nat → Int → Int} {ε : jEps} {d : Nat} {y : Nat} (hd : 0 ≤ d) (hy : jIsY y) : Con Γ (d, 0, 0) mX1_clear [.ref y] (jmem s ε) (RV (up s y 0 0) ε) X0 := by
  refine Con.ofJ (by decide +kernel) (by simp [Value.category]) (Nat.le_of_ble_eq_true rfl) ?_ hl
  refine J.aload_n 0 dX1_clear_0 rfl rfl ?_
  refine I.iconst dX1_clear_1 ?_
  refine I.pI 0 rfl dX1_clear_2 jcls fX1_27 (shY hy) (by decide) rfl ?_
  exact I.vret dX1_clear_5 rfl rfl
set_option maxHeartbeats 1000000 in
theorem c_X1_lengthOfP {Γ : jE} (hl : Γ.1.stackTraces = false) {s : Nat → Int → Int} {ε : jEps} {d : Nat} {y : Nat} {r : Int} {c : Int} {g : Int → Int} (hd : 1 ≤ d) (hy : jIsY y) (p0 : RY s y g) (p1 : FP g) (p2 : 0 ≤ r ∧ r < g 0) (p3 : 0 ≤ c ∧ c < g (18 + r)) : Con Γ (d, 0, 0) mX1_lengthOf [.ref y, .int (iI r), .int (iI c)] (jmem s ε) (RI (g (22 + 3 * r + c)) (s) ε) X0 := by
  refine Con.ofJ (by decide +kernel) (by simp [Value.category]) (Nat.le_of_ble_eq_true rfl) ?_ hl
  have f1 := p1.1
  have f2 := p1.2.1
  have f3 := p1.2.2.1
  have x2 := f2 r (by omega) (by omega)
  refine J.iload_n 2 dX1_lengthOf_0 rfl rfl ?_
  refine J.aload_n 0 dX1_lengthOf_1 rfl rfl ?_
  refine I.getR dX1_lengthOf_2 jcls fX1_9 (shY hy) (by decide) rfl (taY1 hy) ?_
  refine J.iload_n 1 dX1_lengthOf_5 rfl rfl ?_
  refine I.callSN2i (d' := d - 1) (mi' := mX8_at) dX1_lengthOf_6 nX1_39 eX8_at (c_X8_at (d := d - 1) hl (by omega) (shY1 hy) (by first | omega | assumption) (by first | omega | assumption)) (show d - 1 + 1 ≤ d from by omega) (Nat.le_of_ble_eq_true rfl) ?_
  refine I.sx (p0.ch r p2.1 p2.2) ?_
  refine I.icmp_ge 27 dX1_lengthOf_9 (by decide) (by omega) (by omega) (fun h9 => ?_) (fun h9 => ?_)
  · exact absurd h9 (by omega)
  · skip
    refine J.aload_n 0 dX1_lengthOf_12 rfl rfl ?_
    refine I.getR dX1_lengthOf_13 jcls fX1_15 (shY hy) (by decide) rfl (taY2 hy) ?_
    refine J.iload_n 1 dX1_lengthOf_16 rfl rfl ?_
    refine I.iconst dX1_lengthOf_17 ?_
    refine I.mul dX1_lengthOf_18 ?_
    refine J.iload_n 2 dX1_lengthOf_19 rfl rfl ?_
    refine I.add dX1_lengthOf_20 ?_
    refine I.callSN2i (d' := d - 1) (mi' := mX8_at) dX1_lengthOf_21 nX1_39 eX8_at (c_X8_at (d := d - 1) hl (by omega) (shY2 hy) (by first | omega | assumption) (by first | omega | assumption)) (show d - 1 + 1 ≤ d from by omega) (Nat.le_of_ble_eq_true rfl) ?_
    refine I.sx (p0.len r c p2.1 p2.2 p3.1 p3.2) ?_
    refine J.goto 28 dX1_lengthOf_24 (by decide) ?_
    exact I.iretI dX1_lengthOf_28 rfl (by first | rfl | omega) rfl
set_option maxHeartbeats 1000000 in
theorem c_X1_openRound {Γ : jE} (hl : Γ.1.stackTraces = false) {s : Nat → Int → Int} {ε : jEps} {d : Nat} {y : Nat} {g : Int → Int} (hd : 1 ≤ d) (hy : jIsY y) (p0 : RY s y g) (p1 : FP g) (p2 : g 0 < 4) : Con Γ (d, 0, 0) mX1_openRound [.ref y] (jmem s ε) (RW (fun s' => RY s' y (gORd g) ∧ ∀ q i, (q < y ∨ y + 6 ≤ q) → s' q i = s q i) ε) X0 := by
  refine Con.ofJ (by decide +kernel) (by simp [Value.category]) (Nat.le_of_ble_eq_true rfl) ?_ hl
  have f1 := p1.1
  have f2 := p1.2.1
  have f3 := p1.2.2.1
  refine J.aload_n 0 dX1_openRound_0 rfl rfl ?_
  refine I.getR dX1_openRound_1 jcls fX1_9 (shY hy) (by decide) rfl (taY1 hy) ?_
  refine J.aload_n 0 dX1_openRound_4 rfl rfl ?_
  refine I.gI 0 rfl dX1_openRound_5 jcls fX1_27 (shY hy) (by decide) rfl ?_
  refine I.sx p0.rn ?_
  refine I.iconst dX1_openRound_8 ?_
  refine I.callSN3v (d' := d - 1) (mi' := mX8_put) dX1_openRound_9 nX1_35 eX8_put (c_X8_put (d := d - 1) hl (by omega) (shY1 hy) (by first | omega | assumption) (by first | omega | assumption)) (show d - 1 + 1 ≤ d from by omega) (Nat.le_of_ble_eq_true rfl) ?_
  refine J.aload_n 0 dX1_openRound_12 rfl rfl ?_
  refine J.dupR dX1_openRound_13 ?_
  refine I.gI 0 rfl dX1_openRound_14 jcls fX1_27 (shY hy) (by decide) rfl ?_
  refine I.sx ((up_ne (by omega)).trans p0.rn) ?_
  refine I.iconst dX1_openRound_17 ?_
  refine I.add dX1_openRound_18 ?_
  refine I.pI 0 rfl dX1_openRound_19 jcls fX1_27 (shY hy) (by decide) rfl ?_
  exact I.vretQ dX1_openRound_22 rfl ⟨p0.ord p1 p2, fun q i h => (up_ne (by omega)).trans (up_ne (by omega))⟩
set_option maxHeartbeats 1000000 in
theorem c_X1_openChain {Γ : jE} (hl : Γ.1.stackTraces = false) {s : Nat → Int → Int} {ε : jEps} {d : Nat} {y : Nat} {g : Int → Int} (hd : 1 ≤ d) (hy : jIsY y) (p0 : RY s y g) (p1 : FP g) (p2 : 1 ≤ g 0) (p3 : g (18 + (g 0 - 1)) < 3) : Con Γ (d, 0, 0) mX1_openChain [.ref y] (jmem s ε) (RW (fun s' => RY s' y (gOCh g (g 0 - 1)) ∧ ∀ q i, (q < y ∨ y + 6 ≤ q) → s' q i = s q i) ε) X0 := by
  refine Con.ofJ (by decide +kernel) (by simp [Value.category]) (Nat.le_of_ble_eq_true rfl) ?_ hl
  have f1 := p1.1
  have f2 := p1.2.1
  have f3 := p1.2.2.1
  have x2 := f2 (g 0 - 1) (by omega) (by omega)
  refine J.aload_n 0 dX1_openChain_0 rfl rfl ?_
  refine I.gI 0 rfl dX1_openChain_1 jcls fX1_27 (shY hy) (by decide) rfl ?_
  refine I.sx p0.rn ?_
  refine I.iconst dX1_openChain_4 ?_
  refine I.sub dX1_openChain_5 ?_
  refine J.istore_n 1 dX1_openChain_6 rfl (by decide) rfl ?_
  refine J.aload_n 0 dX1_openChain_7 rfl rfl ?_
  refine I.getR dX1_openChain_8 jcls fX1_9 (shY hy) (by decide) rfl (taY1 hy) ?_
  refine J.iload_n 1 dX1_openChain_11 rfl rfl ?_
  refine I.callSN2i (d' := d - 1) (mi' := mX8_at) dX1_openChain_12 nX1_39 eX8_at (c_X8_at (d := d - 1) hl (by omega) (shY1 hy) (by first | omega | assumption) (by first | omega | assumption)) (show d - 1 + 1 ≤ d from by omega) (Nat.le_of_ble_eq_true rfl) ?_
  refine I.sx (p0.ch (g 0 - 1) (by omega) (by omega)) ?_
  refine J.istore_n 2 dX1_openChain_15 rfl (by decide) rfl ?_
  refine J.aload_n 0 dX1_openChain_16 rfl rfl ?_
  refine I.getR dX1_openChain_17 jcls fX1_15 (shY hy) (by decide) rfl (taY2 hy) ?_
  refine J.iload_n 1 dX1_openChain_20 rfl rfl ?_
  refine I.iconst dX1_openChain_21 ?_
  refine I.mul dX1_openChain_22 ?_
  refine J.iload_n 2 dX1_openChain_23 rfl rfl ?_
  refine I.add dX1_openChain_24 ?_
  refine I.iconst dX1_openChain_25 ?_
  refine I.callSN3v (d' := d - 1) (mi' := mX8_put) dX1_openChain_26 nX1_35 eX8_put (c_X8_put (d := d - 1) hl (by omega) (shY2 hy) (by first | omega | assumption) (by first | omega | assumption)) (show d - 1 + 1 ≤ d from by omega) (Nat.le_of_ble_eq_true rfl) ?_
  refine J.aload_n 0 dX1_openChain_29 rfl rfl ?_
  refine I.getR dX1_openChain_30 jcls fX1_9 (shY hy) (by decide) rfl (taY1 hy) ?_
  refine J.iload_n 1 dX1_openChain_33 rfl rfl ?_
  refine J.iload_n 2 dX1_openChain_34 rfl rfl ?_
  refine I.iconst dX1_openChain_35 ?_
  refine I.add dX1_openChain_36 ?_
  refine I.callSN3v (d' := d - 1) (mi' := mX8_put) dX1_openChain_37 nX1_35 eX8_put (c_X8_put (d := d - 1) hl (by omega) (shY1 hy) (by first | omega | assumption) (by first | omega | assumption)) (show d - 1 + 1 ≤ d from by omega) (Nat.le_of_ble_eq_true rfl) ?_
  exact I.vretQ dX1_openChain_40 rfl ⟨p0.och p1 (by omega) (by omega) p3, fun q i h => (up_ne (by omega)).trans (up_ne (by omega))⟩
set_option maxHeartbeats 1000000 in
theorem c_X1_addTile {Γ : jE} (hl : Γ.1.stackTraces = false) {s : Nat → Int → Int} {ε : jEps} {d : Nat} {y : Nat} {a : Int} {b : Int} {g : Int → Int} {c t : Int} (hd : 2 ≤ d) (hy : jIsY y) (p0 : RY s y g) (p1 : FP g) (p2 : 1 ≤ g 0) (p3 : c = g (18 + (g 0 - 1)) - 1 ∧ 0 ≤ c) (p4 : t = g (22 + 3 * (g 0 - 1) + c) ∧ t < 8) (p5 : 0 ≤ a ∧ a ≤ 6) (p6 : 0 ≤ b ∧ b ≤ 6) : Con Γ (d, 0, 0) mX1_addTile [.ref y, .int (iI a), .int (iI b)] (jmem s ε) (RW (fun s' => RY s' y (gAdd g (g 0 - 1) c t (10 * a + b)) ∧ ∀ q i, (q < y ∨ y + 6 ≤ q) → s' q i = s q i) ε) X0 := by
  refine Con.ofJ (by decide +kernel) (by simp [Value.category]) (Nat.le_of_ble_eq_true rfl) ?_ hl
  have f1 := p1.1
  have f2 := p1.2.1
  have f3 := p1.2.2.1
  have x2 := f2 (g 0 - 1) (by omega) (by omega)
  have x3 := f3 (g 0 - 1) c (by omega) (by omega) (by omega) (by omega)
  refine J.aload_n 0 dX1_addTile_0 rfl rfl ?_
  refine I.gI 0 rfl dX1_addTile_1 jcls fX1_27 (shY hy) (by decide) rfl ?_
  refine I.sx p0.rn ?_
  refine I.iconst dX1_addTile_4 ?_
  refine I.sub dX1_addTile_5 ?_
  refine J.istore_n 3 dX1_addTile_6 rfl (by decide) rfl ?_
  refine J.aload_n 0 dX1_addTile_7 rfl rfl ?_
  refine I.getR dX1_addTile_8 jcls fX1_9 (shY hy) (by decide) rfl (taY1 hy) ?_
  refine J.iload_n 3 dX1_addTile_11 rfl rfl ?_
  refine I.callSN2i (d' := d - 1) (mi' := mX8_at) dX1_addTile_12 nX1_39 eX8_at (c_X8_at (d := d - 1) hl (by omega) (shY1 hy) (by first | omega | assumption) (by first | omega | assumption)) (show d - 1 + 1 ≤ d from by omega) (Nat.le_of_ble_eq_true rfl) ?_
  refine I.sx (p0.ch (g 0 - 1) (by omega) (by omega)) ?_
  refine I.iconst dX1_addTile_15 ?_
  refine I.sub dX1_addTile_16 ?_
  refine I.sx (show g (18 + (g 0 - 1)) - 1 = c from by omega) ?_
  refine J.istore dX1_addTile_17 (by decide) rfl ?_
  refine J.aload_n 0 dX1_addTile_19 rfl rfl ?_
  refine J.iload_n 3 dX1_addTile_20 rfl rfl ?_
  refine J.iload dX1_addTile_21 rfl ?_
  refine I.callV2i (d' := d - 1) (mi' := mX1_lengthOf) dX1_addTile_23 lX1_43 eX1_lengthOf (shY hy) rfl (c_X1_lengthOfP (d := d - 1) hl (by omega) hy (by assumption) (by assumption) (by first | omega | assumption) (by first | omega | assumption)) (show d - 1 + 1 ≤ d from by omega) (Nat.le_of_ble_eq_true rfl) ?_
  refine I.sx p4.1.symm ?_
  refine J.istore dX1_addTile_26 (by decide) rfl ?_
  refine J.aload_n 0 dX1_addTile_28 rfl rfl ?_
  refine J.iload_n 3 dX1_addTile_29 rfl rfl ?_
  refine J.iload dX1_addTile_30 rfl ?_
  refine J.iload dX1_addTile_32 rfl ?_
  refine I.callV3i (d' := d - 1) (mi' := mX1_slotOf) dX1_addTile_34 lX1_47 eX1_slotOf (shY hy) rfl (c_X1_slotOf (d := d - 1) hl (by omega) hy) (show d - 1 + 1 ≤ d from by omega) (Nat.le_of_ble_eq_true rfl) ?_
  refine J.istore dX1_addTile_37 (by decide) rfl ?_
  refine J.aload_n 0 dX1_addTile_39 rfl rfl ?_
  refine I.getR dX1_addTile_40 jcls fX1_18 (shY hy) (by decide) rfl (taY3 hy) ?_
  refine J.iload dX1_addTile_43 rfl ?_
  refine J.iload_n 1 dX1_addTile_45 rfl rfl ?_
  refine I.callSN3v (d' := d - 1) (mi' := mX8_put) dX1_addTile_46 nX1_35 eX8_put (c_X8_put (d := d - 1) hl (by omega) (shY3 hy) (by first | omega | assumption) (by first | omega | assumption)) (show d - 1 + 1 ≤ d from by omega) (Nat.le_of_ble_eq_true rfl) ?_
  refine J.aload_n 0 dX1_addTile_49 rfl rfl ?_
  refine I.getR dX1_addTile_50 jcls fX1_21 (shY hy) (by decide) rfl (taY4 hy) ?_
  refine J.iload dX1_addTile_53 rfl ?_
  refine J.iload_n 2 dX1_addTile_55 rfl rfl ?_
  refine I.callSN3v (d' := d - 1) (mi' := mX8_put) dX1_addTile_56 nX1_35 eX8_put (c_X8_put (d := d - 1) hl (by omega) (shY4 hy) (by first | omega | assumption) (by first | omega | assumption)) (show d - 1 + 1 ≤ d from by omega) (Nat.le_of_ble_eq_true rfl) ?_
  refine J.aload_n 0 dX1_addTile_59 rfl rfl ?_
  refine I.getR dX1_addTile_60 jcls fX1_24 (shY hy) (by decide) rfl (taY5 hy) ?_
  refine J.iload dX1_addTile_63 rfl ?_
  refine J.iload_n 1 dX1_addTile_65 rfl rfl ?_
  refine J.iload_n 2 dX1_addTile_66 rfl rfl ?_
  refine I.icmp_ne 78 dX1_addTile_67 (by decide) (by omega) (by omega) (fun h67 => ?_) (fun h67 => ?_)
  · skip
    refine J.iload_n 1 dX1_addTile_78 rfl rfl ?_
    refine J.iload_n 2 dX1_addTile_79 rfl rfl ?_
    refine I.add dX1_addTile_80 ?_
    refine I.sx (show _ = (if a = b then 2 * (a + b) else a + b) from (if_neg h67).symm) ?_
    refine I.callSN3v (d' := d - 1) (mi' := mX8_put) dX1_addTile_81 nX1_35 eX8_put (c_X8_put (d := d - 1) hl (by omega) (shY5 hy) (by first | omega | assumption) (by first | omega | assumption)) (show d - 1 + 1 ≤ d from by omega) (Nat.le_of_ble_eq_true rfl) ?_
    refine J.aload_n 0 dX1_addTile_84 rfl rfl ?_
    refine I.getR dX1_addTile_85 jcls fX1_15 (shY hy) (by decide) rfl (taY2 hy) ?_
    refine J.iload_n 3 dX1_addTile_88 rfl rfl ?_
    refine I.iconst dX1_addTile_89 ?_
    refine I.mul dX1_addTile_90 ?_
    refine J.iload dX1_addTile_91 rfl ?_
    refine I.add dX1_addTile_93 ?_
    refine J.iload dX1_addTile_94 rfl ?_
    refine I.iconst dX1_addTile_96 ?_
    refine I.add dX1_addTile_97 ?_
    refine I.callSN3v (d' := d - 1) (mi' := mX8_put) dX1_addTile_98 nX1_35 eX8_put (c_X8_put (d := d - 1) hl (by omega) (shY2 hy) (by first | omega | assumption) (by first | omega | assumption)) (show d - 1 + 1 ≤ d from by omega) (Nat.le_of_ble_eq_true rfl) ?_
    exact I.vretQ dX1_addTile_101 rfl ⟨p0.add p1 (by omega) (by omega) (by omega) (by omega) p4.1 p4.2 p5 p6, fun q i h => (up_ne (by omega)).trans ((up_ne (by omega)).trans ((up_ne (by omega)).trans (up_ne (by omega))))⟩
  · skip
    refine I.iconst dX1_addTile_70 ?_
    refine J.iload_n 1 dX1_addTile_71 rfl rfl ?_
    refine J.iload_n 2 dX1_addTile_72 rfl rfl ?_
    refine I.add dX1_addTile_73 ?_
    refine I.mul dX1_addTile_74 ?_
    refine J.goto 81 dX1_addTile_75 (by decide) ?_
    refine I.sx (show _ = (if a = b then 2 * (a + b) else a + b) from (if_pos h67).symm) ?_
    refine I.callSN3v (d' := d - 1) (mi' := mX8_put) dX1_addTile_81 nX1_35 eX8_put (c_X8_put (d := d - 1) hl (by omega) (shY5 hy) (by first | omega | assumption) (by first | omega | assumption)) (show d - 1 + 1 ≤ d from by omega) (Nat.le_of_ble_eq_true rfl) ?_
    refine J.aload_n 0 dX1_addTile_84 rfl rfl ?_
    refine I.getR dX1_addTile_85 jcls fX1_15 (shY hy) (by decide) rfl (taY2 hy) ?_
    refine J.iload_n 3 dX1_addTile_88 rfl rfl ?_
    refine I.iconst dX1_addTile_89 ?_
    refine I.mul dX1_addTile_90 ?_
    refine J.iload dX1_addTile_91 rfl ?_
    refine I.add dX1_addTile_93 ?_
    refine J.iload dX1_addTile_94 rfl ?_
    refine I.iconst dX1_addTile_96 ?_
    refine I.add dX1_addTile_97 ?_
    refine I.callSN3v (d' := d - 1) (mi' := mX8_put) dX1_addTile_98 nX1_35 eX8_put (c_X8_put (d := d - 1) hl (by omega) (shY2 hy) (by first | omega | assumption) (by first | omega | assumption)) (show d - 1 + 1 ≤ d from by omega) (Nat.le_of_ble_eq_true rfl) ?_
    exact I.vretQ dX1_addTile_101 rfl ⟨p0.add p1 (by omega) (by omega) (by omega) (by omega) p4.1 p4.2 p5 p6, fun q i h => (up_ne (by omega)).trans ((up_ne (by omega)).trans ((up_ne (by omega)).trans (up_ne (by omega))))⟩
