/-! a move is made; the law's rows of scores -/
theorem AI.play {a : AS} {z : Int} (i : AI a) (hz : gLegal (aF a) z) (ho : ¬ gOver (aF a)) : AI (aSet (aRec a) (gPlay (aF a) z)) := i.rec.set (gPlay_lay i.1.1 i.1.2 hz) (gPlay_FS i.1.1 i.1.2 hz ho)
set_option maxHeartbeats 2000000 in
theorem w_makes {Γ : jE} (hl : Γ.1.stackTraces = false) {s : Nat → Int → Int} {d : Nat} {a : AS} (p0 : CI s a) (p1 : AI a) {c : Int} (hd : 7 ≤ d) (hi : 0 ≤ c ∧ c < gMoves (aF a)) (ho : ¬ gOver (aF a)) :
    Con Γ (d, 5, 30) mL_makes [.ref 0, .int (iI c)] (jmem s e0) (RQ (fun w s' => (0 ≤ w ∧ w ≤ 24) ∧ CI s' (aSet (aRec a) (gPlay (aF a) (gMvAt (aF a) c))) ∧ HiE s s') e0) X0 := by
  refine Con.ofJ (by decide +kernel) (by simp [Value.category]) (Nat.le_of_ble_eq_true rfl) ?_ hl
  have hc := p1.1.1.ch _ p1.1.2.cur.1 p1.1.2.cur.2
  have hmr := gMoves_rng hc
  have lg := gMvAt_legal hc hi.1
  by_cases hz : gMvAt (aF a) c = 6
  · skip
    refine J.aload_n 0 dL_makes_0 rfl rfl ?_
    refine J.iload_n 1 dL_makes_1 rfl rfl ?_
    refine I.iconst dL_makes_2 ?_
    refine J.callSW (b' := (d - 1, 1, 6)) (mi' := mL_move) [.ref 0, .int (iI c), .int (iI 2)] dL_makes_3 lL_101 eL_move ⟨by show d - 1 + 1 ≤ d; omega, Nat.le_of_ble_eq_true rfl, Nat.le_of_ble_eq_true rfl⟩ (w_move2 hl p0.m (by omega) (by omega)) (Nat.le_of_ble_eq_true rfl) ?_
    rintro v M' ⟨w2, s2, rfl, rfl, hq2⟩
    rcases hq2 with ⟨-, e2, hs2⟩ | ⟨h, -⟩
    rotate_left
    · exact absurd hi h
    subst hs2
    rw [bI_t hz] at e2
    refine I.iconst dL_makes_6 ?_
    refine I.icmp_ne 24 dL_makes_7 (by decide) (by omega) (by omega) (fun h7 => ?_) (fun h7 => ?_)
    · exact absurd h7 (by omega)
    · skip
      refine J.aload_n 0 dL_makes_10 rfl rfl ?_
      refine J.callSW (b' := (d - 1, 1, 6)) (mi' := mL_passes) [.ref 0] dL_makes_11 lL_105 eL_passes ⟨by show d - 1 + 1 ≤ d; omega, Nat.le_of_ble_eq_true rfl, Nat.le_of_ble_eq_true rfl⟩ (w_passes hl p0 p1 (by omega) ho) (Nat.le_of_ble_eq_true rfl) ?_
      rintro v M' ⟨w, s', rfl, rfl, hq⟩
      refine I.if_ge 22 dL_makes_14 (by decide) (by omega) (fun h14 => ?_) (fun h14 => ?_)
      · skip
        refine I.iconst dL_makes_22 ?_
        exact J.iret rfl dL_makes_23 ⟨0, s', rfl, rfl, by decide, by rw [hz]; exact hq.2.1, hq.2.2⟩
      · exact absurd h14 (by omega)
  · have bz := lg.bn hz
    have b1 := bz.1
    by_cases hp : gMvAt (aF a) c % 2 = 0
    · skip
      refine J.aload_n 0 dL_makes_0 rfl rfl ?_
      refine J.iload_n 1 dL_makes_1 rfl rfl ?_
      refine I.iconst dL_makes_2 ?_
      refine J.callSW (b' := (d - 1, 1, 6)) (mi' := mL_move) [.ref 0, .int (iI c), .int (iI 2)] dL_makes_3 lL_101 eL_move ⟨by show d - 1 + 1 ≤ d; omega, Nat.le_of_ble_eq_true rfl, Nat.le_of_ble_eq_true rfl⟩ (w_move2 hl p0.m (by omega) (by omega)) (Nat.le_of_ble_eq_true rfl) ?_
      rintro v M' ⟨w2, s2, rfl, rfl, hq2⟩
      rcases hq2 with ⟨-, e2, hs2⟩ | ⟨h, -⟩
      rotate_left
      · exact absurd hi h
      subst hs2
      rw [bI_f hz] at e2
      refine I.iconst dL_makes_6 ?_
      refine I.icmp_ne 24 dL_makes_7 (by decide) (by omega) (by omega) (fun h7 => ?_) (fun h7 => ?_)
      · skip
        refine J.aload_n 0 dL_makes_24 rfl rfl ?_
        refine J.aload_n 0 dL_makes_25 rfl rfl ?_
        refine J.iload_n 1 dL_makes_26 rfl rfl ?_
        refine I.iconst dL_makes_27 ?_
        refine J.callSW (b' := (d - 1, 1, 6)) (mi' := mL_move) [.ref 0, .int (iI c), .int (iI 0)] dL_makes_28 lL_101 eL_move ⟨by show d - 1 + 1 ≤ d; omega, Nat.le_of_ble_eq_true rfl, Nat.le_of_ble_eq_true rfl⟩ (w_move0 hl p0.m (by omega) (by omega)) (Nat.le_of_ble_eq_true rfl) ?_
        rintro v M' ⟨w0, s0, rfl, rfl, hq0⟩
        rcases hq0 with ⟨-, e0, hs0⟩ | ⟨h, -⟩
        rotate_left
        · exact absurd hi h
        subst hs0
        refine J.aload_n 0 dL_makes_31 rfl rfl ?_
        refine J.iload_n 1 dL_makes_32 rfl rfl ?_
        refine I.iconst dL_makes_33 ?_
        refine J.callSW (b' := (d - 1, 1, 6)) (mi' := mL_move) [.ref 0, .int (iI c), .int (iI 3)] dL_makes_34 lL_101 eL_move ⟨by show d - 1 + 1 ≤ d; omega, Nat.le_of_ble_eq_true rfl, Nat.le_of_ble_eq_true rfl⟩ (w_move3 hl p0.m (by omega) (by omega)) (Nat.le_of_ble_eq_true rfl) ?_
        rintro v M' ⟨w3, s3, rfl, rfl, hq3⟩
        rcases hq3 with ⟨-, e3, hs3⟩ | ⟨h, -⟩
        rotate_left
        · exact absurd hi h
        subst hs3
        rw [bI_t ⟨hz, hp⟩] at e3
        have ec : gChn (gMvAt (aF a) c) = gMvAt (aF a) c / 2 := if_neg hz
        refine I.iconst dL_makes_37 ?_
        refine I.icmp_ne 45 dL_makes_38 (by decide) (by omega) (by omega) (fun h38 => ?_) (fun h38 => ?_)
        · exact absurd h38 (by omega)
        · skip
          refine I.iconst dL_makes_41 ?_
          refine J.goto 46 dL_makes_42 (by decide) ?_
          refine J.callSW (b' := (d - 1, 2, 12)) (mi' := mL_burns) [.ref 0, .int (iI w0), .int (iI 1)] dL_makes_46 lL_109 eL_burns ⟨by show d - 1 + 1 ≤ d; omega, Nat.le_of_ble_eq_true rfl, Nat.le_of_ble_eq_true rfl⟩ (w_burns hl p0 p1 (by omega) (by omega) (by decide) ⟨by omega, ho, by rw [← e0, ec]; have := bz.2; omega⟩) (Nat.le_of_ble_eq_true rfl) ?_
          rintro v M' ⟨w, s', rfl, rfl, hq⟩
          have ez : 2 * w0 + (1 - 1) = gMvAt (aF a) c := by omega
          rw [ez] at hq
          exact J.iret rfl dL_makes_49 ⟨w, s', rfl, rfl, by rw [← hq.1]; exact gPt_rng p1.1.1 p1.1.2 bz.ok, hq.2.1, hq.2.2⟩
      · exact absurd h7 (by omega)
    · skip
      refine J.aload_n 0 dL_makes_0 rfl rfl ?_
      refine J.iload_n 1 dL_makes_1 rfl rfl ?_
      refine I.iconst dL_makes_2 ?_
      refine J.callSW (b' := (d - 1, 1, 6)) (mi' := mL_move) [.ref 0, .int (iI c), .int (iI 2)] dL_makes_3 lL_101 eL_move ⟨by show d - 1 + 1 ≤ d; omega, Nat.le_of_ble_eq_true rfl, Nat.le_of_ble_eq_true rfl⟩ (w_move2 hl p0.m (by omega) (by omega)) (Nat.le_of_ble_eq_true rfl) ?_
      rintro v M' ⟨w2, s2, rfl, rfl, hq2⟩
      rcases hq2 with ⟨-, e2, hs2⟩ | ⟨h, -⟩
      rotate_left
      · exact absurd hi h
      subst hs2
      rw [bI_f hz] at e2
      refine I.iconst dL_makes_6 ?_
      refine I.icmp_ne 24 dL_makes_7 (by decide) (by omega) (by omega) (fun h7 => ?_) (fun h7 => ?_)
      · skip
        refine J.aload_n 0 dL_makes_24 rfl rfl ?_
        refine J.aload_n 0 dL_makes_25 rfl rfl ?_
        refine J.iload_n 1 dL_makes_26 rfl rfl ?_
        refine I.iconst dL_makes_27 ?_
        refine J.callSW (b' := (d - 1, 1, 6)) (mi' := mL_move) [.ref 0, .int (iI c), .int (iI 0)] dL_makes_28 lL_101 eL_move ⟨by show d - 1 + 1 ≤ d; omega, Nat.le_of_ble_eq_true rfl, Nat.le_of_ble_eq_true rfl⟩ (w_move0 hl p0.m (by omega) (by omega)) (Nat.le_of_ble_eq_true rfl) ?_
        rintro v M' ⟨w0, s0, rfl, rfl, hq0⟩
        rcases hq0 with ⟨-, e0, hs0⟩ | ⟨h, -⟩
        rotate_left
        · exact absurd hi h
        subst hs0
        refine J.aload_n 0 dL_makes_31 rfl rfl ?_
        refine J.iload_n 1 dL_makes_32 rfl rfl ?_
        refine I.iconst dL_makes_33 ?_
        refine J.callSW (b' := (d - 1, 1, 6)) (mi' := mL_move) [.ref 0, .int (iI c), .int (iI 3)] dL_makes_34 lL_101 eL_move ⟨by show d - 1 + 1 ≤ d; omega, Nat.le_of_ble_eq_true rfl, Nat.le_of_ble_eq_true rfl⟩ (w_move3 hl p0.m (by omega) (by omega)) (Nat.le_of_ble_eq_true rfl) ?_
        rintro v M' ⟨w3, s3, rfl, rfl, hq3⟩
        rcases hq3 with ⟨-, e3, hs3⟩ | ⟨h, -⟩
        rotate_left
        · exact absurd hi h
        subst hs3
        rw [bI_f (fun h => hp h.2)] at e3
        have ec : gChn (gMvAt (aF a) c) = gMvAt (aF a) c / 2 := if_neg hz
        refine I.iconst dL_makes_37 ?_
        refine I.icmp_ne 45 dL_makes_38 (by decide) (by omega) (by omega) (fun h38 => ?_) (fun h38 => ?_)
        · skip
          refine I.iconst dL_makes_45 ?_
          refine J.callSW (b' := (d - 1, 2, 12)) (mi' := mL_burns) [.ref 0, .int (iI w0), .int (iI 0)] dL_makes_46 lL_109 eL_burns ⟨by show d - 1 + 1 ≤ d; omega, Nat.le_of_ble_eq_true rfl, Nat.le_of_ble_eq_true rfl⟩ (w_burns hl p0 p1 (by omega) (by omega) (by decide) ⟨by omega, ho, by rw [← e0, ec]; have := bz.2; omega⟩) (Nat.le_of_ble_eq_true rfl) ?_
          rintro v M' ⟨w, s', rfl, rfl, hq⟩
          have ez : 2 * w0 + (1 - 0) = gMvAt (aF a) c := by omega
          rw [ez] at hq
          exact J.iret rfl dL_makes_49 ⟨w, s', rfl, rfl, by rw [← hq.1]; exact gPt_rng p1.1.1 p1.1.2 bz.ok, hq.2.1, hq.2.2⟩
        · exact absurd h38 (by omega)
      · exact absurd h7 (by omega)
section L9
variable {sh : List (Nat × Nat)} {t : Nat → Nat → Option Nat} {s s' : Nat → Int → Int} {a : AS} {sc en n : Nat} {f : Int → Int}
theorem CI.cfr (h : CI s a) (q : CFr s s' (aF a)) : CI s' a ∧ HiE s s' := ⟨h.keep q.1 (fun q' i x => q.2 q' i (by omega)), fun q' i x => q.2 q' i (by omega)⟩
theorem XB.hi (h : XB sh t s) (hp : PF sh t) (hh : HiE s s') : XB sh t s' := ⟨h.1, fun a ha => ⟨(h.2 a ha).1, fun i => by rw [hh a i (by have := hp.1; omega)]; exact (h.2 a ha).2 i⟩⟩
/-- one chain in the law's rows -/
def LC (sh : List (Nat × Nat)) (t : Nat → Nat → Option Nat) (s : Nat → Int → Int) (sc en : Nat) (f : Int → Int) (c : Nat) : Prop :=
  s en (2 * (c : Int)) = 0 ∧ s en (2 * (c : Int) + 1) = f (37 + (c : Int)) - f (34 + (c : Int)) ∧ ∃ r : Nat, t sc c = some r ∧ 137 ≤ r ∧ r ≠ en ∧ sh[r]? = some (100, (f (37 + (c : Int)) - f (34 + (c : Int)) + 1).toNat) ∧ ∀ j : Int, 0 ≤ j → j < f (37 + (c : Int)) - f (34 + (c : Int)) + 1 → s r j = gSc (gT f (c : Int) j)
def LR (sh : List (Nat × Nat)) (t : Nat → Nat → Option Nat) (s : Nat → Int → Int) (sc en n : Nat) (f : Int → Int) : Prop :=
  137 ≤ sc ∧ 137 ≤ en ∧ sh[sc]? = some (106, n) ∧ sh[en]? = some (100, 2 * n) ∧ (n : Int) = f (18 + f 1) ∧ ∀ c : Nat, c < n → LC sh t s sc en f c
theorem LC.hi {c : Nat} (h : LC sh t s sc en f c) (hh : HiE s s') (he : 137 ≤ en) : LC sh t s' sc en f c := by
  obtain ⟨h1, h2, r, h3, h4, h5, h6, h7⟩ := h
  exact ⟨(hh _ _ he).trans h1, (hh _ _ he).trans h2, r, h3, h4, h5, h6, fun j a b => (hh _ _ h4).trans (h7 j a b)⟩
theorem LR.hi (h : LR sh t s sc en n f) (hh : HiE s s') : LR sh t s' sc en n f := by
  obtain ⟨h1, h2, h3, h4, h5, h6⟩ := h
  exact ⟨h1, h2, h3, h4, h5, fun c hc => (h6 c hc).hi hh h2⟩
theorem LR.br (h : LR sh t s sc en n f) (hl : FL f) (hv : FS f) : BR sh t s sc en n f (fun c => f (34 + c)) := by
  obtain ⟨h1, h2, h3, h4, h5, h6⟩ := h
  refine ⟨h3, h4, h5, fun c hc => ?_⟩
  obtain ⟨g1, g2, r, g3, g4, g5, g6, g7⟩ := h6 c hc
  have he := hv.ends (c : Int) (by omega) (by omega)
  have h8 : f (37 + (c : Int)) < 8 := by have := hl.len (f 1) (c : Int) hv.cur.1 hv.cur.2 (by omega) (by omega); omega
  refine ⟨by rw [g1]; show (0 : Int) = f (34 + (c : Int)) - f (34 + (c : Int)); omega, g2, r, (f (37 + (c : Int)) - f (34 + (c : Int)) + 1).toNat, fun _ => g3, fun _ => g5, fun _ => g6, by omega, by show 0 ≤ f (34 + (c : Int)) - f (34 + (c : Int)); omega, by show f (37 + (c : Int)) - f (34 + (c : Int)) < _; omega, fun _ j j0 j1 => ?_⟩
  show s r (j - f (34 + (c : Int))) = _
  rw [g7 _ (by omega) (by omega)]
  unfold gT
  rw [show f (34 + (c : Int)) + (j - f (34 + (c : Int))) = j by omega]
/-- one chain alone -/
theorem LC.only {c : Nat} {e8 : Nat} (h : LC sh t s sc en f c) (hc : c < n) (hn : (n : Int) = f (18 + f 1)) (hl : FL f) (hv : FS f) (h3 : sh[sc]? = some (106, n)) (h8 : sh[e8]? = some (100, 2 * n)) (hr : ∀ r, t sc c = some r → r ≠ e8) (hz : ∀ i : Int, i ≠ 2 * c + 1 → s e8 i = 0) (ho : s e8 (2 * (c : Int) + 1) = f (37 + (c : Int)) - f (34 + (c : Int))) :
    BR sh t s sc e8 n (gOnly f c (f (18 + f 1))) (fun c => f (34 + c)) := by
  have h3' := hl.ch _ hv.cur.1 hv.cur.2
  have n3 : f (18 + f 1) ≤ 3 := h3'.2
  have c1 := hv.cur
  have rn := hl.rn
  have e1 : gOnly f c (f (18 + f 1)) 1 = f 1 := gOnly_o n3 (by omega)
  have eC : gOnly f c (f (18 + f 1)) (18 + f 1) = f (18 + f 1) := gOnly_o n3 (by omega)
  refine ⟨h3, h8, by rw [e1, eC]; exact hn, fun x hx => ?_⟩
  have hex := hv.ends (x : Int) (by omega) (by omega)
  have hx8 : f (37 + (x : Int)) < 8 := by have := hl.len (f 1) (x : Int) hv.cur.1 hv.cur.2 (by omega) (by omega); omega
  have elo : gOnly f c (f (18 + f 1)) (34 + (x : Int)) = f (34 + (x : Int)) := gOnly_o n3 (by omega)
  have ehi := gOnly_hi (f := f) (c := (c : Int)) (n := f (18 + f 1)) (x : Int)
  obtain ⟨g1, g2, r, g3, g4, g5, g6, g7⟩ := h
  unfold BC
  rw [elo, ehi, e1]
  by_cases q : x = c
  · subst q
    rw [if_neg (fun h => h.2.2 rfl)]
    refine ⟨by rw [hz _ (by omega)]; show (0 : Int) = f (34 + (x : Int)) - f (34 + (x : Int)); omega, ho, r, (f (37 + (x : Int)) - f (34 + (x : Int)) + 1).toNat, fun _ => g3, fun _ => hr r g3, fun _ => g6, by omega, by show 0 ≤ f (34 + (x : Int)) - f (34 + (x : Int)); omega, by show f (37 + (x : Int)) - f (34 + (x : Int)) < _; omega, fun _ j j0 j1 => ?_⟩
    show s r (j - f (34 + (x : Int))) = _
    rw [g7 _ (by omega) (by omega)]
    unfold gT
    rw [show f (34 + (x : Int)) + (j - f (34 + (x : Int))) = j by omega, gOnly_o n3 (by omega)]
  · rw [if_pos ⟨by omega, by omega, by omega⟩]
    refine ⟨by rw [hz _ (by omega)]; show (0 : Int) = f (34 + (x : Int)) - f (34 + (x : Int)); omega, by rw [hz _ (by omega)]; show (0 : Int) = f (34 + (x : Int)) - f (34 + (x : Int)); omega, 0, 1, fun h => by omega, fun h => by omega, fun h => by omega, by decide, by show 0 ≤ f (34 + (x : Int)) - f (34 + (x : Int)); omega, by show f (34 + (x : Int)) - f (34 + (x : Int)) < _; omega, fun h => by omega⟩
end L9
