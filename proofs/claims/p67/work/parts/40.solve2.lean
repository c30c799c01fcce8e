section SV
variable {s z w y : Nat → Int → Int} {f : Int → Int} {r i : Int} {e : Int → Int}
theorem WK.zero (hl : FL f) (hr : 0 ≤ r ∧ r < f 0) (hs : ST s) (sh : SH s f r) (h : ∀ c, 0 ≤ c → c < 3 → s 57 c = 0) : WK s f r (fun _ => 0) ∧ gPl f r (fun _ => 0) = 0 := by
  have z0 : gSp 0 0 = 0 := by decide
  refine ⟨⟨⟨hl, hr⟩, hs, sh, fun c c0 c1 => ?_, fun c c0 c1 => (h c c0 c1).trans z0.symm⟩, ?_⟩
  · have := gLn_rng hl hr c0; dsimp only; omega
  · unfold gPl; rw [z0]; omega
theorem TO.step (h : TO z f r i) (wk : WK z f r e) (pe : gPl f r e = i) (k : ∀ j, w 58 j = up z 58 i (gWf (gCan f r e)) 58 j) : TO w f r (i + 1) := fun e1 ev hp => by
  rw [k]
  by_cases q : gPl f r e1 = i
  · rw [q, up_eq, gCan_ext (gLay.refl f) (gPl_inj wk.l wk.rr wk.ev ev (pe.trans q.symm))]
  · rw [up_ne (Or.inr q)]; exact h e1 ev (by omega)
theorem TA.step (h : TA z f r i) (wk : WK z f r e) (pe : gPl f r e = i) (k : ∀ j, w 59 j = up z 59 i (gAg 0 (gCan f r e)) 59 j) : TA w f r (i + 1) := fun e1 ev hp => by
  rw [k]
  by_cases q : gPl f r e1 = i
  · rw [q, up_eq, gCan_ext (gLay.refl f) (gPl_inj wk.l wk.rr wk.ev ev (pe.trans q.symm))]
  · rw [up_ne (Or.inr q)]; exact h e1 ev (by omega)
theorem TB.step (h : TB z f r i) (wk : WK z f r e) (pe : gPl f r e = i) (k : ∀ j, w 60 j = up z 60 i (gBhf (gCan f r e)) 60 j) : TB w f r (i + 1) := fun e1 ev hp => by
  rw [k]
  by_cases q : gPl f r e1 = i
  · rw [q, up_eq, gCan_ext (gLay.refl f) (gPl_inj wk.l wk.rr wk.ev ev (pe.trans q.symm))]
  · rw [up_ne (Or.inr q)]; exact h e1 ev (by omega)
theorem TB.lt (h : TB z f r i) {v : Int} : TB (up z 60 i v) f r i := fun e1 ev hp => by rw [up_ne (Or.inr (by omega))]; exact h e1 ev hp
theorem TO.mono {p p' : Int} (h : TO z f r p) (hp : p' ≤ p) : TO z f r p' := fun e ev x => h e ev (by omega)
theorem TA.mono {p p' : Int} (h : TA z f r p) (hp : p' ≤ p) : TA z f r p' := fun e ev x => h e ev (by omega)
theorem TB.mono {p p' : Int} (h : TB z f r p) (hp : p' ≤ p) : TB z f r p' := fun e ev x => h e ev (by omega)
theorem TO.keep {p : Int} (h : TO z f r p) (k : ∀ j, w 58 j = z 58 j) : TO w f r p := fun e ev x => by rw [k]; exact h e ev x
theorem TA.keep {p : Int} (h : TA z f r p) (k : ∀ j, w 59 j = z 59 j) : TA w f r p := fun e ev x => by rw [k]; exact h e ev x
theorem TB.keep {p : Int} (h : TB z f r p) (k : ∀ j, w 60 j = z 60 j) : TB w f r p := fun e ev x => by rw [k]; exact h e ev x
theorem SH.keep (sh : SH z f r) (k : ∀ q j, (51 ≤ q ∧ q ≤ 56 ∧ (q ≠ 51 ∨ j = 9)) → w q j = z q j) : SH w f r :=
  ⟨fun c t a b c' d => by rw [k _ _ (by omega)]; exact sh.1 c t a b c' d, fun c a b => by rw [k _ _ (by omega)]; exact sh.2.1 c a b, fun c a b => by rw [k _ _ (by omega)]; exact sh.2.2.1 c a b, by rw [k _ _ (by omega)]; exact sh.2.2.2⟩
theorem SO.opt (h : SO y f) (hl : FL f) (hv : FS f) (e : y 51 10 = f 1) (k : ∀ q j, q ≠ 57 → q ≠ 58 → z q j = y q j) (t : TO z f (f 1) (gPn f (f 1))) : SO (up z 51 11 1) f ∧ up z 51 11 1 51 10 = f 1 ∧ up z 51 11 1 51 11 = 1 := by
  obtain ⟨sh, t1, t2⟩ := h.at hl hv e
  have kk : ∀ q j, q ≠ 57 → q ≠ 58 → (q ≠ 51 ∨ j ≠ 11) → up z 51 11 1 q j = y q j := fun q j a b c => (up_ne (by omega)).trans (k q j a b)
  have e9 : up z 51 11 1 51 10 = f 1 := (kk _ _ (by omega) (by omega) (by omega)).trans e
  refine ⟨⟨fun lo hi a b c => ?_, Or.inr (up_eq _ _ _ _), ?_, Or.inr ?_⟩, e9, up_eq _ _ _ _⟩
  · rw [kk _ _ (by omega) (by omega) (by omega), kk _ _ (by omega) (by omega) (by omega)]; exact h.1 lo hi a b c
  · rw [kk _ _ (by omega) (by omega) (by omega)]; exact h.2.2.1
  · rw [e9]
    refine ⟨hv.cur, sh.keep fun q j a => kk q j (by omega) (by omega) (by omega), fun _ => t.keep fun j => up_ne (Or.inl (by decide)), fun x => ?_⟩
    rw [kk _ _ (by omega) (by omega) (by omega)] at x
    exact ⟨(t2 x).1.keep fun j => kk _ _ (by omega) (by omega) (by omega), (t2 x).2.keep fun j => kk _ _ (by omega) (by omega) (by omega)⟩
theorem SO.gre (h : SO y f) (hl : FL f) (hv : FS f) (e : y 51 10 = f 1) (k : ∀ q j, q ≠ 57 → q ≠ 59 → q ≠ 60 → z q j = y q j) (ta : TA z f (f 1) (gPn f (f 1))) (tb : TB z f (f 1) (gPn f (f 1))) : SO (up z 51 12 1) f ∧ up z 51 12 1 51 10 = f 1 ∧ up z 51 12 1 51 12 = 1 := by
  obtain ⟨sh, t1, t2⟩ := h.at hl hv e
  have kk : ∀ q j, q ≠ 57 → q ≠ 59 → q ≠ 60 → (q ≠ 51 ∨ j ≠ 12) → up z 51 12 1 q j = y q j := fun q j a b c d => (up_ne (by omega)).trans (k q j a b c)
  have e9 : up z 51 12 1 51 10 = f 1 := (kk _ _ (by omega) (by omega) (by omega) (by omega)).trans e
  refine ⟨⟨fun lo hi a b c => ?_, ?_, Or.inr (up_eq _ _ _ _), Or.inr ?_⟩, e9, up_eq _ _ _ _⟩
  · rw [kk _ _ (by omega) (by omega) (by omega) (by omega), kk _ _ (by omega) (by omega) (by omega) (by omega)]; exact h.1 lo hi a b c
  · rw [kk _ _ (by omega) (by omega) (by omega) (by omega)]; exact h.2.1
  · rw [e9]
    refine ⟨hv.cur, sh.keep fun q j a => kk q j (by omega) (by omega) (by omega) (by omega), fun x => ?_, fun _ => ⟨ta.keep fun j => up_ne (Or.inl (by decide)), tb.keep fun j => up_ne (Or.inl (by decide))⟩⟩
    rw [kk _ _ (by omega) (by omega) (by omega) (by omega)] at x
    exact (t1 x).keep fun j => kk _ _ (by omega) (by omega) (by omega) (by omega)
/-- the value against a greedy player at the walk's ends -/
theorem WK.ag (h : WK s f r e) (b : Int) : ¬ gShort (gCan f r e) → gM gBhf (gCan f r e) (2 * f (18 + r)).toNat 0 (if b = 1 then 0 else gBhf (gCan f r e)) = gAg b (gCan f r e) := fun hs => by
  have e1 : gAg b (gCan f r e) = gM gBhf (gCan f r e) (2 * gCan f r e (18 + gCan f r e 1)).toNat 0 (if b = 1 then 0 else gBhf (gCan f r e)) := if_neg (by rw [bI_f hs]; decide)
  rw [e1, h.C.1]
theorem WK.ag0 (h : WK s f r e) : gM gBhf (gCan f r e) (2 * f (18 + r)).toNat 0 (gBhf (gCan f r e)) = gAg 0 (gCan f r e) := by
  by_cases hs : gShort (gCan f r e)
  · rw [gAg_o hs, gBhf_o hs]
    refine foldF_id _ _ _ (fun j b j0 j1 => if_neg ?_)
    have := hs (j / 2) (by omega) (by rw [h.C.1]; have := h.C.2; omega)
    omega
  · exact h.ag 0 hs
end SV
section VL
variable {s : Nat → Int → Int} {f : Int → Int}
theorem val_left (t : TO s f (f 1) (gPn f (f 1))) (hl : FL f) (hv : FS f) {z : Int} (b : gBn f z) (hz : z % 2 = 0) : eOf f (z / 2) < eOf f (3 + z / 2) ∧ gPt (gCan f (f 1) (eOf f)) (2 * (z / 2)) - s 58 (gPl f (f 1) (eUp (eOf f) (z / 2) 1)) = gPt f z - gWf (gRem f z) := by
  have hc := hl.ch _ hv.cur.1 hv.cur.2
  have bb := b.1
  have b2 := b.2
  have ev := eOf_EV hl hv
  have lt : eOf f (z / 2) < eOf f (3 + z / 2) := by rw [eOf_lo (by omega), eOf_hi (by omega), if_pos bb.2, if_pos bb.2]; exact b2
  have u := (eUp_EV ev (c := z / 2) (by omega) (by omega) lt).1
  have v := can_val hl hv b
  have g := (gRem_can (f := f) (r := f 1) (e := eOf f) (c := z / 2) (by omega) (by omega)).1
  refine ⟨lt, ?_⟩
  rw [t _ u (gPl_rng hl hv.cur u).2, ← g, show 2 * (z / 2) = z by omega, v.1, v.2]
theorem val_right (t : TO s f (f 1) (gPn f (f 1))) (hl : FL f) (hv : FS f) {z : Int} (b : gBn f z) (hz : ¬ z % 2 = 0) : eOf f (z / 2) < eOf f (3 + z / 2) ∧ gPt (gCan f (f 1) (eOf f)) (2 * (z / 2) + 1) - s 58 (gPl f (f 1) (eUp (eOf f) (3 + z / 2) (-1))) = gPt f z - gWf (gRem f z) := by
  have hc := hl.ch _ hv.cur.1 hv.cur.2
  have bb := b.1
  have b2 := b.2
  have ev := eOf_EV hl hv
  have lt : eOf f (z / 2) < eOf f (3 + z / 2) := by rw [eOf_lo (by omega), eOf_hi (by omega), if_pos bb.2, if_pos bb.2]; exact b2
  have u := (eUp_EV ev (c := z / 2) (by omega) (by omega) lt).2
  have v := can_val hl hv b
  have g := (gRem_can (f := f) (r := f 1) (e := eOf f) (c := z / 2) (by omega) (by omega)).2
  refine ⟨lt, ?_⟩
  rw [t _ u (gPl_rng hl hv.cur u).2, ← g, show 2 * (z / 2) + 1 = z by omega, v.1, v.2]
theorem can_short (hl : FL f) (hv : FS f) (hs : ¬ gShort f) : ¬ gShort (gCan f (f 1) (eOf f)) := fun h => hs ((gShort_eqv (eOf_eqv hl hv)).mp h)
theorem TB.val (h : TB s f (f 1) (gPn f (f 1))) (hl : FL f) (hv : FS f) : s 60 (gPl f (f 1) (eOf f)) = gBhf f := by
  have ev := eOf_EV hl hv
  rw [h _ ev (gPl_rng hl hv.cur ev).2]
  exact gBhf_eqv hl hv (eOf_eqv hl hv)
end VL
