noncomputable def gMC (g : Int → Int) (c a : Int) : Int := gMS gBhf g (2 * c + 1) (gMS gBhf g (2 * c) a)
def gGC (g : Int → Int) (c b : Int) : Int := gGs g (2 * c + 1) (gGs g (2 * c) b)
def gMo (g : Int → Int) (b : Int) : Int := if b = -1 then -1 else gPt g b
def eZ (e : Int → Int) (z : Int) : Int → Int := if z % 2 = 0 then eUp e (z / 2) 1 else eUp e (3 + z / 2) (-1)
def gAf (f : Int → Int) (r : Int) (e : Int → Int) (p b : Int) : Int := if b = -1 then p else gPl f r (eZ e b)
theorem gMo_0 {g : Int → Int} : gMo g (-1) = -1 := if_pos rfl
theorem gMo_n {g : Int → Int} {b : Int} (h : b ≠ -1) : gMo g b = gPt g b := if_neg h
theorem gAf_0 {f : Int → Int} {r p : Int} {e : Int → Int} : gAf f r e p (-1) = p := if_pos rfl
theorem gAf_n {f : Int → Int} {r p b : Int} {e : Int → Int} (h : b ≠ -1) : gAf f r e p b = gPl f r (eZ e b) := if_neg h
theorem eZ_l {e : Int → Int} {c : Int} : eZ e (2 * c) = eUp e c 1 := by unfold eZ; rw [if_pos (by omega), show 2 * c / 2 = c by omega]
theorem eZ_r {e : Int → Int} {c : Int} : eZ e (2 * c + 1) = eUp e (3 + c) (-1) := by unfold eZ; rw [if_neg (by omega), show (2 * c + 1) / 2 = c by omega]
theorem gMo_rng {g : Int → Int} {b : Int} (hl : FL g) (hv : FS g) (h : b = -1 ∨ gBn g b) : -1 ≤ gMo g b ∧ gMo g b ≤ 24 ∧ (gMo g b = -1 ↔ b = -1) := by
  rcases h with rfl | h
  · rw [gMo_0]; omega
  · have := h.1.1
    have := gPt_rng hl hv h.ok
    rw [gMo_n (by omega)]; omega
theorem gGs_n {g : Int → Int} {z b : Int} (h : ¬ 1 < g (37 + z / 2) - g (34 + z / 2) + 1) : gGs g z b = b := if_neg h
theorem gGs_k {g : Int → Int} {z b : Int} (hl : FL g) (hv : FS g) (hz : gBn g z) (hb : b = -1 ∨ gBn g b) (h : gPt g z ≤ gMo g b) : gGs g z b = b := by
  have := gMo_rng hl hv hb
  have := gPt_rng hl hv hz.ok
  have hb1 : b ≠ -1 := by omega
  have e : gMo g b = gPt g b := gMo_n hb1
  have := hz.2
  unfold gGs
  rw [if_pos (by omega), if_neg (by omega)]
theorem gGs_y {g : Int → Int} {z b : Int} (hz : gBn g z) (h : gMo g b < gPt g z) : gGs g z b = z := by
  have := hz.2
  unfold gGs
  rw [if_pos (by omega)]
  by_cases hb : b = -1
  · rw [if_pos (Or.inl hb)]
  · rw [gMo_n hb] at h; rw [if_pos (Or.inr h)]
section WL
variable {s : Nat → Int → Int} {f : Int → Int} {r : Int} {e : Int → Int}
theorem WK.nb (h : WK s f r e) {c : Int} (c0 : 0 ≤ c) (c1 : c < 3) (hb : ¬ e c < e (3 + c)) (x : Int) : (x = 2 * c ∨ x = 2 * c + 1) → ¬ 1 < gCan f r e (37 + x / 2) - gCan f r e (34 + x / 2) + 1 := fun k g => by
  rw [show x / 2 = c by omega] at g
  exact hb ((h.burn c0 c1).mp g)
theorem WK.mc_n (h : WK s f r e) {c a : Int} (c0 : 0 ≤ c) (c1 : c < 3) (hb : ¬ e c < e (3 + c)) : gMC (gCan f r e) c a = a := by
  unfold gMC gMS
  rw [if_neg (h.nb c0 c1 hb _ (Or.inr rfl)), if_neg (h.nb c0 c1 hb _ (Or.inl rfl))]
theorem WK.mc_y (h : WK s f r e) {c a : Int} (c0 : 0 ≤ c) (c1 : c < 3) (hb : e c < e (3 + c)) : gMC (gCan f r e) c a = max (max a (gPt (gCan f r e) (2 * c) + gBhf (gRem (gCan f r e) (2 * c)))) (gPt (gCan f r e) (2 * c + 1) + gBhf (gRem (gCan f r e) (2 * c + 1))) := by
  have q := (h.burn c0 c1).mpr hb
  unfold gMC gMS
  rw [show (2 * c + 1) / 2 = c by omega, show 2 * c / 2 = c by omega, if_pos q, if_pos q]
theorem WK.gb3 (h : WK s f r e) {W : (Int → Int) → Int} {a : Int} : gB W (gCan f r e) 3 0 a = gB W (gCan f r e) (f (18 + r)).toNat 0 a := by
  unfold gB
  exact foldF_3 h.C.2 (fun j b j0 j1 => if_neg (fun g => by
    have := h.ev.out (c := j) (by have := h.C.2; omega) j1 j0
    have := (h.burn (c := j) (by have := h.C.2; omega) j1).mp g
    omega))
theorem WK.opt (h : WK s f r e) : gB gWf (gCan f r e) 3 0 0 = gWf (gCan f r e) := by
  rw [h.gb3, gWf_eq h.fl h.fs, h.C.1]
theorem WK.gm3 (h : WK s f r e) {a : Int} : foldF (gMC (gCan f r e)) 3 0 a = gM gBhf (gCan f r e) (2 * f (18 + r)).toNat 0 a := by
  have hC := h.C.2
  unfold gM
  rw [foldF_3 hC (fun j b j0 j1 => h.mc_n (by omega) j1 (by have := h.ev.out (c := j) (by omega) j1 j0; omega)), show (2 * f (18 + r)).toNat = 2 * (f (18 + r)).toNat by omega]
  exact (foldF_2 _ 0 a).symm
theorem WK.gr (h : WK s f r e) : foldF (gGC (gCan f r e)) 3 0 (-1) = gGr (gCan f r e) := by
  have hC := h.C
  show _ = foldF (gGs (gCan f r e)) (2 * gCan f r e (18 + gCan f r e 1)).toNat 0 (-1)
  rw [hC.1, foldF_3 hC.2 (fun j b j0 j1 => ?_), show (2 * f (18 + r)).toNat = 2 * (f (18 + r)).toNat by omega]
  · exact (foldF_2 _ 0 (-1)).symm
  · have nb : ¬ e j < e (3 + j) := by have := h.ev.out (c := j) (by omega) j1 j0; omega
    unfold gGC
    rw [gGs_n (h.nb (by omega) j1 nb _ (Or.inr rfl)), gGs_n (h.nb (by omega) j1 nb _ (Or.inl rfl))]
theorem WK.rem (h : WK s f r e) {z : Int} (hz : gBn (gCan f r e) z) : gRem (gCan f r e) z = gCan f r (eZ e z) ∧ EV f r (eZ e z) ∧ 0 ≤ gPl f r (eZ e z) ∧ gPl f r (eZ e z) < gPl f r e ∧ gPl f r e < 46656 := by
  have hC := h.C
  obtain ⟨⟨z0, z1⟩, z2⟩ := hz
  rw [hC.1] at z1
  have hb := (h.burn (c := z / 2) (by omega) (by omega)).mp (by omega)
  have g := gRem_can (f := f) (r := r) (e := e) (c := z / 2) (by omega) (by omega)
  by_cases p : z % 2 = 0
  · have u := h.upl (c := z / 2) (by omega) (by omega) hb
    have ez : eZ e z = eUp e (z / 2) 1 := if_pos p
    rw [ez]
    rw [show 2 * (z / 2) = z by omega] at g
    exact ⟨g.1, u.1, by omega, by omega, by omega⟩
  · have u := h.upr (c := z / 2) (by omega) (by omega) hb
    have ez : eZ e z = eUp e (3 + z / 2) (-1) := if_neg p
    rw [ez]
    rw [show 2 * (z / 2) + 1 = z by omega] at g
    exact ⟨g.2, u.1, by omega, by omega, by omega⟩
theorem gGr_short {g : Int → Int} (hc : 1 ≤ g (18 + g 1)) : (gGr g = -1 ∧ gShort g) ∨ (gBn g (gGr g) ∧ ¬ gShort g) := by
  by_cases hs : gShort g
  · left
    refine ⟨?_, hs⟩
    rcases (gGr_bn0 (f := g) (2 * g (18 + g 1)).toNat 0 (-1) (Or.inl rfl) (by omega) (by omega)).1 with k | k
    · exact k
    · have := hs _ (by have := k.1.1; omega) k.1.2
      have := k.2
      omega
  · exact Or.inr ⟨gGr_bn hs, hs⟩
theorem WK.keep (h : WK s f r e) {s' : Nat → Int → Int} (k : ∀ q i, (51 ≤ q ∧ q ≤ 57) → s' q i = s q i) : WK s' f r e := by
  refine ⟨h.1, fun lo hi a b c => ?_, ⟨fun c t a b c' d => ?_, fun c a b => ?_, fun c a b => ?_, ?_⟩, h.ev, fun c a b => ?_⟩
  · rw [k _ _ (by omega), k _ _ (by omega)]; exact h.2.1 lo hi a b c
  · rw [k _ _ (by omega)]; exact h.2.2.1.1 c t a b c' d
  · rw [k _ _ (by omega)]; exact h.2.2.1.2.1 c a b
  · rw [k _ _ (by omega)]; exact h.2.2.1.2.2.1 c a b
  · rw [k _ _ (by omega)]; exact h.2.2.1.2.2.2
  · rw [k _ _ (by omega)]; exact h.sp a b
end WL
theorem triM {h : Int} (h0 : 0 ≤ h) (h1 : h ≤ 8) : 0 ≤ h * (h + 1) ∧ h * (h + 1) ≤ 72 := by
  have e : h = 0 ∨ h = 1 ∨ h = 2 ∨ h = 3 ∨ h = 4 ∨ h = 5 ∨ h = 6 ∨ h = 7 ∨ h = 8 := by omega
  rcases e with rfl | rfl | rfl | rfl | rfl | rfl | rfl | rfl | rfl <;> decide
