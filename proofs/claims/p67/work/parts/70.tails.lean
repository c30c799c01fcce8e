def iG0 : Int → Int := fun _ => 0
def iG1 : Int → Int := gORd iG0
def iG2 : Int → Int := gOCh iG1 (iG1 0 - 1)
def iG3 : Int → Int := gAdd iG2 (iG2 0 - 1) 0 0 (10 * 1 + 2)
def iG4 : Int → Int := gAdd iG3 (iG3 0 - 1) 0 1 (10 * 2 + 6)
def iG5 : Int → Int := gAdd iG4 (iG4 0 - 1) 0 2 (10 * 6 + 3)
def iG6 : Int → Int := gOCh iG5 (iG5 0 - 1)
def iG7 : Int → Int := gAdd iG6 (iG6 0 - 1) 1 0 (10 * 0 + 5)
def iG8 : Int → Int := gAdd iG7 (iG7 0 - 1) 1 1 (10 * 5 + 5)
def iG9 : Int → Int := gAdd iG8 (iG8 0 - 1) 1 2 (10 * 5 + 1)
theorem pG0 : FP iG0 := FP.zero
theorem pG1 : FP iG1 := pG0.ord (by decide)
theorem pG2 : FP iG2 := pG1.och (by decide +kernel) (by decide +kernel) (by decide +kernel)
theorem pG3 : FP iG3 := pG2.add (by decide +kernel) (by decide +kernel) (by decide +kernel) (by decide +kernel) (by decide +kernel) (by decide +kernel) (by decide +kernel)
theorem pG4 : FP iG4 := pG3.add (by decide +kernel) (by decide +kernel) (by decide +kernel) (by decide +kernel) (by decide +kernel) (by decide +kernel) (by decide +kernel)
theorem pG5 : FP iG5 := pG4.add (by decide +kernel) (by decide +kernel) (by decide +kernel) (by decide +kernel) (by decide +kernel) (by decide +kernel) (by decide +kernel)
theorem pG6 : FP iG6 := pG5.och (by decide +kernel) (by decide +kernel) (by decide +kernel)
theorem pG7 : FP iG7 := pG6.add (by decide +kernel) (by decide +kernel) (by decide +kernel) (by decide +kernel) (by decide +kernel) (by decide +kernel) (by decide +kernel)
theorem pG8 : FP iG8 := pG7.add (by decide +kernel) (by decide +kernel) (by decide +kernel) (by decide +kernel) (by decide +kernel) (by decide +kernel) (by decide +kernel)
theorem pG9 : FP iG9 := pG8.add (by decide +kernel) (by decide +kernel) (by decide +kernel) (by decide +kernel) (by decide +kernel) (by decide +kernel) (by decide +kernel)
theorem iG_l : FL iG9 := pG9.full (by decide +kernel) (fun r a b => by
  have e : iG9 0 = 1 := by decide +kernel
  obtain rfl : r = 0 := by omega
  refine ⟨by decide +kernel, fun c c0 c1 => ?_⟩
  have e2 : iG9 (18 + 0) = 2 := by decide +kernel
  rcases (show c = 0 ∨ c = 1 by omega) with rfl | rfl <;> decide +kernel)
def iM0 : Int → Int := fun _ => 0
def iM1 : Int → Int := upr iM0 (0) (1)
def iM2 : Int → Int := upr iM1 (18) (2)
def iM3 : Int → Int := upr iM2 (22) (3)
def iM4 : Int → Int := upr iM3 (23) (3)
def iM5 : Int → Int := upr iM4 (40) (12)
def iM6 : Int → Int := upr iM5 (41) (26)
def iM7 : Int → Int := upr iM6 (42) (63)
def iM8 : Int → Int := upr iM7 (48) (5)
def iM9 : Int → Int := upr iM8 (49) (55)
def iM10 : Int → Int := upr iM9 (50) (51)
theorem iG_M (j : Int) : iG9 j = iM10 j := by
  by_cases h0 : j = 0
  · subst h0; decide +kernel
  by_cases h18 : j = 18
  · subst h18; decide +kernel
  by_cases h22 : j = 22
  · subst h22; decide +kernel
  by_cases h23 : j = 23
  · subst h23; decide +kernel
  by_cases h40 : j = 40
  · subst h40; decide +kernel
  by_cases h41 : j = 41
  · subst h41; decide +kernel
  by_cases h42 : j = 42
  · subst h42; decide +kernel
  by_cases h48 : j = 48
  · subst h48; decide +kernel
  by_cases h49 : j = 49
  · subst h49; decide +kernel
  by_cases h50 : j = 50
  · subst h50; decide +kernel
  have a : iM10 j = 0 := by
    unfold iM10 iM9 iM8 iM7 iM6 iM5 iM4 iM3 iM2 iM1 iM0
    repeat rw [upr_ne (by assumption)]
  rw [a]
  have e0 : iG1 0 - 1 = 0 ∧ iG2 0 - 1 = 0 ∧ iG3 0 - 1 = 0 ∧ iG4 0 - 1 = 0 ∧ iG5 0 - 1 = 0 ∧ iG6 0 - 1 = 0 ∧ iG7 0 - 1 = 0 ∧ iG8 0 - 1 = 0 := by decide +kernel
  obtain ⟨e1, e2, e3, e4, e5, e6, e7, e8⟩ := e0
  have o9 : iG9 j = iG8 j := by unfold iG9; rw [e8]; exact gAdd_o (by omega) (by unfold gTp; omega)
  have o8 : iG8 j = iG7 j := by unfold iG8; rw [e7]; exact gAdd_o (by omega) (by unfold gTp; omega)
  have o7 : iG7 j = iG6 j := by unfold iG7; rw [e6]; exact gAdd_o (by omega) (by unfold gTp; omega)
  have o6 : iG6 j = iG5 j := by unfold iG6; rw [e5]; exact upr_ne (by omega)
  have o5 : iG5 j = iG4 j := by unfold iG5; rw [e4]; exact gAdd_o (by omega) (by unfold gTp; omega)
  have o4 : iG4 j = iG3 j := by unfold iG4; rw [e3]; exact gAdd_o (by omega) (by unfold gTp; omega)
  have o3 : iG3 j = iG2 j := by unfold iG3; rw [e2]; exact gAdd_o (by omega) (by unfold gTp; omega)
  have o2 : iG2 j = iG1 j := by unfold iG2; rw [e1]; exact upr_ne (by omega)
  have o1 : iG1 j = iG0 j := by unfold iG1; exact upr_ne (by omega)
  rw [o9, o8, o7, o6, o5, o4, o3, o2, o1]
  rfl
theorem iG_e : iG9 = iM10 := funext iG_M
/-- the game at first -/
def iA0 : AS := (gDeal iM10 0 0, 0, fun _ _ => 0, 0, fun _ => 0, [], fun _ => 0, 0, 0, -1)
