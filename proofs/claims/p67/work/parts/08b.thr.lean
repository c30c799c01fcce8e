section JT
variable {Γ : jE} {b : Nat × Nat × Nat} {mi : jMI} {pc : Nat} {L : List (Option Value)} {S : List Value} {M : jM} {P : Option Value → jM → Prop} {X : String → jM → Prop}
def jThW (w : Cond) : Prop := w ∈ lw_tbl ∧ (goodWord w = true ∨ (∃ C T, w = .castable C T) ∨ ∃ y, w = .declares y)
def jThB (w : Cond) : Bool := goodWord w || (match w with | .castable _ _ => true | .declares _ => true | _ => false)
theorem jG_of {ws : List Cond} (ks : List Nat) (h : ws.map some = ks.map (lw_tbl[·]?)) (hg : ws.all jThB = true) : ∀ w ∈ ws, jThW w := by
  intro w hw
  have h1 : some w ∈ ks.map (lw_tbl[·]?) := h ▸ List.mem_map.mpr ⟨w, hw, rfl⟩
  obtain ⟨k, -, hk⟩ := List.mem_map.mp h1
  refine ⟨List.mem_of_getElem? hk, ?_⟩
  have h2 := List.all_eq_true.mp hg w hw
  unfold jThB at h2
  rw [Bool.or_eq_true] at h2
  rcases h2 with h2 | h2
  · exact Or.inl h2
  · split at h2
    · exact Or.inr (Or.inl ⟨_, _, rfl⟩)
    · exact Or.inr (Or.inr ⟨_, rfl⟩)
    · cases h2
theorem jTh_ot {w : Cond} (h : jThW w) : vx_ot w = true := by
  unfold vx_ot
  rcases h.2 with h | ⟨_, _, rfl⟩ | ⟨_, rfl⟩
  · rw [h]; exact Bool.or_true _
  · rfl
  · rfl
theorem jG_ot {w : Cond} (h : w ∈ jG) : vx_ot w = true := by
  unfold vx_ot
  rw [jG_ok h]; exact Bool.or_true _

theorem vE75 : ∀ w ∈ vx_atS RX8 75 "java/lang/IllegalStateException" ["java/lang/RuntimeException", "java/lang/Exception"], jThW w := jG_of [61, 727, 736, 741, 744, 746, 728, 729, 74, 75, 730, 735, 742, 762, 717, 763, 719, 764, 721, 731, 733, 723, 758, 759, 761, 723, 844, 845, 846, 752, 709, 752, 753, 754, 755, 711, 755, 756, 757, 758, 713, 843, 834, 835, 836, 738, 837, 838, 839, 840, 726, 725, 841] (by decide +kernel) (by decide +kernel)
theorem vK75 : Cond.classLink RX8 71 "java/lang/IllegalStateException" ∈ jG := jG_mem 833 (by decide +kernel) rfl
theorem vI75 : Cond.initialized "java/lang/IllegalStateException" ∈ jG := jG_mem 65 (by decide +kernel) rfl
theorem I.throw75 {text : String} {is : Nat} (hm : mi.1.cls = RX8) (ht : (RX8, is, text) ∈ jStr)
    (hd : (decode mi.2.1 pc = .ok (.new 71, 3) ∧ decode mi.2.1 (pc + 3) = .ok (.dup, 1) ∧ decode mi.2.1 (pc + 4) = .ok (.ldc is, 2) ∧ decode mi.2.1 (pc + 6) = .ok (.invokespecial 75, 3) ∧ decode mi.2.1 (pc + 9) = .ok (.athrow, 1)) ∨
     (decode mi.2.1 pc = .ok (.new 71, 3) ∧ decode mi.2.1 (pc + 3) = .ok (.dup, 1) ∧ decode mi.2.1 (pc + 4) = .ok (.ldc_w is, 3) ∧ decode mi.2.1 (pc + 7) = .ok (.invokespecial 75, 3) ∧ decode mi.2.1 (pc + 10) = .ok (.athrow, 1)))
    (hb : 1 ≤ b.2.1 ∧ 6 ≤ b.2.2) (hX : X "java/lang/IllegalStateException" M) : J Γ b mi pc L [] M P X :=
  J.throwS (names := ["java/lang/RuntimeException", "java/lang/Exception"]) (by rw [hm]; exact ht) ⟨by decide +kernel, by decide +kernel, by decide⟩ (by rw [hm]; exact vK75) vI75 (by rw [hm]; exact vE75)
    (fun w hw => by
      rw [hm] at hw
      rcases List.mem_cons.mp hw with rfl | hw
      · exact jG_ot vK75
      · rcases List.mem_cons.mp hw with rfl | hw
        · exact jG_ot vI75
        · exact jTh_ot (vE75 w hw)) hd hb (Nat.zero_le _) hX
theorem vE90 : ∀ w ∈ vx_atS RX8 90 "java/lang/IllegalArgumentException" ["java/lang/RuntimeException", "java/lang/Exception"], jThW w := jG_of [61, 727, 736, 741, 744, 746, 728, 729, 74, 75, 730, 735, 742, 762, 717, 763, 719, 764, 721, 731, 733, 723, 758, 759, 761, 723, 749, 750, 751, 752, 709, 752, 753, 754, 755, 711, 755, 756, 757, 758, 713, 748, 706, 707, 714, 715, 716, 718, 720, 722, 726, 725, 724] (by decide +kernel) (by decide +kernel)
theorem vK90 : Cond.classLink RX8 86 "java/lang/IllegalArgumentException" ∈ jG := jG_mem 705 (by decide +kernel) rfl
theorem vI90 : Cond.initialized "java/lang/IllegalArgumentException" ∈ jG := jG_mem 64 (by decide +kernel) rfl
theorem I.throw90 {text : String} {is : Nat} (hm : mi.1.cls = RX8) (ht : (RX8, is, text) ∈ jStr)
    (hd : (decode mi.2.1 pc = .ok (.new 86, 3) ∧ decode mi.2.1 (pc + 3) = .ok (.dup, 1) ∧ decode mi.2.1 (pc + 4) = .ok (.ldc is, 2) ∧ decode mi.2.1 (pc + 6) = .ok (.invokespecial 90, 3) ∧ decode mi.2.1 (pc + 9) = .ok (.athrow, 1)) ∨
     (decode mi.2.1 pc = .ok (.new 86, 3) ∧ decode mi.2.1 (pc + 3) = .ok (.dup, 1) ∧ decode mi.2.1 (pc + 4) = .ok (.ldc_w is, 3) ∧ decode mi.2.1 (pc + 7) = .ok (.invokespecial 90, 3) ∧ decode mi.2.1 (pc + 10) = .ok (.athrow, 1)))
    (hb : 1 ≤ b.2.1 ∧ 6 ≤ b.2.2) (hX : X "java/lang/IllegalArgumentException" M) : J Γ b mi pc L [] M P X :=
  J.throwS (names := ["java/lang/RuntimeException", "java/lang/Exception"]) (by rw [hm]; exact ht) ⟨by decide +kernel, by decide +kernel, by decide⟩ (by rw [hm]; exact vK90) vI90 (by rw [hm]; exact vE90)
    (fun w hw => by
      rw [hm] at hw
      rcases List.mem_cons.mp hw with rfl | hw
      · exact jG_ot vK90
      · rcases List.mem_cons.mp hw with rfl | hw
        · exact jG_ot vI90
        · exact jTh_ot (vE90 w hw)) hd hb (Nat.zero_le _) hX
theorem vE277 : ∀ w ∈ vx_atS RX8 277 "java/lang/IndexOutOfBoundsException" ["java/lang/RuntimeException", "java/lang/Exception"], jThW w := jG_of [61, 727, 736, 741, 744, 746, 728, 729, 74, 75, 730, 735, 742, 762, 717, 763, 719, 764, 721, 731, 733, 723, 758, 759, 761, 723, 1000, 1001, 1002, 752, 709, 752, 753, 754, 755, 711, 755, 756, 757, 758, 713, 999, 990, 991, 992, 739, 993, 994, 995, 996, 726, 725, 997] (by decide +kernel) (by decide +kernel)
theorem vK277 : Cond.classLink RX8 273 "java/lang/IndexOutOfBoundsException" ∈ jG := jG_mem 989 (by decide +kernel) rfl
theorem vI277 : Cond.initialized "java/lang/IndexOutOfBoundsException" ∈ jG := jG_mem 66 (by decide +kernel) rfl
theorem I.throw277 {text : String} {is : Nat} (hm : mi.1.cls = RX8) (ht : (RX8, is, text) ∈ jStr)
    (hd : (decode mi.2.1 pc = .ok (.new 273, 3) ∧ decode mi.2.1 (pc + 3) = .ok (.dup, 1) ∧ decode mi.2.1 (pc + 4) = .ok (.ldc is, 2) ∧ decode mi.2.1 (pc + 6) = .ok (.invokespecial 277, 3) ∧ decode mi.2.1 (pc + 9) = .ok (.athrow, 1)) ∨
     (decode mi.2.1 pc = .ok (.new 273, 3) ∧ decode mi.2.1 (pc + 3) = .ok (.dup, 1) ∧ decode mi.2.1 (pc + 4) = .ok (.ldc_w is, 3) ∧ decode mi.2.1 (pc + 7) = .ok (.invokespecial 277, 3) ∧ decode mi.2.1 (pc + 10) = .ok (.athrow, 1)))
    (hb : 1 ≤ b.2.1 ∧ 6 ≤ b.2.2) (hX : X "java/lang/IndexOutOfBoundsException" M) : J Γ b mi pc L [] M P X :=
  J.throwS (names := ["java/lang/RuntimeException", "java/lang/Exception"]) (by rw [hm]; exact ht) ⟨by decide +kernel, by decide +kernel, by decide⟩ (by rw [hm]; exact vK277) vI277 (by rw [hm]; exact vE277)
    (fun w hw => by
      rw [hm] at hw
      rcases List.mem_cons.mp hw with rfl | hw
      · exact jG_ot vK277
      · rcases List.mem_cons.mp hw with rfl | hw
        · exact jG_ot vI277
        · exact jTh_ot (vE277 w hw)) hd hb (Nat.zero_le _) hX
end JT
