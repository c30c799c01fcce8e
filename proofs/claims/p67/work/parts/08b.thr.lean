section JT
variable {Γ : jE} {b : Nat × Nat × Nat} {mi : jMI} {pc : Nat} {L : List (Option Value)} {S : List Value} {M : jM} {P : Option Value → jM → Prop} {X : String → jM → Prop}
def jThW (w : Cond) : Prop := w ∈ lw_tbl ∧ (goodWord w = true ∨ (∃ C T, w = .castable C T) ∨ ∃ y, w = .declares y)
def jThB (w : Cond) : Bool := goodWord w || (match w with | .castable _ _ => true | .declares _ => true | _ => false)
theorem jG_of {ws : List Cond} (ks : List Nat) (h : ws.map some = ks.map (lw_tbl[·]?)) (hg : ws.all jThB = true) : ∀ w ∈ ws, jThW w := by
  intro w hw
  have h1 : some w ∈ ks.map (lw_tbl[·]?) := h ▸ List.mem_map.mpr ⟨w, hw, rfl⟩
  obtain ⟨k, -, hk⟩ := List.mem_map.mp h1
  refine ⟨List.mem_of_getElem? hk, ?_⟩
  have h2 := List.all_eq_true.mp hg w hw
  unfold jThB at h2
  rw [Bool.or_eq_true] at h2
  rcases h2 with h2 | h2
  · exact Or.inl h2
  · split at h2
    · exact Or.inr (Or.inl ⟨_, _, rfl⟩)
    · exact Or.inr (Or.inr ⟨_, rfl⟩)
    · cases h2
theorem jTh_ot {w : Cond} (h : jThW w) : vx_ot w = true := by
  unfold vx_ot
  rcases h.2 with h | ⟨_, _, rfl⟩ | ⟨_, rfl⟩
  · rw [h]; exact Bool.or_true _
  · rfl
  · rfl
theorem jG_ot {w : Cond} (h : w ∈ jG) : vx_ot w = true := by
  unfold vx_ot
  rw [(List.mem_filter.mp h).2]; exact Bool.or_true _

theorem vE75 : ∀ w ∈ vx_atS RX8 75 "java/lang/IllegalStateException" ["java/lang/RuntimeException", "java/lang/Exception"], jThW w := jG_of [119, 872, 881, 886, 889, 891, 873, 874, 137, 138, 875, 880, 887, 907, 862, 908, 864, 909, 866, 876, 878, 868, 903, 904, 906, 868, 894, 895, 896, 897, 854, 897, 898, 899, 900, 856, 900, 901, 902, 903, 858, 893, 851, 852, 859, 860, 861, 863, 865, 867, 871, 870, 869] (by decide +kernel) (by decide +kernel)
theorem vK75 : Cond.classLink RX8 71 "java/lang/IllegalStateException" ∈ jG := jG_mem 850 (by decide +kernel) rfl
theorem vI75 : Cond.initialized "java/lang/IllegalStateException" ∈ jG := jG_mem 122 (by decide +kernel) rfl
theorem I.throw75 {text : String} {is : Nat} (hm : mi.1.cls = RX8) (ht : (RX8, is, text) ∈ jStr)
    (hd : (decode mi.2.1 pc = .ok (.new 71, 3) ∧ decode mi.2.1 (pc + 3) = .ok (.dup, 1) ∧ decode mi.2.1 (pc + 4) = .ok (.ldc is, 2) ∧ decode mi.2.1 (pc + 6) = .ok (.invokespecial 75, 3) ∧ decode mi.2.1 (pc + 9) = .ok (.athrow, 1)) ∨
     (decode mi.2.1 pc = .ok (.new 71, 3) ∧ decode mi.2.1 (pc + 3) = .ok (.dup, 1) ∧ decode mi.2.1 (pc + 4) = .ok (.ldc_w is, 3) ∧ decode mi.2.1 (pc + 7) = .ok (.invokespecial 75, 3) ∧ decode mi.2.1 (pc + 10) = .ok (.athrow, 1)))
    (hb : 1 ≤ b.2.1 ∧ 6 ≤ b.2.2) (hX : X "java/lang/IllegalStateException" M) : J Γ b mi pc L [] M P X :=
  J.throwS (names := ["java/lang/RuntimeException", "java/lang/Exception"]) (by rw [hm]; exact ht) ⟨by decide +kernel, by decide +kernel, by decide⟩ (by rw [hm]; exact vK75) vI75 (by rw [hm]; exact vE75)
    (fun w hw => by
      rw [hm] at hw
      rcases List.mem_cons.mp hw with rfl | hw
      · exact jG_ot vK75
      · rcases List.mem_cons.mp hw with rfl | hw
        · exact jG_ot vI75
        · exact jTh_ot (vE75 w hw)) hd hb (Nat.zero_le _) hX
theorem vE90 : ∀ w ∈ vx_atS RX8 90 "java/lang/IllegalArgumentException" ["java/lang/RuntimeException", "java/lang/Exception"], jThW w := jG_of [119, 872, 881, 886, 889, 891, 873, 874, 137, 138, 875, 880, 887, 907, 862, 908, 864, 909, 866, 876, 878, 868, 903, 904, 906, 868, 943, 944, 945, 897, 854, 897, 898, 899, 900, 856, 900, 901, 902, 903, 858, 942, 933, 934, 935, 883, 936, 937, 938, 939, 871, 870, 940] (by decide +kernel) (by decide +kernel)
theorem vK90 : Cond.classLink RX8 86 "java/lang/IllegalArgumentException" ∈ jG := jG_mem 932 (by decide +kernel) rfl
theorem vI90 : Cond.initialized "java/lang/IllegalArgumentException" ∈ jG := jG_mem 123 (by decide +kernel) rfl
theorem I.throw90 {text : String} {is : Nat} (hm : mi.1.cls = RX8) (ht : (RX8, is, text) ∈ jStr)
    (hd : (decode mi.2.1 pc = .ok (.new 86, 3) ∧ decode mi.2.1 (pc + 3) = .ok (.dup, 1) ∧ decode mi.2.1 (pc + 4) = .ok (.ldc is, 2) ∧ decode mi.2.1 (pc + 6) = .ok (.invokespecial 90, 3) ∧ decode mi.2.1 (pc + 9) = .ok (.athrow, 1)) ∨
     (decode mi.2.1 pc = .ok (.new 86, 3) ∧ decode mi.2.1 (pc + 3) = .ok (.dup, 1) ∧ decode mi.2.1 (pc + 4) = .ok (.ldc_w is, 3) ∧ decode mi.2.1 (pc + 7) = .ok (.invokespecial 90, 3) ∧ decode mi.2.1 (pc + 10) = .ok (.athrow, 1)))
    (hb : 1 ≤ b.2.1 ∧ 6 ≤ b.2.2) (hX : X "java/lang/IllegalArgumentException" M) : J Γ b mi pc L [] M P X :=
  J.throwS (names := ["java/lang/RuntimeException", "java/lang/Exception"]) (by rw [hm]; exact ht) ⟨by decide +kernel, by decide +kernel, by decide⟩ (by rw [hm]; exact vK90) vI90 (by rw [hm]; exact vE90)
    (fun w hw => by
      rw [hm] at hw
      rcases List.mem_cons.mp hw with rfl | hw
      · exact jG_ot vK90
      · rcases List.mem_cons.mp hw with rfl | hw
        · exact jG_ot vI90
        · exact jTh_ot (vE90 w hw)) hd hb (Nat.zero_le _) hX
theorem vE277 : ∀ w ∈ vx_atS RX8 277 "java/lang/IndexOutOfBoundsException" ["java/lang/RuntimeException", "java/lang/Exception"], jThW w := jG_of [119, 872, 881, 886, 889, 891, 873, 874, 137, 138, 875, 880, 887, 907, 862, 908, 864, 909, 866, 876, 878, 868, 903, 904, 906, 868, 1137, 1138, 1139, 897, 854, 897, 898, 899, 900, 856, 900, 901, 902, 903, 858, 1136, 1127, 1128, 1129, 884, 1130, 1131, 1132, 1133, 871, 870, 1134] (by decide +kernel) (by decide +kernel)
theorem vK277 : Cond.classLink RX8 273 "java/lang/IndexOutOfBoundsException" ∈ jG := jG_mem 1126 (by decide +kernel) rfl
theorem vI277 : Cond.initialized "java/lang/IndexOutOfBoundsException" ∈ jG := jG_mem 129 (by decide +kernel) rfl
theorem I.throw277 {text : String} {is : Nat} (hm : mi.1.cls = RX8) (ht : (RX8, is, text) ∈ jStr)
    (hd : (decode mi.2.1 pc = .ok (.new 273, 3) ∧ decode mi.2.1 (pc + 3) = .ok (.dup, 1) ∧ decode mi.2.1 (pc + 4) = .ok (.ldc is, 2) ∧ decode mi.2.1 (pc + 6) = .ok (.invokespecial 277, 3) ∧ decode mi.2.1 (pc + 9) = .ok (.athrow, 1)) ∨
     (decode mi.2.1 pc = .ok (.new 273, 3) ∧ decode mi.2.1 (pc + 3) = .ok (.dup, 1) ∧ decode mi.2.1 (pc + 4) = .ok (.ldc_w is, 3) ∧ decode mi.2.1 (pc + 7) = .ok (.invokespecial 277, 3) ∧ decode mi.2.1 (pc + 10) = .ok (.athrow, 1)))
    (hb : 1 ≤ b.2.1 ∧ 6 ≤ b.2.2) (hX : X "java/lang/IndexOutOfBoundsException" M) : J Γ b mi pc L [] M P X :=
  J.throwS (names := ["java/lang/RuntimeException", "java/lang/Exception"]) (by rw [hm]; exact ht) ⟨by decide +kernel, by decide +kernel, by decide⟩ (by rw [hm]; exact vK277) vI277 (by rw [hm]; exact vE277)
    (fun w hw => by
      rw [hm] at hw
      rcases List.mem_cons.mp hw with rfl | hw
      · exact jG_ot vK277
      · rcases List.mem_cons.mp hw with rfl | hw
        · exact jG_ot vI277
        · exact jTh_ot (vE277 w hw)) hd hb (Nat.zero_le _) hX
end JT
