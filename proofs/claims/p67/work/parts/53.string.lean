theorem jW_same {Γ : jE} {s : State} {A : Nat → Prop} {n0 : Nat} {ρ0 ρ : Nat → Nat} {M : jM} {κ : Nat → ClassId} {H H1 : Heap} {locs locs1 : List Loc} (hW : jW Γ s A n0 ρ0 M ρ κ H locs) (hk : ∀ q : Nat, q < H.size → H1[q]? = H[q]?) (hS : va_S A s.heap H1 locs1) : jW Γ s A n0 ρ0 M ρ κ H1 locs1 := by
  obtain ⟨w1, w2, w3, w4, w5, w6, w7⟩ := hW
  exact ⟨w1.kept fun k q h => hk _ (vx_lt w1 h), w2, hS, w4, w5, w6, w7⟩
section JK2
variable {Γ : jE} {b : Nat × Nat × Nat} {mi : jMI} {pc : Nat} {L : List (Option Value)} {S : List Value} {M : jM} {P : Option Value → jM → Prop} {X : String → jM → Prop}
set_option maxHeartbeats 1000000 in
theorem J.strCall {i idx d' : Nat} {mi' : jMI} {r : Int32} (As : List Value) (hi : i < 6) (dd : decode mi.2.1 pc = .ok (.invokevirtual idx, 3)) (hl : Cond.methodLink mi.1.cls idx mi'.1 ∈ jG) (hs : jVE mi' As.length) (hcl : mi'.1.cls = "java/lang/String") (hb : d' + 1 ≤ b.1) (hAs : ∀ v ∈ As, ∃ x, v = .int x)
    (hc : ∀ (adK adV : Nat → Nat), kCon Γ.1 d' mi' (.ref (adK i) :: As) adK adV (some r)) (hcat : (S.map fun v => v.category).sum ≤ 8) (k : J Γ b mi (pc + 3) L (.int r :: S) M P X) : J Γ b mi pc L (As.reverse ++ .ref (1000000 + i) :: S) M P X := by
  intro p e R s m args below meth c A n0 ρ0 Q C F ρ κ ls H locs cells slots hW hL hS h1 h2
  have hS1 := jok_app hS
  have hS2 : ∀ v ∈ S, jok M.1.length v := jS_tl hS1.2
  have hρ : ρ (1000000 + i) = ρ0 (1000000 + i) := hW.2.2.2.2.2.2 _ (Or.inr (Nat.le_add_right _ _))
  have hmap : As.map (jre ρ) = As := by
    refine (List.map_congr_left fun v hv => ?_).trans (List.map_id As)
    obtain ⟨x, rfl⟩ := hAs v hv
    rfl
  rw [List.map_append, List.map_reverse, hmap, List.map_cons, show jre ρ (.ref (1000000 + i)) = .ref (ρ0 (1000000 + i)) by rw [← hρ]; rfl]
  obtain ⟨-, hz, hq, adV, hv5⟩ := C.2.2.2.2.2.2.2.2.2.2.2.2.1.2.2.2
  have hSS := hW.2.2.1
  have hA := C.2.2.2.2.2.2.2.2.2.2.1
  have hn : ∀ q, kA H.size q → A q := fun q h => hA q (Nat.le_trans hSS.1 h)
  have hM := hc (fun i => ρ0 (1000000 + i)) adV H.size
  have hg : GoodIn jG (wsV mi.1.cls idx mi'.1.cls mi'.1 (jws mi')) := by
    intro w hw
    rcases List.mem_append.mp hw with h | h
    · simp only [List.mem_cons, List.not_mem_nil, or_false] at h
      rcases h with rfl | rfl | rfl | rfl
      · exact jgood hl
      · exact jgood hs.2.1
      · exact jgood hs.2.2
      · exact jgood hs.1.2.1
    · exact jws_good hs.1 w h
  have hrm := jroom (R := R) (b' := (d', 0, 0)) hb hs.1.2.2.2 C.2.2.2.2.2.2.2.1 C.2.2.2.2.2.2.2.2.1
  have hrv := vk_recv hv5 hi hSS
  have fx : CallFix p m c mi.2.1 mi.2.2.1 s args jG mi.1.cls := ⟨C.1, C.2.1, C.2.2.1, C.2.2.2.2.2.1, C.2.2.2.2.2.2.1⟩
  have hkB : ∀ U : State, U.heap = H → s.WarmedH U.vm → kB (fun i => ρ0 (1000000 + i)) adV H.size U := by
    intro U hU hw
    subst hU
    exact ⟨rfl, ((hz.kept hSS.2.1).narrow hn).moved hw.alike, ((hq.kept hSS.2.1).narrow hn).moved hw.alike, ((hv5.kept hSS.2.1).narrow hn).moved hw.alike⟩
  exact kRun (rest := S.map (jre ρ)) (va_runV (As := As) fx hM (cwV As.length C.2.2.2.2.2.2.1 hg rfl rfl rfl ⟨rfl, hs.1.2.2.1⟩ hrm) ⟨kB_blind, by rw [hcl]; exact hrv, fun U hU hw => ⟨rfl, hkB U hU hw⟩⟩ rfl rfl hL.2.1 rfl (lv_room (jcatS hcat)) dd ⟨by omega, by omega⟩) hSS hA
    (fun H1 locs1 _ hk hS3 => k p e R s m args below meth c A n0 ρ0 Q C F ρ κ ls H1 locs1 cells slots (jW_same hW hk hS3) hL (jS_int hS2) h1 h2)
end JK2
/-- the letters of a word -/
def jwd (i : Nat) (k : Int) : Int := ((jByt.getD i []).getD k.toNat 0).toInt
def jwl (i : Nat) : Int := (jLen.getD i 0 : Nat)
section JK3
variable {Γ : jE} {b : Nat × Nat × Nat} {mi : jMI} {pc : Nat} {L : List (Option Value)} {S : List Value} {M : jM} {P : Option Value → jM → Prop} {X : String → jM → Prop}
theorem jwl_eq : ∀ i, i < 5 → Int32.ofNat (jLen.getD i 0) >>> ((0 : Int32) &&& 31) = iI (jwl i) := by decide +kernel
theorem jwl_rng : ∀ i, i < 5 → 4 ≤ jwl i ∧ jwl i ≤ 5 := by decide +kernel
theorem kCh_eq : ∀ i, i < 5 → ∀ k, k < jLen.getD i 0 → kCh i (Int32.ofNat k) = iI (jwd i (k : Int)) ∧ narrow .char (.int (kCh i (Int32.ofNat k))) = .int (kCh i (Int32.ofNat k)) ∧ 97 ≤ jwd i (k : Int) ∧ jwd i (k : Int) ≤ 122 := by decide +kernel
theorem I.strLen {i : Nat} (hi : i < 5) (dd : decode mi.2.1 pc = .ok (.invokevirtual 47, 3)) (hm : mi.1.cls = RX4) (hb : 2 ≤ b.1) (hcat : (S.map fun v => v.category).sum ≤ 8) (k : J Γ b mi (pc + 3) L (.int (iI (jwl i)) :: S) M P X) : J Γ b mi pc L (.ref (1000000 + i) :: S) M P X := by
  rw [← jwl_eq i hi] at k
  exact J.strCall (d' := 1) (mi' := mJ0_length_8abf5) [] (Nat.lt_succ_of_lt hi) dd (by rw [hm]; exact lX4_47) eJ0_length_8abf5 rfl (by omega) (fun v h => absurd h List.not_mem_nil) (fun adK adV => k_length (Nat.lt_succ_of_lt hi) (by omega)) hcat k
theorem I.strCharAt {i : Nat} {z : Int} (hi : i < 5) (h0 : 0 ≤ z ∧ z < jwl i) (dd : decode mi.2.1 pc = .ok (.invokevirtual 53, 3)) (hm : mi.1.cls = RX4) (hb : 4 ≤ b.1) (hcat : (S.map fun v => v.category).sum ≤ 8) (k : J Γ b mi (pc + 3) L (.int (iI (jwd i z)) :: S) M P X) : J Γ b mi pc L (.int (iI z) :: .ref (1000000 + i) :: S) M P X := by
  obtain ⟨n, rfl⟩ := Int.eq_ofNat_of_zero_le h0.1
  have hn : n < jLen.getD i 0 := by have := h0.2; unfold jwl at this; omega
  have hr := jwl_rng i hi
  obtain ⟨e1, e2, e3⟩ := kCh_eq i hi n hn
  rw [← e1] at k
  have hz : (iI (n : Int)) = Int32.ofNat n := rfl
  refine J.strCall (d' := 3) (mi' := mJ0_charAt_5068e) [.int (iI n)] (Nat.lt_succ_of_lt hi) dd (by rw [hm]; exact lX4_53) eJ0_charAt_5068e rfl (by omega) (fun v h => ⟨_, List.mem_singleton.mp h⟩) (fun adK adV => ?_) hcat k
  refine k_charAt (Nat.lt_succ_of_lt hi) (by omega) (fun h => ?_) ?_ ?_ e2
  · have := (iI_lt (x := (n : Int)) (y := 0) (by omega) (by omega)).mp h
    omega
  · exact (iI_lt (x := (n : Int)) (y := ((jLen.getD i 0 : Nat) : Int)) (by omega) (by unfold jwl at hr; omega)).mpr (by omega)
  · exact iI_in (z := (n : Int)) ⟨by omega, by omega⟩ (by unfold jwl at hr; omega)
end JK3
