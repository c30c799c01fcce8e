theorem tL_none2 : ∀ {l : List (Nat × Nat × Nat)} {q k : Nat}, (∀ x ∈ l, x.2.1 ≠ k) → tL l q k = none
  | [], _, _, _ => rfl
  | (a, b, r) :: l, q, k, h => by
    show (if q = a ∧ k = b then some r else tL l q k) = none
    rw [if_neg (fun e => h (a, b, r) List.mem_cons_self e.2.symm)]
    exact tL_none2 fun x hx => h x (List.mem_cons_of_mem _ hx)
theorem lB_q : ∀ x ∈ lB, x.1 < 144 := by decide +kernel
theorem lB_k : ∀ x ∈ lB, x.2.1 < 20 := by decide +kernel
theorem jtl_q : ∀ p ∈ jtl, p.1 < 144 := by decide +kernel
theorem jtl_k : ∀ p ∈ jtl, p.2.length < 21 := by decide +kernel
theorem tL_fin : ∀ q : Fin 144, ∀ k : Fin 20, tL lB q.val k.val = jtau q.val k.val := by decide +kernel
theorem lookup_in {β : Type} : ∀ {l : List (Nat × β)} {q : Nat} {v : β}, l.lookup q = some v → (q, v) ∈ l
  | [], _, _, h => by cases h
  | (a, b) :: l, q, v, h => by
    rw [List.lookup_cons] at h
    cases e : q == a with
    | true => rw [e] at h; cases h; rw [beq_iff_eq.mp e]; exact List.mem_cons_self
    | false => rw [e] at h; exact List.mem_cons_of_mem _ (lookup_in h)
theorem tL_jtau : tL lB = jtau := by
  funext q k
  by_cases hq : q < 144
  · by_cases hk : k < 20
    · exact tL_fin ⟨q, hq⟩ ⟨k, hk⟩
    · rw [tL_none2 (l := lB) (q := q) (k := k) fun x hx e => hk (by rw [← e]; exact lB_k x hx)]
      unfold jtau
      cases h : jtl.lookup q with
      | none => rfl
      | some v =>
        have h2 := jtl_k _ (lookup_in h)
        show none = (v[k]?).join
        rw [List.getElem?_eq_none (by dsimp only at h2; omega)]
        rfl
  · rw [tL_none (l := lB) (q := q) (k := k) fun x hx e => hq (by rw [← e]; exact lB_q x hx)]
    unfold jtau
    cases h : jtl.lookup q with
    | none => rfl
    | some v => exact absurd (jtl_q _ (lookup_in h)) hq
theorem jmT_join {s : Nat → Int → Int} : jmT 144 lB s = jmem s (fun _ _ => 0, fun _ _ => 0) := by
  unfold jmT jmem
  rw [tL_jtau, show jsh.take 144 = jsh from by decide +kernel]
theorem and63 (x : Int32) : ∃ n : Nat, n < 64 ∧ x &&& iI 63 = iI (n : Int) := by
  refine ⟨x.toBitVec.toNat % 64, Nat.mod_lt _ (by decide), ?_⟩
  have lt : x.toBitVec.toNat % 64 < 64 := Nat.mod_lt _ (by decide)
  have e : (x &&& iI 63).toInt = (x.toBitVec &&& 63#32).toInt := congrArg BitVec.toInt (show (x &&& iI 63).toBitVec = x.toBitVec &&& 63#32 from rfl)
  have t : (x.toBitVec &&& 63#32).toNat = x.toBitVec.toNat % 64 := by
    rw [BitVec.toNat_and, show (63#32).toNat = 2 ^ 6 - 1 from rfl, Nat.and_two_pow_sub_one_eq_mod]
  rw [← Int32.toInt_inj, iI_toInt (by omega), e, BitVec.toInt_eq_toNat_cond, t, if_pos (by omega)]
section LW
variable {Γ : jE} {b : Nat × Nat × Nat} {mi : jMI} {pc : Nat} {L : List (Option Value)} {S : List Value} {P : Option Value → jM → Prop} {X : String → jM → Prop} {N N' : Nat} {l : List (Nat × Nat × Nat)} {s : Nat → Int → Int}
theorem K.newL (h : CT N l s) (e : N' = N + 1) {x : Int} (n : Nat) (d : decode mi.2.1 pc = .ok (.newarray .long, 2)) (hs : jsh[N]? = some (103, n)) (hx : iI x = Int32.ofNat n) (hn : n < 1000000) (hN : N < 144) (hb : 1 ≤ b.2.1 ∧ n ≤ b.2.2)
    (k : CT N' l s → J Γ (b.1, b.2.1 - 1, b.2.2 - n) mi (pc + 2) L (.ref N :: S) (jmT N' l s) P X) : J Γ b mi pc L (.int (iI x) :: S) (jmT N l s) P X := by
  subst e
  have k2 := k ⟨hN, fun x hx => Nat.lt_succ_of_lt (h.2.1 x hx), fun q i hq => h.2.2 q i (by omega)⟩
  refine J.newaL n d a_long hx hn h.fr hb ?_
  rw [jmT_len h.1, jmT_one hs]
  exact k2
theorem K.newD (h : CT N l s) (e : N' = N + 1) {x : Int} (n : Nat) (d : decode mi.2.1 pc = .ok (.newarray .double, 2)) (hs : jsh[N]? = some (104, n)) (hx : iI x = Int32.ofNat n) (hn : n < 1000000) (hN : N < 144) (hb : 1 ≤ b.2.1 ∧ n ≤ b.2.2)
    (k : CT N' l s → J Γ (b.1, b.2.1 - 1, b.2.2 - n) mi (pc + 2) L (.ref N :: S) (jmT N' l s) P X) : J Γ b mi pc L (.int (iI x) :: S) (jmT N l s) P X := by
  subst e
  have k2 := k ⟨hN, fun x hx => Nat.lt_succ_of_lt (h.2.1 x hx), fun q i hq => h.2.2 q i (by omega)⟩
  refine J.newaD n d a_double hx hn h.fr hb ?_
  rw [jmT_len h.1, jmT_one hs]
  exact k2
end LW
set_option maxHeartbeats 4000000 in
theorem law_loop {Γ : jE} (hl : Γ.1.stackTraces = false) {Ls : Nat} {xs : Nat → Int32} (hsc : Γ.2.2 = some (Ls, xs)) {d : Nat} (hd : 131 ≤ d) (hL : Ls ≤ 3072) : ∀ (k i : Nat) {s : Nat → Int → Int} {ε : jEps} {a : AS}, Ls < i + 6 * k + 6 → i ≤ Ls + 6 → CI s a → MI s a → AI a →
    J Γ (d, 2 * k, 12 * k) mL_law 28 [some (.ref 2000000), some (.ref 0), some (.ref 137), some (.ref 142), some (.ref 143), some (.int (iI (i : Int))), none, none, none] [] (jmem s ε) (fun v _ => v = some (.int (iI 1))) X0 := by
  intro k
  induction k with
  | zero =>
    intro i s ε a hk hi h m j
    refine J.iload dL_law_28 rfl ?_
    refine J.aload_n 0 dL_law_30 rfl rfl ?_
    refine I.slen hsc dL_law_31 ?_
    refine I.bipush dL_law_32 (by decide) ?_
    refine I.sub dL_law_34 ?_
    refine I.icmp_gt 2845 dL_law_35 (by decide) (by omega) (by omega) (fun h35 => ?_) (fun h35 => ?_)
    · refine I.iconst dL_law_2845 ?_
      exact I.zret dL_law_2846 rfl (Or.inr rfl) rfl
    · exact absurd h35 (by omega)
  | succ k ih =>
    intro i s ε a hk hi h m j
    refine J.iload dL_law_28 rfl ?_
    refine J.aload_n 0 dL_law_30 rfl rfl ?_
    refine I.slen hsc dL_law_31 ?_
    refine I.bipush dL_law_32 (by decide) ?_
    refine I.sub dL_law_34 ?_
    refine I.icmp_gt 2845 dL_law_35 (by decide) (by omega) (by omega) (fun h35 => ?_) (fun h35 => ?_)
    · refine I.iconst dL_law_2845 ?_
      exact I.zret dL_law_2846 rfl (Or.inr rfl) rfl
    · have hi6 : i + 6 ≤ Ls := by omega
      refine J.aload_n 0 dL_law_38 rfl rfl ?_
      refine J.iload dL_law_39 rfl ?_
      refine I.sld (j := i) hsc rfl (by omega) hL dL_law_41 ?_
      refine I.bipush dL_law_42 (by decide) ?_
      refine J.iand dL_law_44 ?_
      have kx : ∀ s' ε' a', AI a' → CI s' a' → MI s' a' → J Γ (d, 2 * k, 12 * k) mL_law 2839 [some (.ref 2000000), some (.ref 0), some (.ref 137), some (.ref 142), some (.ref 143), some (.int (iI (i : Int))), none, none, none] [] (jmem s' ε') (fun v _ => v = some (.int (iI 1))) X0 := fun s' ε' a' j' h' m' => by
        refine I.iinc dL_law_2839 rfl rfl ?_
        refine J.goto 28 dL_law_2842 (by decide) ?_
        exact ih (i + 6) (by omega) (by omega) h' m' j'
      obtain ⟨n, hn, e63⟩ := and63 (iI (xs i).toInt)
      rw [e63]
      clear e63
      match n, hn with
      | 0, _ => exact J.tableIn (off := 271) 316 dL_law_45 (by decide) (by decide) (by decide) (by decide) (lc_0 hl hsc hd hi6 hL h m j kx)
      | 1, _ => exact J.tableIn (off := 375) 420 dL_law_45 (by decide) (by decide) (by decide) (by decide) (lc_1 hl hsc hd hi6 hL h m j kx)
      | 2, _ => exact J.tableIn (off := 411) 456 dL_law_45 (by decide) (by decide) (by decide) (by decide) (lc_2 hl hsc hd hi6 hL h m j kx)
      | 3, _ => exact J.tableIn (off := 455) 500 dL_law_45 (by decide) (by decide) (by decide) (by decide) (lc_3 hl hsc hd hi6 hL h m j kx)
      | 4, _ => exact J.tableIn (off := 468) 513 dL_law_45 (by decide) (by decide) (by decide) (by decide) (lc_4 hl hsc hd hi6 hL h m j kx)
      | 5, _ => exact J.tableIn (off := 481) 526 dL_law_45 (by decide) (by decide) (by decide) (by decide) (lc_5 hl hsc hd hi6 hL h m j kx)
      | 6, _ => exact J.tableIn (off := 494) 539 dL_law_45 (by decide) (by decide) (by decide) (by decide) (lc_6 hl hsc hd hi6 hL h m j kx)
      | 7, _ => exact J.tableIn (off := 507) 552 dL_law_45 (by decide) (by decide) (by decide) (by decide) (lc_7 hl hsc hd hi6 hL h m j kx)
      | 8, _ => exact J.tableIn (off := 520) 565 dL_law_45 (by decide) (by decide) (by decide) (by decide) (lc_8 hl hsc hd hi6 hL h m j kx)
      | 9, _ => exact J.tableIn (off := 533) 578 dL_law_45 (by decide) (by decide) (by decide) (by decide) (lc_9 hl hsc hd hi6 hL h m j kx)
      | 10, _ => exact J.tableIn (off := 589) 634 dL_law_45 (by decide) (by decide) (by decide) (by decide) (lc_10 hl hsc hd hi6 hL h m j kx)
      | 11, _ => exact J.tableIn (off := 645) 690 dL_law_45 (by decide) (by decide) (by decide) (by decide) (lc_11 hl hsc hd hi6 hL h m j kx)
      | 12, _ => exact J.tableIn (off := 658) 703 dL_law_45 (by decide) (by decide) (by decide) (by decide) (lc_12 hl hsc hd hi6 hL h m j kx)
      | 13, _ => exact J.tableIn (off := 671) 716 dL_law_45 (by decide) (by decide) (by decide) (by decide) (lc_13 hl hsc hd hi6 hL h m j kx)
      | 14, _ => exact J.tableIn (off := 739) 784 dL_law_45 (by decide) (by decide) (by decide) (by decide) (lc_14 hl hsc hd hi6 hL h m j kx)
      | 15, _ => exact J.tableIn (off := 795) 840 dL_law_45 (by decide) (by decide) (by decide) (by decide) (lc_15 hl hsc hd hi6 hL h m j kx)
      | 16, _ => exact J.tableIn (off := 851) 896 dL_law_45 (by decide) (by decide) (by decide) (by decide) (lc_16 hl hsc hd hi6 hL h m j kx)
      | 17, _ => exact J.tableIn (off := 907) 952 dL_law_45 (by decide) (by decide) (by decide) (by decide) (lc_17 hl hsc hd hi6 hL h m j kx)
      | 18, _ => exact J.tableIn (off := 984) 1029 dL_law_45 (by decide) (by decide) (by decide) (by decide) (lc_18 hl hsc hd hi6 hL h m j kx)
      | 19, _ => exact J.tableIn (off := 997) 1042 dL_law_45 (by decide) (by decide) (by decide) (by decide) (lc_19 hl hsc hd hi6 hL h m j kx)
      | 20, _ => exact J.tableIn (off := 1053) 1098 dL_law_45 (by decide) (by decide) (by decide) (by decide) (lc_20 hl hsc hd hi6 hL h m j kx)
      | 21, _ => exact J.tableIn (off := 1121) 1166 dL_law_45 (by decide) (by decide) (by decide) (by decide) (lc_21 hl hsc hd hi6 hL h m j kx)
      | 22, _ => exact J.tableIn (off := 1189) 1234 dL_law_45 (by decide) (by decide) (by decide) (by decide) (lc_22 hl hsc hd hi6 hL h m j kx)
      | 23, _ => exact J.tableIn (off := 1257) 1302 dL_law_45 (by decide) (by decide) (by decide) (by decide) (lc_23 hl hsc hd hi6 hL h m j kx)
      | 24, _ => exact J.tableIn (off := 1313) 1358 dL_law_45 (by decide) (by decide) (by decide) (by decide) (lc_24 hl hsc hd hi6 hL h m j kx)
      | 25, _ => exact J.tableIn (off := 1326) 1371 dL_law_45 (by decide) (by decide) (by decide) (by decide) (lc_25 hl hsc hd hi6 hL h m j kx)
      | 26, _ => exact J.tableIn (off := 1382) 1427 dL_law_45 (by decide) (by decide) (by decide) (by decide) (lc_26 hl hsc hd hi6 hL h m j kx)
      | 27, _ => exact J.tableIn (off := 1395) 1440 dL_law_45 (by decide) (by decide) (by decide) (by decide) (lc_27 hl hsc hd hi6 hL h m j kx)
      | 28, _ => exact J.tableIn (off := 1408) 1453 dL_law_45 (by decide) (by decide) (by decide) (by decide) (lc_28 hl hsc hd hi6 hL h m j kx)
      | 29, _ => exact J.tableIn (off := 1471) 1516 dL_law_45 (by decide) (by decide) (by decide) (by decide) (lc_29 hl hsc hd hi6 hL h m j kx)
      | 30, _ => exact J.tableIn (off := 1527) 1572 dL_law_45 (by decide) (by decide) (by decide) (by decide) (lc_30 hl hsc hd hi6 hL h m j kx)
      | 31, _ => exact J.tableIn (off := 1590) 1635 dL_law_45 (by decide) (by decide) (by decide) (by decide) (lc_31 hl hsc hd hi6 hL h m j kx)
      | 32, _ => exact J.tableIn (off := 1646) 1691 dL_law_45 (by decide) (by decide) (by decide) (by decide) (lc_32 hl hsc hd hi6 hL h m j kx)
      | 33, _ => exact J.tableIn (off := 1659) 1704 dL_law_45 (by decide) (by decide) (by decide) (by decide) (lc_33 hl hsc hd hi6 hL h m j kx)
      | 34, _ => exact J.tableIn (off := 1715) 1760 dL_law_45 (by decide) (by decide) (by decide) (by decide) (lc_34 hl hsc hd hi6 hL h m j kx)
      | 35, _ => exact J.tableIn (off := 1771) 1816 dL_law_45 (by decide) (by decide) (by decide) (by decide) (lc_35 hl hsc hd hi6 hL h m j kx)
      | 36, _ => exact J.tableIn (off := 1784) 1829 dL_law_45 (by decide) (by decide) (by decide) (by decide) (lc_36 hl hsc hd hi6 hL h m j kx)
      | 37, _ => exact J.tableIn (off := 1797) 1842 dL_law_45 (by decide) (by decide) (by decide) (by decide) (lc_37 hl hsc hd hi6 hL h m j kx)
      | 38, _ => exact J.tableIn (off := 1853) 1898 dL_law_45 (by decide) (by decide) (by decide) (by decide) (lc_38 hl hsc hd hi6 hL h m j kx)
      | 39, _ => exact J.tableIn (off := 1916) 1961 dL_law_45 (by decide) (by decide) (by decide) (by decide) (lc_39 hl hsc hd hi6 hL h m j kx)
      | 40, _ => exact J.tableIn (off := 1929) 1974 dL_law_45 (by decide) (by decide) (by decide) (by decide) (lc_40 hl hsc hd hi6 hL h m j kx)
      | 41, _ => exact J.tableIn (off := 1985) 2030 dL_law_45 (by decide) (by decide) (by decide) (by decide) (lc_41 hl hsc hd hi6 hL h m j kx)
      | 42, _ => exact J.tableIn (off := 2029) 2074 dL_law_45 (by decide) (by decide) (by decide) (by decide) (lc_42 hl hsc hd hi6 hL h m j kx)
      | 43, _ => exact J.tableIn (off := 2073) 2118 dL_law_45 (by decide) (by decide) (by decide) (by decide) (lc_43 hl hsc hd hi6 hL h m j kx)
      | 44, _ => exact J.tableIn (off := 2086) 2131 dL_law_45 (by decide) (by decide) (by decide) (by decide) (lc_44 hl hsc hd hi6 hL h m j kx)
      | 45, _ => exact J.tableIn (off := 2099) 2144 dL_law_45 (by decide) (by decide) (by decide) (by decide) (lc_45 hl hsc hd hi6 hL h m j kx)
      | 46, _ => exact J.tableIn (off := 2112) 2157 dL_law_45 (by decide) (by decide) (by decide) (by decide) (lc_46 hl hsc hd hi6 hL h m j kx)
      | 47, _ => exact J.tableIn (off := 2168) 2213 dL_law_45 (by decide) (by decide) (by decide) (by decide) (lc_47 hl hsc hd hi6 hL h m j kx)
      | 48, _ => exact J.tableIn (off := 2224) 2269 dL_law_45 (by decide) (by decide) (by decide) (by decide) (lc_48 hl hsc hd hi6 hL h m j kx)
      | 49, _ => exact J.tableIn (off := 2237) 2282 dL_law_45 (by decide) (by decide) (by decide) (by decide) (lc_49 hl hsc hd hi6 hL h m j kx)
      | 50, _ => exact J.tableIn (off := 2281) 2326 dL_law_45 (by decide) (by decide) (by decide) (by decide) (lc_50 hl hsc hd hi6 hL h m j kx)
      | 51, _ => exact J.tableIn (off := 2294) 2339 dL_law_45 (by decide) (by decide) (by decide) (by decide) (lc_51 hl hsc hd hi6 hL h m j kx)
      | 52, _ => exact J.tableIn (off := 2307) 2352 dL_law_45 (by decide) (by decide) (by decide) (by decide) (lc_52 hl hsc hd hi6 hL h m j kx)
      | 53, _ => exact J.tableIn (off := 2320) 2365 dL_law_45 (by decide) (by decide) (by decide) (by decide) (lc_53 hl hsc hd hi6 hL h m j kx)
      | 54, _ => exact J.tableIn (off := 2404) 2449 dL_law_45 (by decide) (by decide) (by decide) (by decide) (lc_54 hl hsc hd hi6 hL h m j kx)
      | 55, _ => exact J.tableIn (off := 2455) 2500 dL_law_45 (by decide) (by decide) (by decide) (by decide) (lc_55 hl hsc hd hi6 hL h m j kx)
      | 56, _ => exact J.tableIn (off := 2511) 2556 dL_law_45 (by decide) (by decide) (by decide) (by decide) (lc_56 hl hsc hd hi6 hL h m j kx)
      | 57, _ => exact J.tableIn (off := 2555) 2600 dL_law_45 (by decide) (by decide) (by decide) (by decide) (lc_57 hl hsc hd hi6 hL h m j kx)
      | 58, _ => exact J.tableIn (off := 2599) 2644 dL_law_45 (by decide) (by decide) (by decide) (by decide) (lc_58 hl hsc hd hi6 hL h m j kx)
      | 59, _ => exact J.tableIn (off := 2612) 2657 dL_law_45 (by decide) (by decide) (by decide) (by decide) (lc_59 hl hsc hd hi6 hL h m j kx)
      | 60, _ => exact J.tableIn (off := 2656) 2701 dL_law_45 (by decide) (by decide) (by decide) (by decide) (lc_60 hl hsc hd hi6 hL h m j kx)
      | 61, _ => exact J.tableIn (off := 2712) 2757 dL_law_45 (by decide) (by decide) (by decide) (by decide) (lc_61 hl hsc hd hi6 hL h m j kx)
      | 62, _ => exact J.tableIn (off := 2725) 2770 dL_law_45 (by decide) (by decide) (by decide) (by decide) (lc_62 hl hsc hd hi6 hL h m j kx)
      | 63, _ => exact J.tableIn (off := 2738) 2783 dL_law_45 (by decide) (by decide) (by decide) (by decide) (lc_63 hl hsc hd hi6 hL h m j kx)
      | n + 64, hn => exact absurd hn (by omega)
set_option maxHeartbeats 4000000 in
set_option maxRecDepth 100000 in
theorem law_J {Γ : jE} (hl : Γ.1.stackTraces = false) {Ls : Nat} {xs : Nat → Int32} (hsc : Γ.2.2 = some (Ls, xs)) {d : Nat} (hd : 131 ≤ d) (hL : Ls ≤ 3072) :
    J Γ (d, 601024, 7293034) mL_law 0 [some (.ref 2000000), none, none, none, none, none, none, none, none] [] (jmT 0 [] (fun _ _ => 0)) (fun v _ => v = some (.int (iI 1))) X0 := by
  have h0 : CT 0 [] (fun _ _ => 0) := ⟨by decide, fun x hx => absurd hx List.not_mem_nil, fun _ _ _ => rfl⟩
  refine K.new h0 (N' := 1) rfl dL_law_0 (ci := 8) (n := 12) rfl kL_8 iX8 iniX8 rfl (by decide) (show 1 ≤ 601024 ∧ 12 ≤ 7293034 from ⟨by decide, by decide⟩) fun h1 => ?_
  refine J.dupR dL_law_3 ?_
  refine K.initE (mi' := mX8_init) (b' := (d - 1, 136, 143601)) dL_law_4 lL_141 eX8_init (show d - 1 + 1 ≤ d ∧ 136 ≤ 601024 - 1 ∧ 143601 ≤ 7293034 - 12 from ⟨by omega, by decide, by decide⟩) (c_X8_init (d := d - 1) hl (by omega) h1) (Nat.le_of_ble_eq_true rfl) fun s1 h2 => ?_
  obtain ⟨h2, ci⟩ := h2
  refine J.astore_n 1 dL_law_7 rfl (by decide) rfl ?_
  refine K.new h2 (N' := 138) rfl dL_law_8 (ci := 9) (n := 17) rfl kL_142 iX9 iniX9 rfl (by decide) (show 1 ≤ 601024 - 1 - 136 ∧ 17 ≤ 7293034 - 12 - 143601 from ⟨by decide, by decide⟩) fun h3 => ?_
  refine J.dupR dL_law_11 ?_
  refine K.initE (mi' := mX9_init) (b' := (d - 1, 4, 527772)) dL_law_12 lL_144 eX9_init (show d - 1 + 1 ≤ d ∧ 4 ≤ 601024 - 1 - 136 - 1 ∧ 527772 ≤ 7293034 - 12 - 143601 - 17 from ⟨by omega, by decide, by decide⟩) (c_X9_init (d := d - 1) hl (by omega) h3 (fun q => h2.2.2 137 q (Nat.le_refl _))) (Nat.le_of_ble_eq_true rfl) fun s2 h4 => ?_
  obtain ⟨h4, mi9, -, lo⟩ := h4
  refine J.astore_n 2 dL_law_15 rfl (by decide) rfl ?_
  refine I.iconst dL_law_16 ?_
  refine K.newL h4 (N' := 143) rfl 1 dL_law_17 rfl rfl (by decide) (by decide) (show 1 ≤ 601024 - 1 - 136 - 1 - 4 ∧ 1 ≤ 7293034 - 12 - 143601 - 17 - 527772 from ⟨by decide, by decide⟩) fun h5 => ?_
  refine J.astore_n 3 dL_law_19 rfl (by decide) rfl ?_
  refine I.iconst dL_law_20 ?_
  refine K.newD h5 (N' := 144) rfl 1 dL_law_21 rfl rfl (by decide) (by decide) (show 1 ≤ 601024 - 1 - 136 - 1 - 4 - 1 ∧ 1 ≤ 7293034 - 12 - 143601 - 17 - 527772 - 1 from ⟨by decide, by decide⟩) fun h6 => ?_
  refine J.astore dL_law_23 (by decide) rfl ?_
  refine I.iconst dL_law_25 ?_
  refine J.istore dL_law_26 (by decide) rfl ?_
  rw [jmT_join]
  exact J.mono (law_loop hl hsc hd hL 513 0 (by omega) (by omega) (ci.hi lo) mi9 iA0_ok) (fun _ _ h => h) (fun _ _ h => h) ⟨show d ≤ d from Nat.le_refl d, show 2 * 513 ≤ 601024 - 1 - 136 - 1 - 4 - 1 - 1 from by decide, show 12 * 513 ≤ 7293034 - 12 - 143601 - 17 - 527772 - 1 - 1 from by decide⟩
