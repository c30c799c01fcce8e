set_option maxHeartbeats 4000000 in
theorem lc_16 {Γ : jE} (hl : Γ.1.stackTraces = false) {Ls : Nat} {xs : Nat → Int32} (hsc : Γ.2.2 = some (Ls, xs)) {s : Nat → Int → Int} {ε : jEps} {d i mc ms : Nat} {a : AS} {P : Option Value → jM → Prop} {X : String → jM → Prop} (hd : 131 ≤ d) (hi : i + 6 ≤ Ls) (hL : Ls ≤ 3072) (h : CI s a) (m : MI s a) (j : AI a) (kx : ∀ s' ε' a', AI a' → CI s' a' → MI s' a' → J Γ (d, mc, ms) mL_law 2839 [some (.ref 2000000), some (.ref 0), some (.ref 137), some (.ref 142), some (.ref 143), some (.int (iI (i : Int))), none, none, none] [] (jmem s' ε') P X) : J Γ (d, mc + 2, ms + 12) mL_law 896 [some (.ref 2000000), some (.ref 0), some (.ref 137), some (.ref 142), some (.ref 143), some (.int (iI (i : Int))), none, none, none] [] (jmem s ε) P X := by
  refine J.aload_n 1 dL_law_896 rfl rfl ?_
  refine J.aload_n 0 dL_law_897 rfl rfl ?_
  refine J.iload dL_law_898 rfl ?_
  refine I.iconst dL_law_900 ?_
  refine I.add dL_law_901 ?_
  refine I.sld (j := i + 1) hsc (by omega) (by omega) hL dL_law_902 ?_
  refine J.aload_n 3 dL_law_903 rfl rfl ?_
  refine J.callW3 (b' := (d - 1, 1, 6)) (mi' := mL_passes) dL_law_904 lL_211 eL_passes (c_L_passes (d := d - 1) hl (by omega) h.m (iI_rng _)) (show d - 1 + 1 ≤ d ∧ 1 ≤ mc + 2 ∧ 6 ≤ ms + 12 from ⟨by omega, by omega, by omega⟩) (Nat.le_of_ble_eq_true rfl) ?_
  rintro v M' ⟨s1, ε1, k9, rfl, rfl, hk⟩
  refine J.istore dL_law_907 (by decide) rfl ?_
  rcases hk with ⟨rfl, r9, hq, hε⟩ | ⟨rfl, hx⟩ | ⟨rfl, hx⟩
  · skip
    obtain ⟨hcond, rfl, e1⟩ := hq
    have hc : CI s1 a ∧ HiE s s1 := by subst e1; exact ⟨h, fun _ _ _ => rfl⟩
    have m1 : MI s1 a := m.lo hc.2
    refine J.aload_n 2 dL_law_909 rfl rfl ?_
    refine J.aload_n 0 dL_law_910 rfl rfl ?_
    refine J.iload dL_law_911 rfl ?_
    refine I.iconst dL_law_913 ?_
    refine I.add dL_law_914 ?_
    refine I.sld (j := i + 1) hsc (by omega) (by omega) hL dL_law_915 ?_
    refine I.callV1q (d' := d - 1) (mi' := mX9_passes) dL_law_916 lL_213 eX9_passes rfl rfl (c_X9_passes (d := d - 1) hl (by omega) (m1.w j) (iI_rng _)) (show d - 1 + 1 ≤ d from by omega) (Nat.le_of_ble_eq_true rfl) ?_
    rintro w9 s2 h2
    rcases h2 with ⟨hm, rfl, e2⟩ | ⟨hm, e2⟩
    · skip
      have hm2 : MI s2 a ∧ LoE s1 s2 ∧ s2 137 0 = 0 := by subst e2; exact ⟨m1.th, fun q i hq => up_ne (by omega), up_eq _ _ _ _⟩
      refine J.istore dL_law_919 (by decide) rfl ?_
      refine J.aload_n 2 dL_law_921 rfl rfl ?_
      refine I.callV0i (d' := d - 1) (mi' := mX9_thrown) dL_law_922 lL_151 eX9_thrown rfl rfl (c_X9_thrown (d := d - 1) hl (by omega)) (show d - 1 + 1 ≤ d from by omega) (Nat.le_of_ble_eq_true rfl) ?_
      refine I.sx hm2.2.2 ?_
      refine J.iload dL_law_925 rfl ?_
      refine I.icmpS 932 dL_law_927 (by decide) ?_
      refine J.iload dL_law_932 rfl ?_
      refine I.if_ne0 (tgt := 949) dL_law_934 (by decide) ?_
      refine J.aload_n 3 dL_law_937 rfl rfl ?_
      refine I.iconst dL_law_938 ?_
      refine I.lald0 hε dL_law_939 ?_
      refine J.iload dL_law_940 rfl ?_
      refine J.i2l dL_law_942 ?_
      refine I.lcmpS dL_law_943 ?_
      refine I.if_eq0 949 dL_law_944 (by decide) ?_
      refine J.goto 2839 dL_law_949 (by decide) ?_
      refine J.fgt (L' := [some (.ref 2000000), some (.ref 0), some (.ref 137), some (.ref 142), some (.ref 143), some (.int (iI (i : Int))), none, none, none]) (by exact ⟨Or.inr rfl, Or.inr rfl, Or.inr rfl, Or.inr rfl, Or.inr rfl, Or.inr rfl, Or.inl rfl, Or.inl rfl, Or.inl rfl, trivial⟩) ?_
      exact J.mono (kx s2 _ _ (j) (hc.1.hi hm2.2.1) hm2.1) (fun _ _ h => h) (fun _ _ h => h) ⟨show d ≤ d from Nat.le_refl d, by show mc ≤ mc + 2 - 1; omega, by show ms ≤ ms + 12 - 6; omega⟩
    · exact absurd hcond hm
  · skip
    obtain ⟨hcond, e1⟩ := hx
    have hc : CI s1 a ∧ HiE s s1 := by subst e1; exact ⟨h, fun _ _ _ => rfl⟩
    have m1 : MI s1 a := m.lo hc.2
    refine J.aload_n 2 dL_law_909 rfl rfl ?_
    refine J.aload_n 0 dL_law_910 rfl rfl ?_
    refine J.iload dL_law_911 rfl ?_
    refine I.iconst dL_law_913 ?_
    refine I.add dL_law_914 ?_
    refine I.sld (j := i + 1) hsc (by omega) (by omega) hL dL_law_915 ?_
    refine I.callV1q (d' := d - 1) (mi' := mX9_passes) dL_law_916 lL_213 eX9_passes rfl rfl (c_X9_passes (d := d - 1) hl (by omega) (m1.w j) (iI_rng _)) (show d - 1 + 1 ≤ d from by omega) (Nat.le_of_ble_eq_true rfl) ?_
    rintro w9 s2 h2
    rcases h2 with ⟨hm, rfl, e2⟩ | ⟨hm, e2⟩
    · exact absurd hm hcond
    · skip
      have hm2 : MI s2 a ∧ LoE s1 s2 ∧ s2 137 0 = 1 := by subst e2; exact ⟨m1.th, fun q i hq => up_ne (by omega), up_eq _ _ _ _⟩
      refine J.istore dL_law_919 (by decide) rfl ?_
      refine J.aload_n 2 dL_law_921 rfl rfl ?_
      refine I.callV0i (d' := d - 1) (mi' := mX9_thrown) dL_law_922 lL_151 eX9_thrown rfl rfl (c_X9_thrown (d := d - 1) hl (by omega)) (show d - 1 + 1 ≤ d from by omega) (Nat.le_of_ble_eq_true rfl) ?_
      refine I.sx hm2.2.2 ?_
      refine J.iload dL_law_925 rfl ?_
      refine I.icmpS 932 dL_law_927 (by decide) ?_
      refine J.iload dL_law_932 rfl ?_
      refine I.if_ne1 (Or.inl rfl) 949 dL_law_934 (by decide) ?_
      refine J.goto 2839 dL_law_949 (by decide) ?_
      refine J.fgt (L' := [some (.ref 2000000), some (.ref 0), some (.ref 137), some (.ref 142), some (.ref 143), some (.int (iI (i : Int))), none, none, none]) (by exact ⟨Or.inr rfl, Or.inr rfl, Or.inr rfl, Or.inr rfl, Or.inr rfl, Or.inr rfl, Or.inl rfl, Or.inl rfl, Or.inl rfl, trivial⟩) ?_
      exact J.mono (kx s2 _ _ (j) (hc.1.hi hm2.2.1) hm2.1) (fun _ _ h => h) (fun _ _ h => h) ⟨show d ≤ d from Nat.le_refl d, by show mc ≤ mc + 2 - 1; omega, by show ms ≤ ms + 12 - 6; omega⟩
  · exact absurd hx id
set_option maxHeartbeats 4000000 in
theorem lc_17 {Γ : jE} (hl : Γ.1.stackTraces = false) {Ls : Nat} {xs : Nat → Int32} (hsc : Γ.2.2 = some (Ls, xs)) {s : Nat → Int → Int} {ε : jEps} {d i mc ms : Nat} {a : AS} {P : Option Value → jM → Prop} {X : String → jM → Prop} (hd : 131 ≤ d) (hi : i + 6 ≤ Ls) (hL : Ls ≤ 3072) (h : CI s a) (m : MI s a) (j : AI a) (kx : ∀ s' ε' a', AI a' → CI s' a' → MI s' a' → J Γ (d, mc, ms) mL_law 2839 [some (.ref 2000000), some (.ref 0), some (.ref 137), some (.ref 142), some (.ref 143), some (.int (iI (i : Int))), none, none, none] [] (jmem s' ε') P X) : J Γ (d, mc + 2, ms + 12) mL_law 952 [some (.ref 2000000), some (.ref 0), some (.ref 137), some (.ref 142), some (.ref 143), some (.int (iI (i : Int))), none, none, none] [] (jmem s ε) P X := by
  refine J.aload_n 1 dL_law_952 rfl rfl ?_
  refine J.aload_n 0 dL_law_953 rfl rfl ?_
  refine J.iload dL_law_954 rfl ?_
  refine I.iconst dL_law_956 ?_
  refine I.add dL_law_957 ?_
  refine I.sld (j := i + 1) hsc (by omega) (by omega) hL dL_law_958 ?_
  refine J.aload dL_law_959 rfl ?_
  refine J.callW3 (b' := (d - 1, 1, 6)) (mi' := mL_meanTileScore) dL_law_961 lL_214 eL_meanTileScore (c_L_meanTileScore (d := d - 1) hl (by omega) h.m (iI_rng _)) (show d - 1 + 1 ≤ d ∧ 1 ≤ mc + 2 ∧ 6 ≤ ms + 12 from ⟨by omega, by omega, by omega⟩) (Nat.le_of_ble_eq_true rfl) ?_
  rintro v M' ⟨s1, ε1, k9, rfl, rfl, hk⟩
  refine J.istore dL_law_964 (by decide) rfl ?_
  rcases hk with ⟨rfl, r9, hq, hε⟩ | ⟨rfl, hx⟩
  · skip
    obtain ⟨hcond, rfl, e1⟩ := hq
    have hc : CI s1 a ∧ HiE s s1 := by subst e1; exact ⟨h, fun _ _ _ => rfl⟩
    have m1 : MI s1 a := m.lo hc.2
    refine J.aload_n 2 dL_law_966 rfl rfl ?_
    refine J.aload_n 0 dL_law_967 rfl rfl ?_
    refine J.iload dL_law_968 rfl ?_
    refine I.iconst dL_law_970 ?_
    refine I.add dL_law_971 ?_
    refine I.sld (j := i + 1) hsc (by omega) (by omega) hL dL_law_972 ?_
    refine I.callV1d (d' := d - 1) (mi' := mX9_meanTileScore) dL_law_973 lL_217 eX9_meanTileScore rfl rfl (c_X9_meanTileScore (d := d - 1) hl (by omega) (m1.w j) (iI_rng _)) (show d - 1 + 1 ≤ d from by omega) (Nat.le_of_ble_eq_true rfl) ?_
    rintro w9 s2 h2
    rcases h2 with ⟨hm, rfl, e2⟩ | ⟨hm, e2⟩
    · skip
      have hm2 : MI s2 a ∧ LoE s1 s2 ∧ s2 137 0 = 0 := by subst e2; exact ⟨m1.th, fun q i hq => up_ne (by omega), up_eq _ _ _ _⟩
      refine J.dstore dL_law_976 (by decide) rfl rfl ?_
      refine J.aload_n 2 dL_law_978 rfl rfl ?_
      refine I.callV0i (d' := d - 1) (mi' := mX9_thrown) dL_law_979 lL_151 eX9_thrown rfl rfl (c_X9_thrown (d := d - 1) hl (by omega)) (show d - 1 + 1 ≤ d from by omega) (Nat.le_of_ble_eq_true rfl) ?_
      refine I.sx hm2.2.2 ?_
      refine J.iload dL_law_982 rfl ?_
      refine I.icmpS 989 dL_law_984 (by decide) ?_
      refine J.iload dL_law_989 rfl ?_
      refine I.if_ne0 (tgt := 1026) dL_law_991 (by decide) ?_
      refine J.aload dL_law_994 rfl ?_
      refine I.iconst dL_law_996 ?_
      refine I.dald0 hε dL_law_997 ?_
      refine J.dload dL_law_998 rfl ?_
      refine J.dcmp dL_law_1000 ?_
      refine J.if_eq 1026 dL_law_1001 (by decide) (fun hz => ?_) (fun hz => ?_)
      · skip
        refine J.goto 2839 dL_law_1026 (by decide) ?_
        refine J.fgt (L' := [some (.ref 2000000), some (.ref 0), some (.ref 137), some (.ref 142), some (.ref 143), some (.int (iI (i : Int))), none, none, none]) (by exact ⟨Or.inr rfl, Or.inr rfl, Or.inr rfl, Or.inr rfl, Or.inr rfl, Or.inr rfl, Or.inl rfl, Or.inl rfl, Or.inl rfl, trivial⟩) ?_
        exact J.mono (kx s2 _ _ (j) (hc.1.hi hm2.2.1) hm2.1) (fun _ _ h => h) (fun _ _ h => h) ⟨show d ≤ d from Nat.le_refl d, by show mc ≤ mc + 2 - 1; omega, by show ms ≤ ms + 12 - 6; omega⟩
      · skip
        refine J.aload dL_law_1004 rfl ?_
        refine I.iconst dL_law_1006 ?_
        refine I.dald0 hε dL_law_1007 ?_
        refine J.aload dL_law_1008 rfl ?_
        refine I.iconst dL_law_1010 ?_
        refine I.dald0 hε dL_law_1011 ?_
        refine J.dcmp dL_law_1012 ?_
        refine J.if_eq 1024 dL_law_1013 (by decide) (fun hy => absurd hy hz) (fun hy => ?_)
        refine J.dload dL_law_1016 rfl ?_
        refine J.dload dL_law_1018 rfl ?_
        refine J.dcmp dL_law_1020 ?_
        refine J.if_ne 1026 dL_law_1021 (by decide) (fun hy => ?_) (fun hy => absurd hy hz)
        refine J.goto 2839 dL_law_1026 (by decide) ?_
        refine J.fgt (L' := [some (.ref 2000000), some (.ref 0), some (.ref 137), some (.ref 142), some (.ref 143), some (.int (iI (i : Int))), none, none, none]) (by exact ⟨Or.inr rfl, Or.inr rfl, Or.inr rfl, Or.inr rfl, Or.inr rfl, Or.inr rfl, Or.inl rfl, Or.inl rfl, Or.inl rfl, trivial⟩) ?_
        exact J.mono (kx s2 _ _ (j) (hc.1.hi hm2.2.1) hm2.1) (fun _ _ h => h) (fun _ _ h => h) ⟨show d ≤ d from Nat.le_refl d, by show mc ≤ mc + 2 - 1; omega, by show ms ≤ ms + 12 - 6; omega⟩
    · exact absurd hcond hm
  · skip
    obtain ⟨hcond, e1⟩ := hx
    have hc : CI s1 a ∧ HiE s s1 := by subst e1; exact ⟨h, fun _ _ _ => rfl⟩
    have m1 : MI s1 a := m.lo hc.2
    refine J.aload_n 2 dL_law_966 rfl rfl ?_
    refine J.aload_n 0 dL_law_967 rfl rfl ?_
    refine J.iload dL_law_968 rfl ?_
    refine I.iconst dL_law_970 ?_
    refine I.add dL_law_971 ?_
    refine I.sld (j := i + 1) hsc (by omega) (by omega) hL dL_law_972 ?_
    refine I.callV1d (d' := d - 1) (mi' := mX9_meanTileScore) dL_law_973 lL_217 eX9_meanTileScore rfl rfl (c_X9_meanTileScore (d := d - 1) hl (by omega) (m1.w j) (iI_rng _)) (show d - 1 + 1 ≤ d from by omega) (Nat.le_of_ble_eq_true rfl) ?_
    rintro w9 s2 h2
    rcases h2 with ⟨hm, rfl, e2⟩ | ⟨hm, e2⟩
    · exact absurd hm hcond
    · skip
      have hm2 : MI s2 a ∧ LoE s1 s2 ∧ s2 137 0 = 1 := by subst e2; exact ⟨m1.th, fun q i hq => up_ne (by omega), up_eq _ _ _ _⟩
      refine J.dstore dL_law_976 (by decide) rfl rfl ?_
      refine J.aload_n 2 dL_law_978 rfl rfl ?_
      refine I.callV0i (d' := d - 1) (mi' := mX9_thrown) dL_law_979 lL_151 eX9_thrown rfl rfl (c_X9_thrown (d := d - 1) hl (by omega)) (show d - 1 + 1 ≤ d from by omega) (Nat.le_of_ble_eq_true rfl) ?_
      refine I.sx hm2.2.2 ?_
      refine J.iload dL_law_982 rfl ?_
      refine I.icmpS 989 dL_law_984 (by decide) ?_
      refine J.iload dL_law_989 rfl ?_
      refine I.if_ne1 (Or.inl rfl) 1026 dL_law_991 (by decide) ?_
      refine J.goto 2839 dL_law_1026 (by decide) ?_
      refine J.fgt (L' := [some (.ref 2000000), some (.ref 0), some (.ref 137), some (.ref 142), some (.ref 143), some (.int (iI (i : Int))), none, none, none]) (by exact ⟨Or.inr rfl, Or.inr rfl, Or.inr rfl, Or.inr rfl, Or.inr rfl, Or.inr rfl, Or.inl rfl, Or.inl rfl, Or.inl rfl, trivial⟩) ?_
      exact J.mono (kx s2 _ _ (j) (hc.1.hi hm2.2.1) hm2.1) (fun _ _ h => h) (fun _ _ h => h) ⟨show d ≤ d from Nat.le_refl d, by show mc ≤ mc + 2 - 1; omega, by show ms ≤ ms + 12 - 6; omega⟩
set_option maxHeartbeats 4000000 in
theorem lc_18 {Γ : jE} (hl : Γ.1.stackTraces = false) {Ls : Nat} {xs : Nat → Int32} (hsc : Γ.2.2 = some (Ls, xs)) {s : Nat → Int → Int} {ε : jEps} {d i mc ms : Nat} {a : AS} {P : Option Value → jM → Prop} {X : String → jM → Prop} (hd : 131 ≤ d) (hi : i + 6 ≤ Ls) (hL : Ls ≤ 3072) (h : CI s a) (m : MI s a) (j : AI a) (kx : ∀ s' ε' a', AI a' → CI s' a' → MI s' a' → J Γ (d, mc, ms) mL_law 2839 [some (.ref 2000000), some (.ref 0), some (.ref 137), some (.ref 142), some (.ref 143), some (.int (iI (i : Int))), none, none, none] [] (jmem s' ε') P X) : J Γ (d, mc + 2, ms + 12) mL_law 1029 [some (.ref 2000000), some (.ref 0), some (.ref 137), some (.ref 142), some (.ref 143), some (.int (iI (i : Int))), none, none, none] [] (jmem s ε) P X := by
  refine J.aload_n 1 dL_law_1029 rfl rfl ?_
  refine I.callV0i (d' := d - 1) (mi' := mX8_chainCount) dL_law_1030 lL_218 eX8_chainCount rfl rfl (c_X8_chainCount (d := d - 1) hl (by omega) h.m) (show d - 1 + 1 ≤ d from by omega) (Nat.le_of_ble_eq_true rfl) ?_
  obtain ⟨s1, hs1⟩ : ∃ s1, s1 = s := ⟨s, rfl⟩
  rw [← hs1]
  have e1 := hs1.symm
  have hc : CI s1 a ∧ HiE s s1 := by subst e1; exact ⟨h, fun _ _ _ => rfl⟩
  have m1 : MI s1 a := m.lo hc.2
  refine J.aload_n 2 dL_law_1033 rfl rfl ?_
  refine I.callV0i (d' := d - 1) (mi' := mX9_chainCount) dL_law_1034 lL_221 eX9_chainCount rfl rfl (c_X9_chainCount (d := d - 1) hl (by omega) (m1.w j)) (show d - 1 + 1 ≤ d from by omega) (Nat.le_of_ble_eq_true rfl) ?_
  obtain ⟨s2, e2⟩ : ∃ s2, s2 = up s1 137 0 0 := ⟨_, rfl⟩
  rw [← e2]
  have hm2 : MI s2 a ∧ LoE s1 s2 ∧ s2 137 0 = 0 := by subst e2; exact ⟨m1.th, fun q i hq => up_ne (by omega), up_eq _ _ _ _⟩
  refine I.icmpS 2839 dL_law_1037 (by decide) ?_
  refine J.fgt (L' := [some (.ref 2000000), some (.ref 0), some (.ref 137), some (.ref 142), some (.ref 143), some (.int (iI (i : Int))), none, none, none]) (by exact ⟨Or.inr rfl, Or.inr rfl, Or.inr rfl, Or.inr rfl, Or.inr rfl, Or.inr rfl, Or.inl rfl, Or.inl rfl, Or.inl rfl, trivial⟩) ?_
  exact J.mono (kx s2 _ _ (j) (hc.1.hi hm2.2.1) hm2.1) (fun _ _ h => h) (fun _ _ h => h) ⟨show d ≤ d from Nat.le_refl d, by show mc ≤ mc + 2 - 0; omega, by show ms ≤ ms + 12 - 0; omega⟩
set_option maxHeartbeats 4000000 in
theorem lc_19 {Γ : jE} (hl : Γ.1.stackTraces = false) {Ls : Nat} {xs : Nat → Int32} (hsc : Γ.2.2 = some (Ls, xs)) {s : Nat → Int → Int} {ε : jEps} {d i mc ms : Nat} {a : AS} {P : Option Value → jM → Prop} {X : String → jM → Prop} (hd : 131 ≤ d) (hi : i + 6 ≤ Ls) (hL : Ls ≤ 3072) (h : CI s a) (m : MI s a) (j : AI a) (kx : ∀ s' ε' a', AI a' → CI s' a' → MI s' a' → J Γ (d, mc, ms) mL_law 2839 [some (.ref 2000000), some (.ref 0), some (.ref 137), some (.ref 142), some (.ref 143), some (.int (iI (i : Int))), none, none, none] [] (jmem s' ε') P X) : J Γ (d, mc + 2, ms + 12) mL_law 1042 [some (.ref 2000000), some (.ref 0), some (.ref 137), some (.ref 142), some (.ref 143), some (.int (iI (i : Int))), none, none, none] [] (jmem s ε) P X := by
  refine J.aload_n 1 dL_law_1042 rfl rfl ?_
  refine J.aload_n 0 dL_law_1043 rfl rfl ?_
  refine J.iload dL_law_1044 rfl ?_
  refine I.iconst dL_law_1046 ?_
  refine I.add dL_law_1047 ?_
  refine I.sld (j := i + 1) hsc (by omega) (by omega) hL dL_law_1048 ?_
  refine J.aload_n 3 dL_law_1049 rfl rfl ?_
  refine J.callW3 (b' := (d - 1, 1, 6)) (mi' := mL_chainLength) dL_law_1050 lL_222 eL_chainLength (c_L_chainLength (d := d - 1) hl (by omega) h.m (iI_rng _)) (show d - 1 + 1 ≤ d ∧ 1 ≤ mc + 2 ∧ 6 ≤ ms + 12 from ⟨by omega, by omega, by omega⟩) (Nat.le_of_ble_eq_true rfl) ?_
  rintro v M' ⟨s1, ε1, k9, rfl, rfl, hk⟩
  refine J.istore dL_law_1053 (by decide) rfl ?_
  rcases hk with ⟨rfl, r9, hq, hε⟩ | ⟨rfl, hx⟩ | ⟨rfl, hx⟩
  · skip
    obtain ⟨hcond, rfl, e1⟩ := hq
    have hc : CI s1 a ∧ HiE s s1 := by subst e1; exact ⟨h, fun _ _ _ => rfl⟩
    have m1 : MI s1 a := m.lo hc.2
    refine J.aload_n 2 dL_law_1055 rfl rfl ?_
    refine J.aload_n 0 dL_law_1056 rfl rfl ?_
    refine J.iload dL_law_1057 rfl ?_
    refine I.iconst dL_law_1059 ?_
    refine I.add dL_law_1060 ?_
    refine I.sld (j := i + 1) hsc (by omega) (by omega) hL dL_law_1061 ?_
    refine I.callV1q (d' := d - 1) (mi' := mX9_chainLength) dL_law_1062 lL_224 eX9_chainLength rfl rfl (c_X9_chainLength (d := d - 1) hl (by omega) (m1.w j) (iI_rng _)) (show d - 1 + 1 ≤ d from by omega) (Nat.le_of_ble_eq_true rfl) ?_
    rintro w9 s2 h2
    rcases h2 with ⟨hm, rfl, e2⟩ | ⟨hm, e2⟩
    · skip
      have hm2 : MI s2 a ∧ LoE s1 s2 ∧ s2 137 0 = 0 := by subst e2; exact ⟨m1.th, fun q i hq => up_ne (by omega), up_eq _ _ _ _⟩
      refine J.istore dL_law_1065 (by decide) rfl ?_
      refine J.aload_n 2 dL_law_1067 rfl rfl ?_
      refine I.callV0i (d' := d - 1) (mi' := mX9_thrown) dL_law_1068 lL_151 eX9_thrown rfl rfl (c_X9_thrown (d := d - 1) hl (by omega)) (show d - 1 + 1 ≤ d from by omega) (Nat.le_of_ble_eq_true rfl) ?_
      refine I.sx hm2.2.2 ?_
      refine J.iload dL_law_1071 rfl ?_
      refine I.icmpS 1078 dL_law_1073 (by decide) ?_
      refine J.iload dL_law_1078 rfl ?_
      refine I.if_ne0 (tgt := 1095) dL_law_1080 (by decide) ?_
      refine J.aload_n 3 dL_law_1083 rfl rfl ?_
      refine I.iconst dL_law_1084 ?_
      refine I.lald0 hε dL_law_1085 ?_
      refine J.iload dL_law_1086 rfl ?_
      refine J.i2l dL_law_1088 ?_
      refine I.lcmpS dL_law_1089 ?_
      refine I.if_eq0 1095 dL_law_1090 (by decide) ?_
      refine J.goto 2839 dL_law_1095 (by decide) ?_
      refine J.fgt (L' := [some (.ref 2000000), some (.ref 0), some (.ref 137), some (.ref 142), some (.ref 143), some (.int (iI (i : Int))), none, none, none]) (by exact ⟨Or.inr rfl, Or.inr rfl, Or.inr rfl, Or.inr rfl, Or.inr rfl, Or.inr rfl, Or.inl rfl, Or.inl rfl, Or.inl rfl, trivial⟩) ?_
      exact J.mono (kx s2 _ _ (j) (hc.1.hi hm2.2.1) hm2.1) (fun _ _ h => h) (fun _ _ h => h) ⟨show d ≤ d from Nat.le_refl d, by show mc ≤ mc + 2 - 1; omega, by show ms ≤ ms + 12 - 6; omega⟩
    · exact absurd hcond hm
  · skip
    obtain ⟨hcond, e1⟩ := hx
    have hc : CI s1 a ∧ HiE s s1 := by subst e1; exact ⟨h, fun _ _ _ => rfl⟩
    have m1 : MI s1 a := m.lo hc.2
    refine J.aload_n 2 dL_law_1055 rfl rfl ?_
    refine J.aload_n 0 dL_law_1056 rfl rfl ?_
    refine J.iload dL_law_1057 rfl ?_
    refine I.iconst dL_law_1059 ?_
    refine I.add dL_law_1060 ?_
    refine I.sld (j := i + 1) hsc (by omega) (by omega) hL dL_law_1061 ?_
    refine I.callV1q (d' := d - 1) (mi' := mX9_chainLength) dL_law_1062 lL_224 eX9_chainLength rfl rfl (c_X9_chainLength (d := d - 1) hl (by omega) (m1.w j) (iI_rng _)) (show d - 1 + 1 ≤ d from by omega) (Nat.le_of_ble_eq_true rfl) ?_
    rintro w9 s2 h2
    rcases h2 with ⟨hm, rfl, e2⟩ | ⟨hm, e2⟩
    · exact absurd hm hcond
    · skip
      have hm2 : MI s2 a ∧ LoE s1 s2 ∧ s2 137 0 = 1 := by subst e2; exact ⟨m1.th, fun q i hq => up_ne (by omega), up_eq _ _ _ _⟩
      refine J.istore dL_law_1065 (by decide) rfl ?_
      refine J.aload_n 2 dL_law_1067 rfl rfl ?_
      refine I.callV0i (d' := d - 1) (mi' := mX9_thrown) dL_law_1068 lL_151 eX9_thrown rfl rfl (c_X9_thrown (d := d - 1) hl (by omega)) (show d - 1 + 1 ≤ d from by omega) (Nat.le_of_ble_eq_true rfl) ?_
      refine I.sx hm2.2.2 ?_
      refine J.iload dL_law_1071 rfl ?_
      refine I.icmpS 1078 dL_law_1073 (by decide) ?_
      refine J.iload dL_law_1078 rfl ?_
      refine I.if_ne1 (Or.inl rfl) 1095 dL_law_1080 (by decide) ?_
      refine J.goto 2839 dL_law_1095 (by decide) ?_
      refine J.fgt (L' := [some (.ref 2000000), some (.ref 0), some (.ref 137), some (.ref 142), some (.ref 143), some (.int (iI (i : Int))), none, none, none]) (by exact ⟨Or.inr rfl, Or.inr rfl, Or.inr rfl, Or.inr rfl, Or.inr rfl, Or.inr rfl, Or.inl rfl, Or.inl rfl, Or.inl rfl, trivial⟩) ?_
      exact J.mono (kx s2 _ _ (j) (hc.1.hi hm2.2.1) hm2.1) (fun _ _ h => h) (fun _ _ h => h) ⟨show d ≤ d from Nat.le_refl d, by show mc ≤ mc + 2 - 1; omega, by show ms ≤ ms + 12 - 6; omega⟩
  · exact absurd hx id
set_option maxHeartbeats 4000000 in
theorem lc_20 {Γ : jE} (hl : Γ.1.stackTraces = false) {Ls : Nat} {xs : Nat → Int32} (hsc : Γ.2.2 = some (Ls, xs)) {s : Nat → Int → Int} {ε : jEps} {d i mc ms : Nat} {a : AS} {P : Option Value → jM → Prop} {X : String → jM → Prop} (hd : 131 ≤ d) (hi : i + 6 ≤ Ls) (hL : Ls ≤ 3072) (h : CI s a) (m : MI s a) (j : AI a) (kx : ∀ s' ε' a', AI a' → CI s' a' → MI s' a' → J Γ (d, mc, ms) mL_law 2839 [some (.ref 2000000), some (.ref 0), some (.ref 137), some (.ref 142), some (.ref 143), some (.int (iI (i : Int))), none, none, none] [] (jmem s' ε') P X) : J Γ (d, mc + 2, ms + 12) mL_law 1098 [some (.ref 2000000), some (.ref 0), some (.ref 137), some (.ref 142), some (.ref 143), some (.int (iI (i : Int))), none, none, none] [] (jmem s ε) P X := by
  refine J.aload_n 1 dL_law_1098 rfl rfl ?_
  refine J.aload_n 0 dL_law_1099 rfl rfl ?_
  refine J.iload dL_law_1100 rfl ?_
  refine I.iconst dL_law_1102 ?_
  refine I.add dL_law_1103 ?_
  refine I.sld (j := i + 1) hsc (by omega) (by omega) hL dL_law_1104 ?_
  refine J.aload_n 0 dL_law_1105 rfl rfl ?_
  refine J.iload dL_law_1106 rfl ?_
  refine I.iconst dL_law_1108 ?_
  refine I.add dL_law_1109 ?_
  refine I.sld (j := i + 2) hsc (by omega) (by omega) hL dL_law_1110 ?_
  refine J.aload_n 3 dL_law_1111 rfl rfl ?_
  refine J.callW4 (b' := (d - 1, 2, 12)) (mi' := mL_leftPips) dL_law_1112 lL_225 eL_leftPips (c_L_leftPips (d := d - 1) hl (by omega) h.m (iI_rng _) (iI_rng _)) (show d - 1 + 1 ≤ d ∧ 2 ≤ mc + 2 ∧ 12 ≤ ms + 12 from ⟨by omega, by omega, by omega⟩) (Nat.le_of_ble_eq_true rfl) ?_
  rintro v M' ⟨s1, ε1, k9, rfl, rfl, hk⟩
  refine J.istore dL_law_1115 (by decide) rfl ?_
  rcases hk with ⟨rfl, r9, hq, hε⟩ | ⟨rfl, hx⟩ | ⟨rfl, hx⟩
  · skip
    obtain ⟨hcond, rfl, e1⟩ := hq
    have hc : CI s1 a ∧ HiE s s1 := by subst e1; exact ⟨h, fun _ _ _ => rfl⟩
    have m1 : MI s1 a := m.lo hc.2
    refine J.aload_n 2 dL_law_1117 rfl rfl ?_
    refine J.aload_n 0 dL_law_1118 rfl rfl ?_
    refine J.iload dL_law_1119 rfl ?_
    refine I.iconst dL_law_1121 ?_
    refine I.add dL_law_1122 ?_
    refine I.sld (j := i + 1) hsc (by omega) (by omega) hL dL_law_1123 ?_
    refine J.aload_n 0 dL_law_1124 rfl rfl ?_
    refine J.iload dL_law_1125 rfl ?_
    refine I.iconst dL_law_1127 ?_
    refine I.add dL_law_1128 ?_
    refine I.sld (j := i + 2) hsc (by omega) (by omega) hL dL_law_1129 ?_
    refine I.callV2q (d' := d - 1) (mi' := mX9_leftPips) dL_law_1130 lL_227 eX9_leftPips rfl rfl (c_X9_leftPips (d := d - 1) hl (by omega) (m1.w j) (iI_rng _) (iI_rng _)) (show d - 1 + 1 ≤ d from by omega) (Nat.le_of_ble_eq_true rfl) ?_
    rintro w9 s2 h2
    rcases h2 with ⟨hm, rfl, e2⟩ | ⟨hm, e2⟩
    · skip
      have hm2 : MI s2 a ∧ LoE s1 s2 ∧ s2 137 0 = 0 := by subst e2; exact ⟨m1.th, fun q i hq => up_ne (by omega), up_eq _ _ _ _⟩
      refine J.istore dL_law_1133 (by decide) rfl ?_
      refine J.aload_n 2 dL_law_1135 rfl rfl ?_
      refine I.callV0i (d' := d - 1) (mi' := mX9_thrown) dL_law_1136 lL_151 eX9_thrown rfl rfl (c_X9_thrown (d := d - 1) hl (by omega)) (show d - 1 + 1 ≤ d from by omega) (Nat.le_of_ble_eq_true rfl) ?_
      refine I.sx hm2.2.2 ?_
      refine J.iload dL_law_1139 rfl ?_
      refine I.icmpS 1146 dL_law_1141 (by decide) ?_
      refine J.iload dL_law_1146 rfl ?_
      refine I.if_ne0 (tgt := 1163) dL_law_1148 (by decide) ?_
      refine J.aload_n 3 dL_law_1151 rfl rfl ?_
      refine I.iconst dL_law_1152 ?_
      refine I.lald0 hε dL_law_1153 ?_
      refine J.iload dL_law_1154 rfl ?_
      refine J.i2l dL_law_1156 ?_
      refine I.lcmpS dL_law_1157 ?_
      refine I.if_eq0 1163 dL_law_1158 (by decide) ?_
      refine J.goto 2839 dL_law_1163 (by decide) ?_
      refine J.fgt (L' := [some (.ref 2000000), some (.ref 0), some (.ref 137), some (.ref 142), some (.ref 143), some (.int (iI (i : Int))), none, none, none]) (by exact ⟨Or.inr rfl, Or.inr rfl, Or.inr rfl, Or.inr rfl, Or.inr rfl, Or.inr rfl, Or.inl rfl, Or.inl rfl, Or.inl rfl, trivial⟩) ?_
      exact J.mono (kx s2 _ _ (j) (hc.1.hi hm2.2.1) hm2.1) (fun _ _ h => h) (fun _ _ h => h) ⟨show d ≤ d from Nat.le_refl d, by show mc ≤ mc + 2 - 2; omega, by show ms ≤ ms + 12 - 12; omega⟩
    · exact absurd hcond hm
  · skip
    obtain ⟨hcond, e1⟩ := hx
    have hc : CI s1 a ∧ HiE s s1 := by subst e1; exact ⟨h, fun _ _ _ => rfl⟩
    have m1 : MI s1 a := m.lo hc.2
    refine J.aload_n 2 dL_law_1117 rfl rfl ?_
    refine J.aload_n 0 dL_law_1118 rfl rfl ?_
    refine J.iload dL_law_1119 rfl ?_
    refine I.iconst dL_law_1121 ?_
    refine I.add dL_law_1122 ?_
    refine I.sld (j := i + 1) hsc (by omega) (by omega) hL dL_law_1123 ?_
    refine J.aload_n 0 dL_law_1124 rfl rfl ?_
    refine J.iload dL_law_1125 rfl ?_
    refine I.iconst dL_law_1127 ?_
    refine I.add dL_law_1128 ?_
    refine I.sld (j := i + 2) hsc (by omega) (by omega) hL dL_law_1129 ?_
    refine I.callV2q (d' := d - 1) (mi' := mX9_leftPips) dL_law_1130 lL_227 eX9_leftPips rfl rfl (c_X9_leftPips (d := d - 1) hl (by omega) (m1.w j) (iI_rng _) (iI_rng _)) (show d - 1 + 1 ≤ d from by omega) (Nat.le_of_ble_eq_true rfl) ?_
    rintro w9 s2 h2
    rcases h2 with ⟨hm, rfl, e2⟩ | ⟨hm, e2⟩
    · exact absurd hm hcond
    · skip
      have hm2 : MI s2 a ∧ LoE s1 s2 ∧ s2 137 0 = 1 := by subst e2; exact ⟨m1.th, fun q i hq => up_ne (by omega), up_eq _ _ _ _⟩
      refine J.istore dL_law_1133 (by decide) rfl ?_
      refine J.aload_n 2 dL_law_1135 rfl rfl ?_
      refine I.callV0i (d' := d - 1) (mi' := mX9_thrown) dL_law_1136 lL_151 eX9_thrown rfl rfl (c_X9_thrown (d := d - 1) hl (by omega)) (show d - 1 + 1 ≤ d from by omega) (Nat.le_of_ble_eq_true rfl) ?_
      refine I.sx hm2.2.2 ?_
      refine J.iload dL_law_1139 rfl ?_
      refine I.icmpS 1146 dL_law_1141 (by decide) ?_
      refine J.iload dL_law_1146 rfl ?_
      refine I.if_ne1 (Or.inl rfl) 1163 dL_law_1148 (by decide) ?_
      refine J.goto 2839 dL_law_1163 (by decide) ?_
      refine J.fgt (L' := [some (.ref 2000000), some (.ref 0), some (.ref 137), some (.ref 142), some (.ref 143), some (.int (iI (i : Int))), none, none, none]) (by exact ⟨Or.inr rfl, Or.inr rfl, Or.inr rfl, Or.inr rfl, Or.inr rfl, Or.inr rfl, Or.inl rfl, Or.inl rfl, Or.inl rfl, trivial⟩) ?_
      exact J.mono (kx s2 _ _ (j) (hc.1.hi hm2.2.1) hm2.1) (fun _ _ h => h) (fun _ _ h => h) ⟨show d ≤ d from Nat.le_refl d, by show mc ≤ mc + 2 - 2; omega, by show ms ≤ ms + 12 - 12; omega⟩
  · exact absurd hx id
set_option maxHeartbeats 4000000 in
theorem lc_21 {Γ : jE} (hl : Γ.1.stackTraces = false) {Ls : Nat} {xs : Nat → Int32} (hsc : Γ.2.2 = some (Ls, xs)) {s : Nat → Int → Int} {ε : jEps} {d i mc ms : Nat} {a : AS} {P : Option Value → jM → Prop} {X : String → jM → Prop} (hd : 131 ≤ d) (hi : i + 6 ≤ Ls) (hL : Ls ≤ 3072) (h : CI s a) (m : MI s a) (j : AI a) (kx : ∀ s' ε' a', AI a' → CI s' a' → MI s' a' → J Γ (d, mc, ms) mL_law 2839 [some (.ref 2000000), some (.ref 0), some (.ref 137), some (.ref 142), some (.ref 143), some (.int (iI (i : Int))), none, none, none] [] (jmem s' ε') P X) : J Γ (d, mc + 2, ms + 12) mL_law 1166 [some (.ref 2000000), some (.ref 0), some (.ref 137), some (.ref 142), some (.ref 143), some (.int (iI (i : Int))), none, none, none] [] (jmem s ε) P X := by
  refine J.aload_n 1 dL_law_1166 rfl rfl ?_
  refine J.aload_n 0 dL_law_1167 rfl rfl ?_
  refine J.iload dL_law_1168 rfl ?_
  refine I.iconst dL_law_1170 ?_
  refine I.add dL_law_1171 ?_
  refine I.sld (j := i + 1) hsc (by omega) (by omega) hL dL_law_1172 ?_
  refine J.aload_n 0 dL_law_1173 rfl rfl ?_
  refine J.iload dL_law_1174 rfl ?_
  refine I.iconst dL_law_1176 ?_
  refine I.add dL_law_1177 ?_
  refine I.sld (j := i + 2) hsc (by omega) (by omega) hL dL_law_1178 ?_
  refine J.aload_n 3 dL_law_1179 rfl rfl ?_
  refine J.callW4 (b' := (d - 1, 2, 12)) (mi' := mL_rightPips) dL_law_1180 lL_228 eL_rightPips (c_L_rightPips (d := d - 1) hl (by omega) h.m (iI_rng _) (iI_rng _)) (show d - 1 + 1 ≤ d ∧ 2 ≤ mc + 2 ∧ 12 ≤ ms + 12 from ⟨by omega, by omega, by omega⟩) (Nat.le_of_ble_eq_true rfl) ?_
  rintro v M' ⟨s1, ε1, k9, rfl, rfl, hk⟩
  refine J.istore dL_law_1183 (by decide) rfl ?_
  rcases hk with ⟨rfl, r9, hq, hε⟩ | ⟨rfl, hx⟩ | ⟨rfl, hx⟩
  · skip
    obtain ⟨hcond, rfl, e1⟩ := hq
    have hc : CI s1 a ∧ HiE s s1 := by subst e1; exact ⟨h, fun _ _ _ => rfl⟩
    have m1 : MI s1 a := m.lo hc.2
    refine J.aload_n 2 dL_law_1185 rfl rfl ?_
    refine J.aload_n 0 dL_law_1186 rfl rfl ?_
    refine J.iload dL_law_1187 rfl ?_
    refine I.iconst dL_law_1189 ?_
    refine I.add dL_law_1190 ?_
    refine I.sld (j := i + 1) hsc (by omega) (by omega) hL dL_law_1191 ?_
    refine J.aload_n 0 dL_law_1192 rfl rfl ?_
    refine J.iload dL_law_1193 rfl ?_
    refine I.iconst dL_law_1195 ?_
    refine I.add dL_law_1196 ?_
    refine I.sld (j := i + 2) hsc (by omega) (by omega) hL dL_law_1197 ?_
    refine I.callV2q (d' := d - 1) (mi' := mX9_rightPips) dL_law_1198 lL_230 eX9_rightPips rfl rfl (c_X9_rightPips (d := d - 1) hl (by omega) (m1.w j) (iI_rng _) (iI_rng _)) (show d - 1 + 1 ≤ d from by omega) (Nat.le_of_ble_eq_true rfl) ?_
    rintro w9 s2 h2
    rcases h2 with ⟨hm, rfl, e2⟩ | ⟨hm, e2⟩
    · skip
      have hm2 : MI s2 a ∧ LoE s1 s2 ∧ s2 137 0 = 0 := by subst e2; exact ⟨m1.th, fun q i hq => up_ne (by omega), up_eq _ _ _ _⟩
      refine J.istore dL_law_1201 (by decide) rfl ?_
      refine J.aload_n 2 dL_law_1203 rfl rfl ?_
      refine I.callV0i (d' := d - 1) (mi' := mX9_thrown) dL_law_1204 lL_151 eX9_thrown rfl rfl (c_X9_thrown (d := d - 1) hl (by omega)) (show d - 1 + 1 ≤ d from by omega) (Nat.le_of_ble_eq_true rfl) ?_
      refine I.sx hm2.2.2 ?_
      refine J.iload dL_law_1207 rfl ?_
      refine I.icmpS 1214 dL_law_1209 (by decide) ?_
      refine J.iload dL_law_1214 rfl ?_
      refine I.if_ne0 (tgt := 1231) dL_law_1216 (by decide) ?_
      refine J.aload_n 3 dL_law_1219 rfl rfl ?_
      refine I.iconst dL_law_1220 ?_
      refine I.lald0 hε dL_law_1221 ?_
      refine J.iload dL_law_1222 rfl ?_
      refine J.i2l dL_law_1224 ?_
      refine I.lcmpS dL_law_1225 ?_
      refine I.if_eq0 1231 dL_law_1226 (by decide) ?_
      refine J.goto 2839 dL_law_1231 (by decide) ?_
      refine J.fgt (L' := [some (.ref 2000000), some (.ref 0), some (.ref 137), some (.ref 142), some (.ref 143), some (.int (iI (i : Int))), none, none, none]) (by exact ⟨Or.inr rfl, Or.inr rfl, Or.inr rfl, Or.inr rfl, Or.inr rfl, Or.inr rfl, Or.inl rfl, Or.inl rfl, Or.inl rfl, trivial⟩) ?_
      exact J.mono (kx s2 _ _ (j) (hc.1.hi hm2.2.1) hm2.1) (fun _ _ h => h) (fun _ _ h => h) ⟨show d ≤ d from Nat.le_refl d, by show mc ≤ mc + 2 - 2; omega, by show ms ≤ ms + 12 - 12; omega⟩
    · exact absurd hcond hm
  · skip
    obtain ⟨hcond, e1⟩ := hx
    have hc : CI s1 a ∧ HiE s s1 := by subst e1; exact ⟨h, fun _ _ _ => rfl⟩
    have m1 : MI s1 a := m.lo hc.2
    refine J.aload_n 2 dL_law_1185 rfl rfl ?_
    refine J.aload_n 0 dL_law_1186 rfl rfl ?_
    refine J.iload dL_law_1187 rfl ?_
    refine I.iconst dL_law_1189 ?_
    refine I.add dL_law_1190 ?_
    refine I.sld (j := i + 1) hsc (by omega) (by omega) hL dL_law_1191 ?_
    refine J.aload_n 0 dL_law_1192 rfl rfl ?_
    refine J.iload dL_law_1193 rfl ?_
    refine I.iconst dL_law_1195 ?_
    refine I.add dL_law_1196 ?_
    refine I.sld (j := i + 2) hsc (by omega) (by omega) hL dL_law_1197 ?_
    refine I.callV2q (d' := d - 1) (mi' := mX9_rightPips) dL_law_1198 lL_230 eX9_rightPips rfl rfl (c_X9_rightPips (d := d - 1) hl (by omega) (m1.w j) (iI_rng _) (iI_rng _)) (show d - 1 + 1 ≤ d from by omega) (Nat.le_of_ble_eq_true rfl) ?_
    rintro w9 s2 h2
    rcases h2 with ⟨hm, rfl, e2⟩ | ⟨hm, e2⟩
    · exact absurd hm hcond
    · skip
      have hm2 : MI s2 a ∧ LoE s1 s2 ∧ s2 137 0 = 1 := by subst e2; exact ⟨m1.th, fun q i hq => up_ne (by omega), up_eq _ _ _ _⟩
      refine J.istore dL_law_1201 (by decide) rfl ?_
      refine J.aload_n 2 dL_law_1203 rfl rfl ?_
      refine I.callV0i (d' := d - 1) (mi' := mX9_thrown) dL_law_1204 lL_151 eX9_thrown rfl rfl (c_X9_thrown (d := d - 1) hl (by omega)) (show d - 1 + 1 ≤ d from by omega) (Nat.le_of_ble_eq_true rfl) ?_
      refine I.sx hm2.2.2 ?_
      refine J.iload dL_law_1207 rfl ?_
      refine I.icmpS 1214 dL_law_1209 (by decide) ?_
      refine J.iload dL_law_1214 rfl ?_
      refine I.if_ne1 (Or.inl rfl) 1231 dL_law_1216 (by decide) ?_
      refine J.goto 2839 dL_law_1231 (by decide) ?_
      refine J.fgt (L' := [some (.ref 2000000), some (.ref 0), some (.ref 137), some (.ref 142), some (.ref 143), some (.int (iI (i : Int))), none, none, none]) (by exact ⟨Or.inr rfl, Or.inr rfl, Or.inr rfl, Or.inr rfl, Or.inr rfl, Or.inr rfl, Or.inl rfl, Or.inl rfl, Or.inl rfl, trivial⟩) ?_
      exact J.mono (kx s2 _ _ (j) (hc.1.hi hm2.2.1) hm2.1) (fun _ _ h => h) (fun _ _ h => h) ⟨show d ≤ d from Nat.le_refl d, by show mc ≤ mc + 2 - 2; omega, by show ms ≤ ms + 12 - 12; omega⟩
  · exact absurd hx id
set_option maxHeartbeats 4000000 in
theorem lc_22 {Γ : jE} (hl : Γ.1.stackTraces = false) {Ls : Nat} {xs : Nat → Int32} (hsc : Γ.2.2 = some (Ls, xs)) {s : Nat → Int → Int} {ε : jEps} {d i mc ms : Nat} {a : AS} {P : Option Value → jM → Prop} {X : String → jM → Prop} (hd : 131 ≤ d) (hi : i + 6 ≤ Ls) (hL : Ls ≤ 3072) (h : CI s a) (m : MI s a) (j : AI a) (kx : ∀ s' ε' a', AI a' → CI s' a' → MI s' a' → J Γ (d, mc, ms) mL_law 2839 [some (.ref 2000000), some (.ref 0), some (.ref 137), some (.ref 142), some (.ref 143), some (.int (iI (i : Int))), none, none, none] [] (jmem s' ε') P X) : J Γ (d, mc + 2, ms + 12) mL_law 1234 [some (.ref 2000000), some (.ref 0), some (.ref 137), some (.ref 142), some (.ref 143), some (.int (iI (i : Int))), none, none, none] [] (jmem s ε) P X := by
  refine J.aload_n 1 dL_law_1234 rfl rfl ?_
  refine J.aload_n 0 dL_law_1235 rfl rfl ?_
  refine J.iload dL_law_1236 rfl ?_
  refine I.iconst dL_law_1238 ?_
  refine I.add dL_law_1239 ?_
  refine I.sld (j := i + 1) hsc (by omega) (by omega) hL dL_law_1240 ?_
  refine J.aload_n 0 dL_law_1241 rfl rfl ?_
  refine J.iload dL_law_1242 rfl ?_
  refine I.iconst dL_law_1244 ?_
  refine I.add dL_law_1245 ?_
  refine I.sld (j := i + 2) hsc (by omega) (by omega) hL dL_law_1246 ?_
  refine J.aload_n 3 dL_law_1247 rfl rfl ?_
  refine J.callW4 (b' := (d - 1, 2, 12)) (mi' := mL_tileScore) dL_law_1248 lL_231 eL_tileScore (c_L_tileScore (d := d - 1) hl (by omega) h.m (iI_rng _) (iI_rng _)) (show d - 1 + 1 ≤ d ∧ 2 ≤ mc + 2 ∧ 12 ≤ ms + 12 from ⟨by omega, by omega, by omega⟩) (Nat.le_of_ble_eq_true rfl) ?_
  rintro v M' ⟨s1, ε1, k9, rfl, rfl, hk⟩
  refine J.istore dL_law_1251 (by decide) rfl ?_
  rcases hk with ⟨rfl, r9, hq, hε⟩ | ⟨rfl, hx⟩ | ⟨rfl, hx⟩
  · skip
    obtain ⟨hcond, rfl, e1⟩ := hq
    have hc : CI s1 a ∧ HiE s s1 := by subst e1; exact ⟨h, fun _ _ _ => rfl⟩
    have m1 : MI s1 a := m.lo hc.2
    refine J.aload_n 2 dL_law_1253 rfl rfl ?_
    refine J.aload_n 0 dL_law_1254 rfl rfl ?_
    refine J.iload dL_law_1255 rfl ?_
    refine I.iconst dL_law_1257 ?_
    refine I.add dL_law_1258 ?_
    refine I.sld (j := i + 1) hsc (by omega) (by omega) hL dL_law_1259 ?_
    refine J.aload_n 0 dL_law_1260 rfl rfl ?_
    refine J.iload dL_law_1261 rfl ?_
    refine I.iconst dL_law_1263 ?_
    refine I.add dL_law_1264 ?_
    refine I.sld (j := i + 2) hsc (by omega) (by omega) hL dL_law_1265 ?_
    refine I.callV2q (d' := d - 1) (mi' := mX9_tileScore) dL_law_1266 lL_233 eX9_tileScore rfl rfl (c_X9_tileScore (d := d - 1) hl (by omega) (m1.w j) (iI_rng _) (iI_rng _)) (show d - 1 + 1 ≤ d from by omega) (Nat.le_of_ble_eq_true rfl) ?_
    rintro w9 s2 h2
    rcases h2 with ⟨hm, rfl, e2⟩ | ⟨hm, e2⟩
    · skip
      have hm2 : MI s2 a ∧ LoE s1 s2 ∧ s2 137 0 = 0 := by subst e2; exact ⟨m1.th, fun q i hq => up_ne (by omega), up_eq _ _ _ _⟩
      refine J.istore dL_law_1269 (by decide) rfl ?_
      refine J.aload_n 2 dL_law_1271 rfl rfl ?_
      refine I.callV0i (d' := d - 1) (mi' := mX9_thrown) dL_law_1272 lL_151 eX9_thrown rfl rfl (c_X9_thrown (d := d - 1) hl (by omega)) (show d - 1 + 1 ≤ d from by omega) (Nat.le_of_ble_eq_true rfl) ?_
      refine I.sx hm2.2.2 ?_
      refine J.iload dL_law_1275 rfl ?_
      refine I.icmpS 1282 dL_law_1277 (by decide) ?_
      refine J.iload dL_law_1282 rfl ?_
      refine I.if_ne0 (tgt := 1299) dL_law_1284 (by decide) ?_
      refine J.aload_n 3 dL_law_1287 rfl rfl ?_
      refine I.iconst dL_law_1288 ?_
      refine I.lald0 hε dL_law_1289 ?_
      refine J.iload dL_law_1290 rfl ?_
      refine J.i2l dL_law_1292 ?_
      refine I.lcmpS dL_law_1293 ?_
      refine I.if_eq0 1299 dL_law_1294 (by decide) ?_
      refine J.goto 2839 dL_law_1299 (by decide) ?_
      refine J.fgt (L' := [some (.ref 2000000), some (.ref 0), some (.ref 137), some (.ref 142), some (.ref 143), some (.int (iI (i : Int))), none, none, none]) (by exact ⟨Or.inr rfl, Or.inr rfl, Or.inr rfl, Or.inr rfl, Or.inr rfl, Or.inr rfl, Or.inl rfl, Or.inl rfl, Or.inl rfl, trivial⟩) ?_
      exact J.mono (kx s2 _ _ (j) (hc.1.hi hm2.2.1) hm2.1) (fun _ _ h => h) (fun _ _ h => h) ⟨show d ≤ d from Nat.le_refl d, by show mc ≤ mc + 2 - 2; omega, by show ms ≤ ms + 12 - 12; omega⟩
    · exact absurd hcond hm
  · skip
    obtain ⟨hcond, e1⟩ := hx
    have hc : CI s1 a ∧ HiE s s1 := by subst e1; exact ⟨h, fun _ _ _ => rfl⟩
    have m1 : MI s1 a := m.lo hc.2
    refine J.aload_n 2 dL_law_1253 rfl rfl ?_
    refine J.aload_n 0 dL_law_1254 rfl rfl ?_
    refine J.iload dL_law_1255 rfl ?_
    refine I.iconst dL_law_1257 ?_
    refine I.add dL_law_1258 ?_
    refine I.sld (j := i + 1) hsc (by omega) (by omega) hL dL_law_1259 ?_
    refine J.aload_n 0 dL_law_1260 rfl rfl ?_
    refine J.iload dL_law_1261 rfl ?_
    refine I.iconst dL_law_1263 ?_
    refine I.add dL_law_1264 ?_
    refine I.sld (j := i + 2) hsc (by omega) (by omega) hL dL_law_1265 ?_
    refine I.callV2q (d' := d - 1) (mi' := mX9_tileScore) dL_law_1266 lL_233 eX9_tileScore rfl rfl (c_X9_tileScore (d := d - 1) hl (by omega) (m1.w j) (iI_rng _) (iI_rng _)) (show d - 1 + 1 ≤ d from by omega) (Nat.le_of_ble_eq_true rfl) ?_
    rintro w9 s2 h2
    rcases h2 with ⟨hm, rfl, e2⟩ | ⟨hm, e2⟩
    · exact absurd hm hcond
    · skip
      have hm2 : MI s2 a ∧ LoE s1 s2 ∧ s2 137 0 = 1 := by subst e2; exact ⟨m1.th, fun q i hq => up_ne (by omega), up_eq _ _ _ _⟩
      refine J.istore dL_law_1269 (by decide) rfl ?_
      refine J.aload_n 2 dL_law_1271 rfl rfl ?_
      refine I.callV0i (d' := d - 1) (mi' := mX9_thrown) dL_law_1272 lL_151 eX9_thrown rfl rfl (c_X9_thrown (d := d - 1) hl (by omega)) (show d - 1 + 1 ≤ d from by omega) (Nat.le_of_ble_eq_true rfl) ?_
      refine I.sx hm2.2.2 ?_
      refine J.iload dL_law_1275 rfl ?_
      refine I.icmpS 1282 dL_law_1277 (by decide) ?_
      refine J.iload dL_law_1282 rfl ?_
      refine I.if_ne1 (Or.inl rfl) 1299 dL_law_1284 (by decide) ?_
      refine J.goto 2839 dL_law_1299 (by decide) ?_
      refine J.fgt (L' := [some (.ref 2000000), some (.ref 0), some (.ref 137), some (.ref 142), some (.ref 143), some (.int (iI (i : Int))), none, none, none]) (by exact ⟨Or.inr rfl, Or.inr rfl, Or.inr rfl, Or.inr rfl, Or.inr rfl, Or.inr rfl, Or.inl rfl, Or.inl rfl, Or.inl rfl, trivial⟩) ?_
      exact J.mono (kx s2 _ _ (j) (hc.1.hi hm2.2.1) hm2.1) (fun _ _ h => h) (fun _ _ h => h) ⟨show d ≤ d from Nat.le_refl d, by show mc ≤ mc + 2 - 2; omega, by show ms ≤ ms + 12 - 12; omega⟩
  · exact absurd hx id
set_option maxHeartbeats 4000000 in
theorem lc_23 {Γ : jE} (hl : Γ.1.stackTraces = false) {Ls : Nat} {xs : Nat → Int32} (hsc : Γ.2.2 = some (Ls, xs)) {s : Nat → Int → Int} {ε : jEps} {d i mc ms : Nat} {a : AS} {P : Option Value → jM → Prop} {X : String → jM → Prop} (hd : 131 ≤ d) (hi : i + 6 ≤ Ls) (hL : Ls ≤ 3072) (h : CI s a) (m : MI s a) (j : AI a) (kx : ∀ s' ε' a', AI a' → CI s' a' → MI s' a' → J Γ (d, mc, ms) mL_law 2839 [some (.ref 2000000), some (.ref 0), some (.ref 137), some (.ref 142), some (.ref 143), some (.int (iI (i : Int))), none, none, none] [] (jmem s' ε') P X) : J Γ (d, mc + 2, ms + 12) mL_law 1302 [some (.ref 2000000), some (.ref 0), some (.ref 137), some (.ref 142), some (.ref 143), some (.int (iI (i : Int))), none, none, none] [] (jmem s ε) P X := by
  refine J.aload_n 1 dL_law_1302 rfl rfl ?_
  refine J.aload_n 0 dL_law_1303 rfl rfl ?_
  refine J.iload dL_law_1304 rfl ?_
  refine I.iconst dL_law_1306 ?_
  refine I.add dL_law_1307 ?_
  refine I.sld (j := i + 1) hsc (by omega) (by omega) hL dL_law_1308 ?_
  refine J.aload_n 3 dL_law_1309 rfl rfl ?_
  refine J.callW3 (b' := (d - 1, 1, 6)) (mi' := mL_chainScore) dL_law_1310 lL_234 eL_chainScore (c_L_chainScore (d := d - 1) hl (by omega) h.m (iI_rng _)) (show d - 1 + 1 ≤ d ∧ 1 ≤ mc + 2 ∧ 6 ≤ ms + 12 from ⟨by omega, by omega, by omega⟩) (Nat.le_of_ble_eq_true rfl) ?_
  rintro v M' ⟨s1, ε1, k9, rfl, rfl, hk⟩
  refine J.istore dL_law_1313 (by decide) rfl ?_
  rcases hk with ⟨rfl, r9, hq, hε⟩ | ⟨rfl, hx⟩ | ⟨rfl, hx⟩
  · skip
    obtain ⟨hcond, rfl, e1⟩ := hq
    have hc : CI s1 a ∧ HiE s s1 := by subst e1; exact ⟨h, fun _ _ _ => rfl⟩
    have m1 : MI s1 a := m.lo hc.2
    refine J.aload_n 2 dL_law_1315 rfl rfl ?_
    refine J.aload_n 0 dL_law_1316 rfl rfl ?_
    refine J.iload dL_law_1317 rfl ?_
    refine I.iconst dL_law_1319 ?_
    refine I.add dL_law_1320 ?_
    refine I.sld (j := i + 1) hsc (by omega) (by omega) hL dL_law_1321 ?_
    refine I.callV1q (d' := d - 1) (mi' := mX9_chainScore) dL_law_1322 lL_236 eX9_chainScore rfl rfl (c_X9_chainScore (d := d - 1) hl (by omega) (m1.w j) (iI_rng _)) (show d - 1 + 1 ≤ d from by omega) (Nat.le_of_ble_eq_true rfl) ?_
    rintro w9 s2 h2
    rcases h2 with ⟨hm, rfl, e2⟩ | ⟨hm, e2⟩
    · skip
      have hm2 : MI s2 a ∧ LoE s1 s2 ∧ s2 137 0 = 0 := by subst e2; exact ⟨m1.th, fun q i hq => up_ne (by omega), up_eq _ _ _ _⟩
      refine J.istore dL_law_1325 (by decide) rfl ?_
      refine J.aload_n 2 dL_law_1327 rfl rfl ?_
      refine I.callV0i (d' := d - 1) (mi' := mX9_thrown) dL_law_1328 lL_151 eX9_thrown rfl rfl (c_X9_thrown (d := d - 1) hl (by omega)) (show d - 1 + 1 ≤ d from by omega) (Nat.le_of_ble_eq_true rfl) ?_
      refine I.sx hm2.2.2 ?_
      refine J.iload dL_law_1331 rfl ?_
      refine I.icmpS 1338 dL_law_1333 (by decide) ?_
      refine J.iload dL_law_1338 rfl ?_
      refine I.if_ne0 (tgt := 1355) dL_law_1340 (by decide) ?_
      refine J.aload_n 3 dL_law_1343 rfl rfl ?_
      refine I.iconst dL_law_1344 ?_
      refine I.lald0 hε dL_law_1345 ?_
      refine J.iload dL_law_1346 rfl ?_
      refine J.i2l dL_law_1348 ?_
      refine I.lcmpS dL_law_1349 ?_
      refine I.if_eq0 1355 dL_law_1350 (by decide) ?_
      refine J.goto 2839 dL_law_1355 (by decide) ?_
      refine J.fgt (L' := [some (.ref 2000000), some (.ref 0), some (.ref 137), some (.ref 142), some (.ref 143), some (.int (iI (i : Int))), none, none, none]) (by exact ⟨Or.inr rfl, Or.inr rfl, Or.inr rfl, Or.inr rfl, Or.inr rfl, Or.inr rfl, Or.inl rfl, Or.inl rfl, Or.inl rfl, trivial⟩) ?_
      exact J.mono (kx s2 _ _ (j) (hc.1.hi hm2.2.1) hm2.1) (fun _ _ h => h) (fun _ _ h => h) ⟨show d ≤ d from Nat.le_refl d, by show mc ≤ mc + 2 - 1; omega, by show ms ≤ ms + 12 - 6; omega⟩
    · exact absurd hcond hm
  · skip
    obtain ⟨hcond, e1⟩ := hx
    have hc : CI s1 a ∧ HiE s s1 := by subst e1; exact ⟨h, fun _ _ _ => rfl⟩
    have m1 : MI s1 a := m.lo hc.2
    refine J.aload_n 2 dL_law_1315 rfl rfl ?_
    refine J.aload_n 0 dL_law_1316 rfl rfl ?_
    refine J.iload dL_law_1317 rfl ?_
    refine I.iconst dL_law_1319 ?_
    refine I.add dL_law_1320 ?_
    refine I.sld (j := i + 1) hsc (by omega) (by omega) hL dL_law_1321 ?_
    refine I.callV1q (d' := d - 1) (mi' := mX9_chainScore) dL_law_1322 lL_236 eX9_chainScore rfl rfl (c_X9_chainScore (d := d - 1) hl (by omega) (m1.w j) (iI_rng _)) (show d - 1 + 1 ≤ d from by omega) (Nat.le_of_ble_eq_true rfl) ?_
    rintro w9 s2 h2
    rcases h2 with ⟨hm, rfl, e2⟩ | ⟨hm, e2⟩
    · exact absurd hm hcond
    · skip
      have hm2 : MI s2 a ∧ LoE s1 s2 ∧ s2 137 0 = 1 := by subst e2; exact ⟨m1.th, fun q i hq => up_ne (by omega), up_eq _ _ _ _⟩
      refine J.istore dL_law_1325 (by decide) rfl ?_
      refine J.aload_n 2 dL_law_1327 rfl rfl ?_
      refine I.callV0i (d' := d - 1) (mi' := mX9_thrown) dL_law_1328 lL_151 eX9_thrown rfl rfl (c_X9_thrown (d := d - 1) hl (by omega)) (show d - 1 + 1 ≤ d from by omega) (Nat.le_of_ble_eq_true rfl) ?_
      refine I.sx hm2.2.2 ?_
      refine J.iload dL_law_1331 rfl ?_
      refine I.icmpS 1338 dL_law_1333 (by decide) ?_
      refine J.iload dL_law_1338 rfl ?_
      refine I.if_ne1 (Or.inl rfl) 1355 dL_law_1340 (by decide) ?_
      refine J.goto 2839 dL_law_1355 (by decide) ?_
      refine J.fgt (L' := [some (.ref 2000000), some (.ref 0), some (.ref 137), some (.ref 142), some (.ref 143), some (.int (iI (i : Int))), none, none, none]) (by exact ⟨Or.inr rfl, Or.inr rfl, Or.inr rfl, Or.inr rfl, Or.inr rfl, Or.inr rfl, Or.inl rfl, Or.inl rfl, Or.inl rfl, trivial⟩) ?_
      exact J.mono (kx s2 _ _ (j) (hc.1.hi hm2.2.1) hm2.1) (fun _ _ h => h) (fun _ _ h => h) ⟨show d ≤ d from Nat.le_refl d, by show mc ≤ mc + 2 - 1; omega, by show ms ≤ ms + 12 - 6; omega⟩
  · exact absurd hx id
set_option maxHeartbeats 4000000 in
theorem lc_24 {Γ : jE} (hl : Γ.1.stackTraces = false) {Ls : Nat} {xs : Nat → Int32} (hsc : Γ.2.2 = some (Ls, xs)) {s : Nat → Int → Int} {ε : jEps} {d i mc ms : Nat} {a : AS} {P : Option Value → jM → Prop} {X : String → jM → Prop} (hd : 131 ≤ d) (hi : i + 6 ≤ Ls) (hL : Ls ≤ 3072) (h : CI s a) (m : MI s a) (j : AI a) (kx : ∀ s' ε' a', AI a' → CI s' a' → MI s' a' → J Γ (d, mc, ms) mL_law 2839 [some (.ref 2000000), some (.ref 0), some (.ref 137), some (.ref 142), some (.ref 143), some (.int (iI (i : Int))), none, none, none] [] (jmem s' ε') P X) : J Γ (d, mc + 2, ms + 12) mL_law 1358 [some (.ref 2000000), some (.ref 0), some (.ref 137), some (.ref 142), some (.ref 143), some (.int (iI (i : Int))), none, none, none] [] (jmem s ε) P X := by
  refine J.aload_n 1 dL_law_1358 rfl rfl ?_
  refine I.callV0i (d' := d - 1) (mi' := mX8_remainingScore) dL_law_1359 lL_237 eX8_remainingScore rfl rfl (c_X8_remainingScore (d := d - 1) hl (by omega) h.m) (show d - 1 + 1 ≤ d from by omega) (Nat.le_of_ble_eq_true rfl) ?_
  obtain ⟨s1, hs1⟩ : ∃ s1, s1 = s := ⟨s, rfl⟩
  rw [← hs1]
  have e1 := hs1.symm
  have hc : CI s1 a ∧ HiE s s1 := by subst e1; exact ⟨h, fun _ _ _ => rfl⟩
  have m1 : MI s1 a := m.lo hc.2
  refine J.aload_n 2 dL_law_1362 rfl rfl ?_
  refine I.callV0i (d' := d - 1) (mi' := mX9_remainingScore) dL_law_1363 lL_240 eX9_remainingScore rfl rfl (c_X9_remainingScore (d := d - 1) hl (by omega) (m1.w j)) (show d - 1 + 1 ≤ d from by omega) (Nat.le_of_ble_eq_true rfl) ?_
  obtain ⟨s2, e2⟩ : ∃ s2, s2 = up s1 137 0 0 := ⟨_, rfl⟩
  rw [← e2]
  have hm2 : MI s2 a ∧ LoE s1 s2 ∧ s2 137 0 = 0 := by subst e2; exact ⟨m1.th, fun q i hq => up_ne (by omega), up_eq _ _ _ _⟩
  refine I.icmpS 2839 dL_law_1366 (by decide) ?_
  refine J.fgt (L' := [some (.ref 2000000), some (.ref 0), some (.ref 137), some (.ref 142), some (.ref 143), some (.int (iI (i : Int))), none, none, none]) (by exact ⟨Or.inr rfl, Or.inr rfl, Or.inr rfl, Or.inr rfl, Or.inr rfl, Or.inr rfl, Or.inl rfl, Or.inl rfl, Or.inl rfl, trivial⟩) ?_
  exact J.mono (kx s2 _ _ (j) (hc.1.hi hm2.2.1) hm2.1) (fun _ _ h => h) (fun _ _ h => h) ⟨show d ≤ d from Nat.le_refl d, by show mc ≤ mc + 2 - 0; omega, by show ms ≤ ms + 12 - 0; omega⟩
set_option maxHeartbeats 4000000 in
theorem lc_25 {Γ : jE} (hl : Γ.1.stackTraces = false) {Ls : Nat} {xs : Nat → Int32} (hsc : Γ.2.2 = some (Ls, xs)) {s : Nat → Int → Int} {ε : jEps} {d i mc ms : Nat} {a : AS} {P : Option Value → jM → Prop} {X : String → jM → Prop} (hd : 131 ≤ d) (hi : i + 6 ≤ Ls) (hL : Ls ≤ 3072) (h : CI s a) (m : MI s a) (j : AI a) (kx : ∀ s' ε' a', AI a' → CI s' a' → MI s' a' → J Γ (d, mc, ms) mL_law 2839 [some (.ref 2000000), some (.ref 0), some (.ref 137), some (.ref 142), some (.ref 143), some (.int (iI (i : Int))), none, none, none] [] (jmem s' ε') P X) : J Γ (d, mc + 2, ms + 12) mL_law 1371 [some (.ref 2000000), some (.ref 0), some (.ref 137), some (.ref 142), some (.ref 143), some (.int (iI (i : Int))), none, none, none] [] (jmem s ε) P X := by
  refine J.aload_n 1 dL_law_1371 rfl rfl ?_
  refine J.aload_n 0 dL_law_1372 rfl rfl ?_
  refine J.iload dL_law_1373 rfl ?_
  refine I.iconst dL_law_1375 ?_
  refine I.add dL_law_1376 ?_
  refine I.sld (j := i + 1) hsc (by omega) (by omega) hL dL_law_1377 ?_
  refine J.aload_n 3 dL_law_1378 rfl rfl ?_
  refine J.callW3 (b' := (d - 1, 1, 6)) (mi' := mL_tilesWith) dL_law_1379 lL_241 eL_tilesWith (c_L_tilesWith (d := d - 1) hl (by omega) h.m (iI_rng _)) (show d - 1 + 1 ≤ d ∧ 1 ≤ mc + 2 ∧ 6 ≤ ms + 12 from ⟨by omega, by omega, by omega⟩) (Nat.le_of_ble_eq_true rfl) ?_
  rintro v M' ⟨s1, ε1, k9, rfl, rfl, hk⟩
  refine J.istore dL_law_1382 (by decide) rfl ?_
  rcases hk with ⟨rfl, r9, hq, hε⟩ | ⟨rfl, hx⟩ | ⟨rfl, hx⟩
  · skip
    obtain ⟨hcond, rfl, e1⟩ := hq
    have hc : CI s1 a ∧ HiE s s1 := by subst e1; exact ⟨h, fun _ _ _ => rfl⟩
    have m1 : MI s1 a := m.lo hc.2
    refine J.aload_n 2 dL_law_1384 rfl rfl ?_
    refine J.aload_n 0 dL_law_1385 rfl rfl ?_
    refine J.iload dL_law_1386 rfl ?_
    refine I.iconst dL_law_1388 ?_
    refine I.add dL_law_1389 ?_
    refine I.sld (j := i + 1) hsc (by omega) (by omega) hL dL_law_1390 ?_
    refine I.callV1q (d' := d - 1) (mi' := mX9_tilesWith) dL_law_1391 lL_243 eX9_tilesWith rfl rfl (c_X9_tilesWith (d := d - 1) hl (by omega) (m1.w j) (iI_rng _)) (show d - 1 + 1 ≤ d from by omega) (Nat.le_of_ble_eq_true rfl) ?_
    rintro w9 s2 h2
    rcases h2 with ⟨hm, rfl, e2⟩ | ⟨hm, e2⟩
    · skip
      have hm2 : MI s2 a ∧ LoE s1 s2 ∧ s2 137 0 = 0 := by subst e2; exact ⟨m1.th, fun q i hq => up_ne (by omega), up_eq _ _ _ _⟩
      refine J.istore dL_law_1394 (by decide) rfl ?_
      refine J.aload_n 2 dL_law_1396 rfl rfl ?_
      refine I.callV0i (d' := d - 1) (mi' := mX9_thrown) dL_law_1397 lL_151 eX9_thrown rfl rfl (c_X9_thrown (d := d - 1) hl (by omega)) (show d - 1 + 1 ≤ d from by omega) (Nat.le_of_ble_eq_true rfl) ?_
      refine I.sx hm2.2.2 ?_
      refine J.iload dL_law_1400 rfl ?_
      refine I.icmpS 1407 dL_law_1402 (by decide) ?_
      refine J.iload dL_law_1407 rfl ?_
      refine I.if_ne0 (tgt := 1424) dL_law_1409 (by decide) ?_
      refine J.aload_n 3 dL_law_1412 rfl rfl ?_
      refine I.iconst dL_law_1413 ?_
      refine I.lald0 hε dL_law_1414 ?_
      refine J.iload dL_law_1415 rfl ?_
      refine J.i2l dL_law_1417 ?_
      refine I.lcmpS dL_law_1418 ?_
      refine I.if_eq0 1424 dL_law_1419 (by decide) ?_
      refine J.goto 2839 dL_law_1424 (by decide) ?_
      refine J.fgt (L' := [some (.ref 2000000), some (.ref 0), some (.ref 137), some (.ref 142), some (.ref 143), some (.int (iI (i : Int))), none, none, none]) (by exact ⟨Or.inr rfl, Or.inr rfl, Or.inr rfl, Or.inr rfl, Or.inr rfl, Or.inr rfl, Or.inl rfl, Or.inl rfl, Or.inl rfl, trivial⟩) ?_
      exact J.mono (kx s2 _ _ (j) (hc.1.hi hm2.2.1) hm2.1) (fun _ _ h => h) (fun _ _ h => h) ⟨show d ≤ d from Nat.le_refl d, by show mc ≤ mc + 2 - 1; omega, by show ms ≤ ms + 12 - 6; omega⟩
    · exact absurd hcond hm
  · skip
    obtain ⟨hcond, e1⟩ := hx
    have hc : CI s1 a ∧ HiE s s1 := by subst e1; exact ⟨h, fun _ _ _ => rfl⟩
    have m1 : MI s1 a := m.lo hc.2
    refine J.aload_n 2 dL_law_1384 rfl rfl ?_
    refine J.aload_n 0 dL_law_1385 rfl rfl ?_
    refine J.iload dL_law_1386 rfl ?_
    refine I.iconst dL_law_1388 ?_
    refine I.add dL_law_1389 ?_
    refine I.sld (j := i + 1) hsc (by omega) (by omega) hL dL_law_1390 ?_
    refine I.callV1q (d' := d - 1) (mi' := mX9_tilesWith) dL_law_1391 lL_243 eX9_tilesWith rfl rfl (c_X9_tilesWith (d := d - 1) hl (by omega) (m1.w j) (iI_rng _)) (show d - 1 + 1 ≤ d from by omega) (Nat.le_of_ble_eq_true rfl) ?_
    rintro w9 s2 h2
    rcases h2 with ⟨hm, rfl, e2⟩ | ⟨hm, e2⟩
    · exact absurd hm hcond
    · skip
      have hm2 : MI s2 a ∧ LoE s1 s2 ∧ s2 137 0 = 1 := by subst e2; exact ⟨m1.th, fun q i hq => up_ne (by omega), up_eq _ _ _ _⟩
      refine J.istore dL_law_1394 (by decide) rfl ?_
      refine J.aload_n 2 dL_law_1396 rfl rfl ?_
      refine I.callV0i (d' := d - 1) (mi' := mX9_thrown) dL_law_1397 lL_151 eX9_thrown rfl rfl (c_X9_thrown (d := d - 1) hl (by omega)) (show d - 1 + 1 ≤ d from by omega) (Nat.le_of_ble_eq_true rfl) ?_
      refine I.sx hm2.2.2 ?_
      refine J.iload dL_law_1400 rfl ?_
      refine I.icmpS 1407 dL_law_1402 (by decide) ?_
      refine J.iload dL_law_1407 rfl ?_
      refine I.if_ne1 (Or.inl rfl) 1424 dL_law_1409 (by decide) ?_
      refine J.goto 2839 dL_law_1424 (by decide) ?_
      refine J.fgt (L' := [some (.ref 2000000), some (.ref 0), some (.ref 137), some (.ref 142), some (.ref 143), some (.int (iI (i : Int))), none, none, none]) (by exact ⟨Or.inr rfl, Or.inr rfl, Or.inr rfl, Or.inr rfl, Or.inr rfl, Or.inr rfl, Or.inl rfl, Or.inl rfl, Or.inl rfl, trivial⟩) ?_
      exact J.mono (kx s2 _ _ (j) (hc.1.hi hm2.2.1) hm2.1) (fun _ _ h => h) (fun _ _ h => h) ⟨show d ≤ d from Nat.le_refl d, by show mc ≤ mc + 2 - 1; omega, by show ms ≤ ms + 12 - 6; omega⟩
  · exact absurd hx id
set_option maxHeartbeats 4000000 in
theorem lc_26 {Γ : jE} (hl : Γ.1.stackTraces = false) {Ls : Nat} {xs : Nat → Int32} (hsc : Γ.2.2 = some (Ls, xs)) {s : Nat → Int → Int} {ε : jEps} {d i mc ms : Nat} {a : AS} {P : Option Value → jM → Prop} {X : String → jM → Prop} (hd : 131 ≤ d) (hi : i + 6 ≤ Ls) (hL : Ls ≤ 3072) (h : CI s a) (m : MI s a) (j : AI a) (kx : ∀ s' ε' a', AI a' → CI s' a' → MI s' a' → J Γ (d, mc, ms) mL_law 2839 [some (.ref 2000000), some (.ref 0), some (.ref 137), some (.ref 142), some (.ref 143), some (.int (iI (i : Int))), none, none, none] [] (jmem s' ε') P X) : J Γ (d, mc + 2, ms + 12) mL_law 1427 [some (.ref 2000000), some (.ref 0), some (.ref 137), some (.ref 142), some (.ref 143), some (.int (iI (i : Int))), none, none, none] [] (jmem s ε) P X := by
  refine J.aload_n 1 dL_law_1427 rfl rfl ?_
  refine I.callV0i (d' := d - 1) (mi' := mX8_doubleCount) dL_law_1428 lL_244 eX8_doubleCount rfl rfl (c_X8_doubleCount (d := d - 1) hl (by omega) h.m) (show d - 1 + 1 ≤ d from by omega) (Nat.le_of_ble_eq_true rfl) ?_
  obtain ⟨s1, hs1⟩ : ∃ s1, s1 = s := ⟨s, rfl⟩
  rw [← hs1]
  have e1 := hs1.symm
  have hc : CI s1 a ∧ HiE s s1 := by subst e1; exact ⟨h, fun _ _ _ => rfl⟩
  have m1 : MI s1 a := m.lo hc.2
  refine J.aload_n 2 dL_law_1431 rfl rfl ?_
  refine I.callV0i (d' := d - 1) (mi' := mX9_doubleCount) dL_law_1432 lL_247 eX9_doubleCount rfl rfl (c_X9_doubleCount (d := d - 1) hl (by omega) (m1.w j)) (show d - 1 + 1 ≤ d from by omega) (Nat.le_of_ble_eq_true rfl) ?_
  obtain ⟨s2, e2⟩ : ∃ s2, s2 = up s1 137 0 0 := ⟨_, rfl⟩
  rw [← e2]
  have hm2 : MI s2 a ∧ LoE s1 s2 ∧ s2 137 0 = 0 := by subst e2; exact ⟨m1.th, fun q i hq => up_ne (by omega), up_eq _ _ _ _⟩
  refine I.icmpS 2839 dL_law_1435 (by decide) ?_
  refine J.fgt (L' := [some (.ref 2000000), some (.ref 0), some (.ref 137), some (.ref 142), some (.ref 143), some (.int (iI (i : Int))), none, none, none]) (by exact ⟨Or.inr rfl, Or.inr rfl, Or.inr rfl, Or.inr rfl, Or.inr rfl, Or.inr rfl, Or.inl rfl, Or.inl rfl, Or.inl rfl, trivial⟩) ?_
  exact J.mono (kx s2 _ _ (j) (hc.1.hi hm2.2.1) hm2.1) (fun _ _ h => h) (fun _ _ h => h) ⟨show d ≤ d from Nat.le_refl d, by show mc ≤ mc + 2 - 0; omega, by show ms ≤ ms + 12 - 0; omega⟩
set_option maxHeartbeats 4000000 in
theorem lc_27 {Γ : jE} (hl : Γ.1.stackTraces = false) {Ls : Nat} {xs : Nat → Int32} (hsc : Γ.2.2 = some (Ls, xs)) {s : Nat → Int → Int} {ε : jEps} {d i mc ms : Nat} {a : AS} {P : Option Value → jM → Prop} {X : String → jM → Prop} (hd : 131 ≤ d) (hi : i + 6 ≤ Ls) (hL : Ls ≤ 3072) (h : CI s a) (m : MI s a) (j : AI a) (kx : ∀ s' ε' a', AI a' → CI s' a' → MI s' a' → J Γ (d, mc, ms) mL_law 2839 [some (.ref 2000000), some (.ref 0), some (.ref 137), some (.ref 142), some (.ref 143), some (.int (iI (i : Int))), none, none, none] [] (jmem s' ε') P X) : J Γ (d, mc + 2, ms + 12) mL_law 1440 [some (.ref 2000000), some (.ref 0), some (.ref 137), some (.ref 142), some (.ref 143), some (.int (iI (i : Int))), none, none, none] [] (jmem s ε) P X := by
  refine J.aload_n 1 dL_law_1440 rfl rfl ?_
  refine I.callV0i (d' := d - 1) (mi' := mX8_moveCount) dL_law_1441 lL_248 eX8_moveCount rfl rfl (c_X8_moveCount (d := d - 1) hl (by omega) h.m) (show d - 1 + 1 ≤ d from by omega) (Nat.le_of_ble_eq_true rfl) ?_
  obtain ⟨s1, hs1⟩ : ∃ s1, s1 = s := ⟨s, rfl⟩
  rw [← hs1]
  have e1 := hs1.symm
  have hc : CI s1 a ∧ HiE s s1 := by subst e1; exact ⟨h, fun _ _ _ => rfl⟩
  have m1 : MI s1 a := m.lo hc.2
  refine J.aload_n 2 dL_law_1444 rfl rfl ?_
  refine I.callV0i (d' := d - 1) (mi' := mX9_moveCount) dL_law_1445 lL_251 eX9_moveCount rfl rfl (c_X9_moveCount (d := d - 1) hl (by omega) (m1.w j)) (show d - 1 + 1 ≤ d from by omega) (Nat.le_of_ble_eq_true rfl) ?_
  obtain ⟨s2, e2⟩ : ∃ s2, s2 = up s1 137 0 0 := ⟨_, rfl⟩
  rw [← e2]
  have hm2 : MI s2 a ∧ LoE s1 s2 ∧ s2 137 0 = 0 := by subst e2; exact ⟨m1.th, fun q i hq => up_ne (by omega), up_eq _ _ _ _⟩
  refine I.icmpS 2839 dL_law_1448 (by decide) ?_
  refine J.fgt (L' := [some (.ref 2000000), some (.ref 0), some (.ref 137), some (.ref 142), some (.ref 143), some (.int (iI (i : Int))), none, none, none]) (by exact ⟨Or.inr rfl, Or.inr rfl, Or.inr rfl, Or.inr rfl, Or.inr rfl, Or.inr rfl, Or.inl rfl, Or.inl rfl, Or.inl rfl, trivial⟩) ?_
  exact J.mono (kx s2 _ _ (j) (hc.1.hi hm2.2.1) hm2.1) (fun _ _ h => h) (fun _ _ h => h) ⟨show d ≤ d from Nat.le_refl d, by show mc ≤ mc + 2 - 0; omega, by show ms ≤ ms + 12 - 0; omega⟩
set_option maxHeartbeats 4000000 in
theorem lc_28 {Γ : jE} (hl : Γ.1.stackTraces = false) {Ls : Nat} {xs : Nat → Int32} (hsc : Γ.2.2 = some (Ls, xs)) {s : Nat → Int → Int} {ε : jEps} {d i mc ms : Nat} {a : AS} {P : Option Value → jM → Prop} {X : String → jM → Prop} (hd : 131 ≤ d) (hi : i + 6 ≤ Ls) (hL : Ls ≤ 3072) (h : CI s a) (m : MI s a) (j : AI a) (kx : ∀ s' ε' a', AI a' → CI s' a' → MI s' a' → J Γ (d, mc, ms) mL_law 2839 [some (.ref 2000000), some (.ref 0), some (.ref 137), some (.ref 142), some (.ref 143), some (.int (iI (i : Int))), none, none, none] [] (jmem s' ε') P X) : J Γ (d, mc + 2, ms + 12) mL_law 1453 [some (.ref 2000000), some (.ref 0), some (.ref 137), some (.ref 142), some (.ref 143), some (.int (iI (i : Int))), none, none, none] [] (jmem s ε) P X := by
  refine J.aload_n 1 dL_law_1453 rfl rfl ?_
  refine J.aload_n 0 dL_law_1454 rfl rfl ?_
  refine J.iload dL_law_1455 rfl ?_
  refine I.iconst dL_law_1457 ?_
  refine I.add dL_law_1458 ?_
  refine I.sld (j := i + 1) hsc (by omega) (by omega) hL dL_law_1459 ?_
  refine J.aload_n 3 dL_law_1460 rfl rfl ?_
  refine J.callW3 (b' := (d - 1, 1, 6)) (mi' := mL_isPass) dL_law_1461 lL_252 eL_isPass (c_L_isPass (d := d - 1) hl (by omega) h.m (iI_rng _)) (show d - 1 + 1 ≤ d ∧ 1 ≤ mc + 2 ∧ 6 ≤ ms + 12 from ⟨by omega, by omega, by omega⟩) (Nat.le_of_ble_eq_true rfl) ?_
  rintro v M' ⟨s1, ε1, k9, rfl, rfl, hk⟩
  refine J.istore dL_law_1464 (by decide) rfl ?_
  rcases hk with ⟨rfl, r9, hq, hε⟩ | ⟨rfl, hx⟩ | ⟨rfl, hx⟩
  · skip
    obtain ⟨hcond, hr, e1⟩ := hq
    have hc : CI s1 a ∧ HiE s s1 := by subst e1; exact ⟨h, fun _ _ _ => rfl⟩
    have m1 : MI s1 a := m.lo hc.2
    refine J.aload_n 2 dL_law_1466 rfl rfl ?_
    refine J.aload_n 0 dL_law_1467 rfl rfl ?_
    refine J.iload dL_law_1468 rfl ?_
    refine I.iconst dL_law_1470 ?_
    refine I.add dL_law_1471 ?_
    refine I.sld (j := i + 1) hsc (by omega) (by omega) hL dL_law_1472 ?_
    refine I.callV1q (d' := d - 1) (mi' := mX9_isPass) dL_law_1473 lL_254 eX9_isPass rfl rfl (c_X9_isPass (d := d - 1) hl (by omega) (m1.w j) (iI_rng _)) (show d - 1 + 1 ≤ d from by omega) (Nat.le_of_ble_eq_true rfl) ?_
    rintro w9 s2 h2
    rcases h2 with ⟨hm, hw, e2⟩ | ⟨hm, e2⟩
    · skip
      have hm2 : MI s2 a ∧ LoE s1 s2 ∧ s2 137 0 = 0 := by subst e2; exact ⟨m1.th, fun q i hq => up_ne (by omega), up_eq _ _ _ _⟩
      refine J.istore dL_law_1476 (by decide) rfl ?_
      refine J.aload_n 2 dL_law_1478 rfl rfl ?_
      refine I.callV0i (d' := d - 1) (mi' := mX9_thrown) dL_law_1479 lL_151 eX9_thrown rfl rfl (c_X9_thrown (d := d - 1) hl (by omega)) (show d - 1 + 1 ≤ d from by omega) (Nat.le_of_ble_eq_true rfl) ?_
      refine I.sx hm2.2.2 ?_
      refine J.iload dL_law_1482 rfl ?_
      refine I.icmpS 1489 dL_law_1484 (by decide) ?_
      refine J.iload dL_law_1489 rfl ?_
      refine I.if_ne0 (tgt := 1513) dL_law_1491 (by decide) ?_
      refine J.aload_n 3 dL_law_1494 rfl rfl ?_
      refine I.iconst dL_law_1495 ?_
      have hε2 : ε1.1 142 0 = (iI w9).toInt64 := hε.trans (by rw [hr.symm.trans hw])
      have hb9 : w9 = 0 ∨ w9 = 1 := by rw [← hw]; exact bI_01 _
      refine I.lald0 hε2 dL_law_1496 ?_
      refine J.iload dL_law_1497 rfl ?_
      rcases hb9 with rfl | rfl
      · skip
        refine I.if_eq0 1506 dL_law_1499 (by decide) ?_
        refine J.lconst (iI 0).toInt64 dL_law_1506 (by decide) ?_
        refine I.lcmpS dL_law_1507 ?_
        refine I.if_eq0 1513 dL_law_1508 (by decide) ?_
        refine J.goto 2839 dL_law_1513 (by decide) ?_
        refine J.fgt (L' := [some (.ref 2000000), some (.ref 0), some (.ref 137), some (.ref 142), some (.ref 143), some (.int (iI (i : Int))), none, none, none]) (by exact ⟨Or.inr rfl, Or.inr rfl, Or.inr rfl, Or.inr rfl, Or.inr rfl, Or.inr rfl, Or.inl rfl, Or.inl rfl, Or.inl rfl, trivial⟩) ?_
        exact J.mono (kx s2 _ _ (j) (hc.1.hi hm2.2.1) hm2.1) (fun _ _ h => h) (fun _ _ h => h) ⟨show d ≤ d from Nat.le_refl d, by show mc ≤ mc + 2 - 1; omega, by show ms ≤ ms + 12 - 6; omega⟩
      · skip
        refine J.if_eq 1506 dL_law_1499 (by decide) (fun hz => absurd hz (by decide)) (fun _ => ?_)
        refine J.lconst (iI 1).toInt64 dL_law_1502 (by decide) ?_
        refine J.goto 1507 dL_law_1503 (by decide) ?_
        refine I.lcmpS dL_law_1507 ?_
        refine I.if_eq0 1513 dL_law_1508 (by decide) ?_
        refine J.goto 2839 dL_law_1513 (by decide) ?_
        refine J.fgt (L' := [some (.ref 2000000), some (.ref 0), some (.ref 137), some (.ref 142), some (.ref 143), some (.int (iI (i : Int))), none, none, none]) (by exact ⟨Or.inr rfl, Or.inr rfl, Or.inr rfl, Or.inr rfl, Or.inr rfl, Or.inr rfl, Or.inl rfl, Or.inl rfl, Or.inl rfl, trivial⟩) ?_
        exact J.mono (kx s2 _ _ (j) (hc.1.hi hm2.2.1) hm2.1) (fun _ _ h => h) (fun _ _ h => h) ⟨show d ≤ d from Nat.le_refl d, by show mc ≤ mc + 2 - 1; omega, by show ms ≤ ms + 12 - 6; omega⟩
    · exact absurd hcond hm
  · skip
    obtain ⟨hcond, e1⟩ := hx
    have hc : CI s1 a ∧ HiE s s1 := by subst e1; exact ⟨h, fun _ _ _ => rfl⟩
    have m1 : MI s1 a := m.lo hc.2
    refine J.aload_n 2 dL_law_1466 rfl rfl ?_
    refine J.aload_n 0 dL_law_1467 rfl rfl ?_
    refine J.iload dL_law_1468 rfl ?_
    refine I.iconst dL_law_1470 ?_
    refine I.add dL_law_1471 ?_
    refine I.sld (j := i + 1) hsc (by omega) (by omega) hL dL_law_1472 ?_
    refine I.callV1q (d' := d - 1) (mi' := mX9_isPass) dL_law_1473 lL_254 eX9_isPass rfl rfl (c_X9_isPass (d := d - 1) hl (by omega) (m1.w j) (iI_rng _)) (show d - 1 + 1 ≤ d from by omega) (Nat.le_of_ble_eq_true rfl) ?_
    rintro w9 s2 h2
    rcases h2 with ⟨hm, hw, e2⟩ | ⟨hm, e2⟩
    · exact absurd hm hcond
    · skip
      have hm2 : MI s2 a ∧ LoE s1 s2 ∧ s2 137 0 = 1 := by subst e2; exact ⟨m1.th, fun q i hq => up_ne (by omega), up_eq _ _ _ _⟩
      refine J.istore dL_law_1476 (by decide) rfl ?_
      refine J.aload_n 2 dL_law_1478 rfl rfl ?_
      refine I.callV0i (d' := d - 1) (mi' := mX9_thrown) dL_law_1479 lL_151 eX9_thrown rfl rfl (c_X9_thrown (d := d - 1) hl (by omega)) (show d - 1 + 1 ≤ d from by omega) (Nat.le_of_ble_eq_true rfl) ?_
      refine I.sx hm2.2.2 ?_
      refine J.iload dL_law_1482 rfl ?_
      refine I.icmpS 1489 dL_law_1484 (by decide) ?_
      refine J.iload dL_law_1489 rfl ?_
      refine I.if_ne1 (Or.inl rfl) 1513 dL_law_1491 (by decide) ?_
      refine J.goto 2839 dL_law_1513 (by decide) ?_
      refine J.fgt (L' := [some (.ref 2000000), some (.ref 0), some (.ref 137), some (.ref 142), some (.ref 143), some (.int (iI (i : Int))), none, none, none]) (by exact ⟨Or.inr rfl, Or.inr rfl, Or.inr rfl, Or.inr rfl, Or.inr rfl, Or.inr rfl, Or.inl rfl, Or.inl rfl, Or.inl rfl, trivial⟩) ?_
      exact J.mono (kx s2 _ _ (j) (hc.1.hi hm2.2.1) hm2.1) (fun _ _ h => h) (fun _ _ h => h) ⟨show d ≤ d from Nat.le_refl d, by show mc ≤ mc + 2 - 1; omega, by show ms ≤ ms + 12 - 6; omega⟩
  · exact absurd hx id
set_option maxHeartbeats 4000000 in
theorem lc_29 {Γ : jE} (hl : Γ.1.stackTraces = false) {Ls : Nat} {xs : Nat → Int32} (hsc : Γ.2.2 = some (Ls, xs)) {s : Nat → Int → Int} {ε : jEps} {d i mc ms : Nat} {a : AS} {P : Option Value → jM → Prop} {X : String → jM → Prop} (hd : 131 ≤ d) (hi : i + 6 ≤ Ls) (hL : Ls ≤ 3072) (h : CI s a) (m : MI s a) (j : AI a) (kx : ∀ s' ε' a', AI a' → CI s' a' → MI s' a' → J Γ (d, mc, ms) mL_law 2839 [some (.ref 2000000), some (.ref 0), some (.ref 137), some (.ref 142), some (.ref 143), some (.int (iI (i : Int))), none, none, none] [] (jmem s' ε') P X) : J Γ (d, mc + 2, ms + 12) mL_law 1516 [some (.ref 2000000), some (.ref 0), some (.ref 137), some (.ref 142), some (.ref 143), some (.int (iI (i : Int))), none, none, none] [] (jmem s ε) P X := by
  refine J.aload_n 1 dL_law_1516 rfl rfl ?_
  refine J.aload_n 0 dL_law_1517 rfl rfl ?_
  refine J.iload dL_law_1518 rfl ?_
  refine I.iconst dL_law_1520 ?_
  refine I.add dL_law_1521 ?_
  refine I.sld (j := i + 1) hsc (by omega) (by omega) hL dL_law_1522 ?_
  refine J.aload_n 3 dL_law_1523 rfl rfl ?_
  refine J.callW3 (b' := (d - 1, 1, 6)) (mi' := mL_moveChain) dL_law_1524 lL_255 eL_moveChain (c_L_moveChain (d := d - 1) hl (by omega) h.m (iI_rng _)) (show d - 1 + 1 ≤ d ∧ 1 ≤ mc + 2 ∧ 6 ≤ ms + 12 from ⟨by omega, by omega, by omega⟩) (Nat.le_of_ble_eq_true rfl) ?_
  rintro v M' ⟨s1, ε1, k9, rfl, rfl, hk⟩
  refine J.istore dL_law_1527 (by decide) rfl ?_
  rcases hk with ⟨rfl, r9, hq, hε⟩ | ⟨rfl, hx⟩ | ⟨rfl, hx⟩
  · skip
    obtain ⟨hcond, rfl, e1⟩ := hq
    have hc : CI s1 a ∧ HiE s s1 := by subst e1; exact ⟨h, fun _ _ _ => rfl⟩
    have m1 : MI s1 a := m.lo hc.2
    refine J.aload_n 2 dL_law_1529 rfl rfl ?_
    refine J.aload_n 0 dL_law_1530 rfl rfl ?_
    refine J.iload dL_law_1531 rfl ?_
    refine I.iconst dL_law_1533 ?_
    refine I.add dL_law_1534 ?_
    refine I.sld (j := i + 1) hsc (by omega) (by omega) hL dL_law_1535 ?_
    refine I.callV1q (d' := d - 1) (mi' := mX9_moveChain) dL_law_1536 lL_257 eX9_moveChain rfl rfl (c_X9_moveChain (d := d - 1) hl (by omega) (m1.w j) (iI_rng _)) (show d - 1 + 1 ≤ d from by omega) (Nat.le_of_ble_eq_true rfl) ?_
    rintro w9 s2 h2
    rcases h2 with ⟨hm, rfl, e2⟩ | ⟨hm, e2⟩
    · skip
      have hm2 : MI s2 a ∧ LoE s1 s2 ∧ s2 137 0 = 0 := by subst e2; exact ⟨m1.th, fun q i hq => up_ne (by omega), up_eq _ _ _ _⟩
      refine J.istore dL_law_1539 (by decide) rfl ?_
      refine J.aload_n 2 dL_law_1541 rfl rfl ?_
      refine I.callV0i (d' := d - 1) (mi' := mX9_thrown) dL_law_1542 lL_151 eX9_thrown rfl rfl (c_X9_thrown (d := d - 1) hl (by omega)) (show d - 1 + 1 ≤ d from by omega) (Nat.le_of_ble_eq_true rfl) ?_
      refine I.sx hm2.2.2 ?_
      refine J.iload dL_law_1545 rfl ?_
      refine I.icmpS 1552 dL_law_1547 (by decide) ?_
      refine J.iload dL_law_1552 rfl ?_
      refine I.if_ne0 (tgt := 1569) dL_law_1554 (by decide) ?_
      refine J.aload_n 3 dL_law_1557 rfl rfl ?_
      refine I.iconst dL_law_1558 ?_
      refine I.lald0 hε dL_law_1559 ?_
      refine J.iload dL_law_1560 rfl ?_
      refine J.i2l dL_law_1562 ?_
      refine I.lcmpS dL_law_1563 ?_
      refine I.if_eq0 1569 dL_law_1564 (by decide) ?_
      refine J.goto 2839 dL_law_1569 (by decide) ?_
      refine J.fgt (L' := [some (.ref 2000000), some (.ref 0), some (.ref 137), some (.ref 142), some (.ref 143), some (.int (iI (i : Int))), none, none, none]) (by exact ⟨Or.inr rfl, Or.inr rfl, Or.inr rfl, Or.inr rfl, Or.inr rfl, Or.inr rfl, Or.inl rfl, Or.inl rfl, Or.inl rfl, trivial⟩) ?_
      exact J.mono (kx s2 _ _ (j) (hc.1.hi hm2.2.1) hm2.1) (fun _ _ h => h) (fun _ _ h => h) ⟨show d ≤ d from Nat.le_refl d, by show mc ≤ mc + 2 - 1; omega, by show ms ≤ ms + 12 - 6; omega⟩
    · exact absurd hcond hm
  · skip
    obtain ⟨hcond, e1⟩ := hx
    have hc : CI s1 a ∧ HiE s s1 := by subst e1; exact ⟨h, fun _ _ _ => rfl⟩
    have m1 : MI s1 a := m.lo hc.2
    refine J.aload_n 2 dL_law_1529 rfl rfl ?_
    refine J.aload_n 0 dL_law_1530 rfl rfl ?_
    refine J.iload dL_law_1531 rfl ?_
    refine I.iconst dL_law_1533 ?_
    refine I.add dL_law_1534 ?_
    refine I.sld (j := i + 1) hsc (by omega) (by omega) hL dL_law_1535 ?_
    refine I.callV1q (d' := d - 1) (mi' := mX9_moveChain) dL_law_1536 lL_257 eX9_moveChain rfl rfl (c_X9_moveChain (d := d - 1) hl (by omega) (m1.w j) (iI_rng _)) (show d - 1 + 1 ≤ d from by omega) (Nat.le_of_ble_eq_true rfl) ?_
    rintro w9 s2 h2
    rcases h2 with ⟨hm, rfl, e2⟩ | ⟨hm, e2⟩
    · exact absurd hm hcond
    · skip
      have hm2 : MI s2 a ∧ LoE s1 s2 ∧ s2 137 0 = 1 := by subst e2; exact ⟨m1.th, fun q i hq => up_ne (by omega), up_eq _ _ _ _⟩
      refine J.istore dL_law_1539 (by decide) rfl ?_
      refine J.aload_n 2 dL_law_1541 rfl rfl ?_
      refine I.callV0i (d' := d - 1) (mi' := mX9_thrown) dL_law_1542 lL_151 eX9_thrown rfl rfl (c_X9_thrown (d := d - 1) hl (by omega)) (show d - 1 + 1 ≤ d from by omega) (Nat.le_of_ble_eq_true rfl) ?_
      refine I.sx hm2.2.2 ?_
      refine J.iload dL_law_1545 rfl ?_
      refine I.icmpS 1552 dL_law_1547 (by decide) ?_
      refine J.iload dL_law_1552 rfl ?_
      refine I.if_ne1 (Or.inl rfl) 1569 dL_law_1554 (by decide) ?_
      refine J.goto 2839 dL_law_1569 (by decide) ?_
      refine J.fgt (L' := [some (.ref 2000000), some (.ref 0), some (.ref 137), some (.ref 142), some (.ref 143), some (.int (iI (i : Int))), none, none, none]) (by exact ⟨Or.inr rfl, Or.inr rfl, Or.inr rfl, Or.inr rfl, Or.inr rfl, Or.inr rfl, Or.inl rfl, Or.inl rfl, Or.inl rfl, trivial⟩) ?_
      exact J.mono (kx s2 _ _ (j) (hc.1.hi hm2.2.1) hm2.1) (fun _ _ h => h) (fun _ _ h => h) ⟨show d ≤ d from Nat.le_refl d, by show mc ≤ mc + 2 - 1; omega, by show ms ≤ ms + 12 - 6; omega⟩
  · exact absurd hx id
set_option maxHeartbeats 4000000 in
theorem lc_30 {Γ : jE} (hl : Γ.1.stackTraces = false) {Ls : Nat} {xs : Nat → Int32} (hsc : Γ.2.2 = some (Ls, xs)) {s : Nat → Int → Int} {ε : jEps} {d i mc ms : Nat} {a : AS} {P : Option Value → jM → Prop} {X : String → jM → Prop} (hd : 131 ≤ d) (hi : i + 6 ≤ Ls) (hL : Ls ≤ 3072) (h : CI s a) (m : MI s a) (j : AI a) (kx : ∀ s' ε' a', AI a' → CI s' a' → MI s' a' → J Γ (d, mc, ms) mL_law 2839 [some (.ref 2000000), some (.ref 0), some (.ref 137), some (.ref 142), some (.ref 143), some (.int (iI (i : Int))), none, none, none] [] (jmem s' ε') P X) : J Γ (d, mc + 2, ms + 12) mL_law 1572 [some (.ref 2000000), some (.ref 0), some (.ref 137), some (.ref 142), some (.ref 143), some (.int (iI (i : Int))), none, none, none] [] (jmem s ε) P X := by
  refine J.aload_n 1 dL_law_1572 rfl rfl ?_
  refine J.aload_n 0 dL_law_1573 rfl rfl ?_
  refine J.iload dL_law_1574 rfl ?_
  refine I.iconst dL_law_1576 ?_
  refine I.add dL_law_1577 ?_
  refine I.sld (j := i + 1) hsc (by omega) (by omega) hL dL_law_1578 ?_
  refine J.aload_n 3 dL_law_1579 rfl rfl ?_
  refine J.callW3 (b' := (d - 1, 1, 6)) (mi' := mL_isLeftBurn) dL_law_1580 lL_258 eL_isLeftBurn (c_L_isLeftBurn (d := d - 1) hl (by omega) h.m (iI_rng _)) (show d - 1 + 1 ≤ d ∧ 1 ≤ mc + 2 ∧ 6 ≤ ms + 12 from ⟨by omega, by omega, by omega⟩) (Nat.le_of_ble_eq_true rfl) ?_
  rintro v M' ⟨s1, ε1, k9, rfl, rfl, hk⟩
  refine J.istore dL_law_1583 (by decide) rfl ?_
  rcases hk with ⟨rfl, r9, hq, hε⟩ | ⟨rfl, hx⟩ | ⟨rfl, hx⟩
  · skip
    obtain ⟨hcond, hr, e1⟩ := hq
    have hc : CI s1 a ∧ HiE s s1 := by subst e1; exact ⟨h, fun _ _ _ => rfl⟩
    have m1 : MI s1 a := m.lo hc.2
    refine J.aload_n 2 dL_law_1585 rfl rfl ?_
    refine J.aload_n 0 dL_law_1586 rfl rfl ?_
    refine J.iload dL_law_1587 rfl ?_
    refine I.iconst dL_law_1589 ?_
    refine I.add dL_law_1590 ?_
    refine I.sld (j := i + 1) hsc (by omega) (by omega) hL dL_law_1591 ?_
    refine I.callV1q (d' := d - 1) (mi' := mX9_isLeftBurn) dL_law_1592 lL_260 eX9_isLeftBurn rfl rfl (c_X9_isLeftBurn (d := d - 1) hl (by omega) (m1.w j) (iI_rng _)) (show d - 1 + 1 ≤ d from by omega) (Nat.le_of_ble_eq_true rfl) ?_
    rintro w9 s2 h2
    rcases h2 with ⟨hm, hw, e2⟩ | ⟨hm, e2⟩
    · skip
      have hm2 : MI s2 a ∧ LoE s1 s2 ∧ s2 137 0 = 0 := by subst e2; exact ⟨m1.th, fun q i hq => up_ne (by omega), up_eq _ _ _ _⟩
      refine J.istore dL_law_1595 (by decide) rfl ?_
      refine J.aload_n 2 dL_law_1597 rfl rfl ?_
      refine I.callV0i (d' := d - 1) (mi' := mX9_thrown) dL_law_1598 lL_151 eX9_thrown rfl rfl (c_X9_thrown (d := d - 1) hl (by omega)) (show d - 1 + 1 ≤ d from by omega) (Nat.le_of_ble_eq_true rfl) ?_
      refine I.sx hm2.2.2 ?_
      refine J.iload dL_law_1601 rfl ?_
      refine I.icmpS 1608 dL_law_1603 (by decide) ?_
      refine J.iload dL_law_1608 rfl ?_
      refine I.if_ne0 (tgt := 1632) dL_law_1610 (by decide) ?_
      refine J.aload_n 3 dL_law_1613 rfl rfl ?_
      refine I.iconst dL_law_1614 ?_
      have hε2 : ε1.1 142 0 = (iI w9).toInt64 := hε.trans (by rw [hr.symm.trans hw])
      have hb9 : w9 = 0 ∨ w9 = 1 := by rw [← hw]; exact bI_01 _
      refine I.lald0 hε2 dL_law_1615 ?_
      refine J.iload dL_law_1616 rfl ?_
      rcases hb9 with rfl | rfl
      · skip
        refine I.if_eq0 1625 dL_law_1618 (by decide) ?_
        refine J.lconst (iI 0).toInt64 dL_law_1625 (by decide) ?_
        refine I.lcmpS dL_law_1626 ?_
        refine I.if_eq0 1632 dL_law_1627 (by decide) ?_
        refine J.goto 2839 dL_law_1632 (by decide) ?_
        refine J.fgt (L' := [some (.ref 2000000), some (.ref 0), some (.ref 137), some (.ref 142), some (.ref 143), some (.int (iI (i : Int))), none, none, none]) (by exact ⟨Or.inr rfl, Or.inr rfl, Or.inr rfl, Or.inr rfl, Or.inr rfl, Or.inr rfl, Or.inl rfl, Or.inl rfl, Or.inl rfl, trivial⟩) ?_
        exact J.mono (kx s2 _ _ (j) (hc.1.hi hm2.2.1) hm2.1) (fun _ _ h => h) (fun _ _ h => h) ⟨show d ≤ d from Nat.le_refl d, by show mc ≤ mc + 2 - 1; omega, by show ms ≤ ms + 12 - 6; omega⟩
      · skip
        refine J.if_eq 1625 dL_law_1618 (by decide) (fun hz => absurd hz (by decide)) (fun _ => ?_)
        refine J.lconst (iI 1).toInt64 dL_law_1621 (by decide) ?_
        refine J.goto 1626 dL_law_1622 (by decide) ?_
        refine I.lcmpS dL_law_1626 ?_
        refine I.if_eq0 1632 dL_law_1627 (by decide) ?_
        refine J.goto 2839 dL_law_1632 (by decide) ?_
        refine J.fgt (L' := [some (.ref 2000000), some (.ref 0), some (.ref 137), some (.ref 142), some (.ref 143), some (.int (iI (i : Int))), none, none, none]) (by exact ⟨Or.inr rfl, Or.inr rfl, Or.inr rfl, Or.inr rfl, Or.inr rfl, Or.inr rfl, Or.inl rfl, Or.inl rfl, Or.inl rfl, trivial⟩) ?_
        exact J.mono (kx s2 _ _ (j) (hc.1.hi hm2.2.1) hm2.1) (fun _ _ h => h) (fun _ _ h => h) ⟨show d ≤ d from Nat.le_refl d, by show mc ≤ mc + 2 - 1; omega, by show ms ≤ ms + 12 - 6; omega⟩
    · exact absurd hcond hm
  · skip
    obtain ⟨hcond, e1⟩ := hx
    have hc : CI s1 a ∧ HiE s s1 := by subst e1; exact ⟨h, fun _ _ _ => rfl⟩
    have m1 : MI s1 a := m.lo hc.2
    refine J.aload_n 2 dL_law_1585 rfl rfl ?_
    refine J.aload_n 0 dL_law_1586 rfl rfl ?_
    refine J.iload dL_law_1587 rfl ?_
    refine I.iconst dL_law_1589 ?_
    refine I.add dL_law_1590 ?_
    refine I.sld (j := i + 1) hsc (by omega) (by omega) hL dL_law_1591 ?_
    refine I.callV1q (d' := d - 1) (mi' := mX9_isLeftBurn) dL_law_1592 lL_260 eX9_isLeftBurn rfl rfl (c_X9_isLeftBurn (d := d - 1) hl (by omega) (m1.w j) (iI_rng _)) (show d - 1 + 1 ≤ d from by omega) (Nat.le_of_ble_eq_true rfl) ?_
    rintro w9 s2 h2
    rcases h2 with ⟨hm, hw, e2⟩ | ⟨hm, e2⟩
    · exact absurd hm hcond
    · skip
      have hm2 : MI s2 a ∧ LoE s1 s2 ∧ s2 137 0 = 1 := by subst e2; exact ⟨m1.th, fun q i hq => up_ne (by omega), up_eq _ _ _ _⟩
      refine J.istore dL_law_1595 (by decide) rfl ?_
      refine J.aload_n 2 dL_law_1597 rfl rfl ?_
      refine I.callV0i (d' := d - 1) (mi' := mX9_thrown) dL_law_1598 lL_151 eX9_thrown rfl rfl (c_X9_thrown (d := d - 1) hl (by omega)) (show d - 1 + 1 ≤ d from by omega) (Nat.le_of_ble_eq_true rfl) ?_
      refine I.sx hm2.2.2 ?_
      refine J.iload dL_law_1601 rfl ?_
      refine I.icmpS 1608 dL_law_1603 (by decide) ?_
      refine J.iload dL_law_1608 rfl ?_
      refine I.if_ne1 (Or.inl rfl) 1632 dL_law_1610 (by decide) ?_
      refine J.goto 2839 dL_law_1632 (by decide) ?_
      refine J.fgt (L' := [some (.ref 2000000), some (.ref 0), some (.ref 137), some (.ref 142), some (.ref 143), some (.int (iI (i : Int))), none, none, none]) (by exact ⟨Or.inr rfl, Or.inr rfl, Or.inr rfl, Or.inr rfl, Or.inr rfl, Or.inr rfl, Or.inl rfl, Or.inl rfl, Or.inl rfl, trivial⟩) ?_
      exact J.mono (kx s2 _ _ (j) (hc.1.hi hm2.2.1) hm2.1) (fun _ _ h => h) (fun _ _ h => h) ⟨show d ≤ d from Nat.le_refl d, by show mc ≤ mc + 2 - 1; omega, by show ms ≤ ms + 12 - 6; omega⟩
  · exact absurd hx id
set_option maxHeartbeats 4000000 in
theorem lc_31 {Γ : jE} (hl : Γ.1.stackTraces = false) {Ls : Nat} {xs : Nat → Int32} (hsc : Γ.2.2 = some (Ls, xs)) {s : Nat → Int → Int} {ε : jEps} {d i mc ms : Nat} {a : AS} {P : Option Value → jM → Prop} {X : String → jM → Prop} (hd : 131 ≤ d) (hi : i + 6 ≤ Ls) (hL : Ls ≤ 3072) (h : CI s a) (m : MI s a) (j : AI a) (kx : ∀ s' ε' a', AI a' → CI s' a' → MI s' a' → J Γ (d, mc, ms) mL_law 2839 [some (.ref 2000000), some (.ref 0), some (.ref 137), some (.ref 142), some (.ref 143), some (.int (iI (i : Int))), none, none, none] [] (jmem s' ε') P X) : J Γ (d, mc + 2, ms + 12) mL_law 1635 [some (.ref 2000000), some (.ref 0), some (.ref 137), some (.ref 142), some (.ref 143), some (.int (iI (i : Int))), none, none, none] [] (jmem s ε) P X := by
  refine J.aload_n 1 dL_law_1635 rfl rfl ?_
  refine J.aload_n 0 dL_law_1636 rfl rfl ?_
  refine J.iload dL_law_1637 rfl ?_
  refine I.iconst dL_law_1639 ?_
  refine I.add dL_law_1640 ?_
  refine I.sld (j := i + 1) hsc (by omega) (by omega) hL dL_law_1641 ?_
  refine J.aload_n 3 dL_law_1642 rfl rfl ?_
  refine J.callW3 (b' := (d - 1, 1, 6)) (mi' := mL_moveScore) dL_law_1643 lL_261 eL_moveScore (c_L_moveScore (d := d - 1) hl (by omega) h.m (iI_rng _)) (show d - 1 + 1 ≤ d ∧ 1 ≤ mc + 2 ∧ 6 ≤ ms + 12 from ⟨by omega, by omega, by omega⟩) (Nat.le_of_ble_eq_true rfl) ?_
  rintro v M' ⟨s1, ε1, k9, rfl, rfl, hk⟩
  refine J.istore dL_law_1646 (by decide) rfl ?_
  rcases hk with ⟨rfl, r9, hq, hε⟩ | ⟨rfl, hx⟩ | ⟨rfl, hx⟩
  · skip
    obtain ⟨hcond, rfl, e1⟩ := hq
    have hc : CI s1 a ∧ HiE s s1 := by subst e1; exact ⟨h, fun _ _ _ => rfl⟩
    have m1 : MI s1 a := m.lo hc.2
    refine J.aload_n 2 dL_law_1648 rfl rfl ?_
    refine J.aload_n 0 dL_law_1649 rfl rfl ?_
    refine J.iload dL_law_1650 rfl ?_
    refine I.iconst dL_law_1652 ?_
    refine I.add dL_law_1653 ?_
    refine I.sld (j := i + 1) hsc (by omega) (by omega) hL dL_law_1654 ?_
    refine I.callV1q (d' := d - 1) (mi' := mX9_moveScore) dL_law_1655 lL_263 eX9_moveScore rfl rfl (c_X9_moveScore (d := d - 1) hl (by omega) (m1.w j) (iI_rng _)) (show d - 1 + 1 ≤ d from by omega) (Nat.le_of_ble_eq_true rfl) ?_
    rintro w9 s2 h2
    rcases h2 with ⟨hm, rfl, e2⟩ | ⟨hm, e2⟩
    · skip
      have hm2 : MI s2 a ∧ LoE s1 s2 ∧ s2 137 0 = 0 := by subst e2; exact ⟨m1.th, fun q i hq => up_ne (by omega), up_eq _ _ _ _⟩
      refine J.istore dL_law_1658 (by decide) rfl ?_
      refine J.aload_n 2 dL_law_1660 rfl rfl ?_
      refine I.callV0i (d' := d - 1) (mi' := mX9_thrown) dL_law_1661 lL_151 eX9_thrown rfl rfl (c_X9_thrown (d := d - 1) hl (by omega)) (show d - 1 + 1 ≤ d from by omega) (Nat.le_of_ble_eq_true rfl) ?_
      refine I.sx hm2.2.2 ?_
      refine J.iload dL_law_1664 rfl ?_
      refine I.icmpS 1671 dL_law_1666 (by decide) ?_
      refine J.iload dL_law_1671 rfl ?_
      refine I.if_ne0 (tgt := 1688) dL_law_1673 (by decide) ?_
      refine J.aload_n 3 dL_law_1676 rfl rfl ?_
      refine I.iconst dL_law_1677 ?_
      refine I.lald0 hε dL_law_1678 ?_
      refine J.iload dL_law_1679 rfl ?_
      refine J.i2l dL_law_1681 ?_
      refine I.lcmpS dL_law_1682 ?_
      refine I.if_eq0 1688 dL_law_1683 (by decide) ?_
      refine J.goto 2839 dL_law_1688 (by decide) ?_
      refine J.fgt (L' := [some (.ref 2000000), some (.ref 0), some (.ref 137), some (.ref 142), some (.ref 143), some (.int (iI (i : Int))), none, none, none]) (by exact ⟨Or.inr rfl, Or.inr rfl, Or.inr rfl, Or.inr rfl, Or.inr rfl, Or.inr rfl, Or.inl rfl, Or.inl rfl, Or.inl rfl, trivial⟩) ?_
      exact J.mono (kx s2 _ _ (j) (hc.1.hi hm2.2.1) hm2.1) (fun _ _ h => h) (fun _ _ h => h) ⟨show d ≤ d from Nat.le_refl d, by show mc ≤ mc + 2 - 1; omega, by show ms ≤ ms + 12 - 6; omega⟩
    · exact absurd hcond hm
  · skip
    obtain ⟨hcond, e1⟩ := hx
    have hc : CI s1 a ∧ HiE s s1 := by subst e1; exact ⟨h, fun _ _ _ => rfl⟩
    have m1 : MI s1 a := m.lo hc.2
    refine J.aload_n 2 dL_law_1648 rfl rfl ?_
    refine J.aload_n 0 dL_law_1649 rfl rfl ?_
    refine J.iload dL_law_1650 rfl ?_
    refine I.iconst dL_law_1652 ?_
    refine I.add dL_law_1653 ?_
    refine I.sld (j := i + 1) hsc (by omega) (by omega) hL dL_law_1654 ?_
    refine I.callV1q (d' := d - 1) (mi' := mX9_moveScore) dL_law_1655 lL_263 eX9_moveScore rfl rfl (c_X9_moveScore (d := d - 1) hl (by omega) (m1.w j) (iI_rng _)) (show d - 1 + 1 ≤ d from by omega) (Nat.le_of_ble_eq_true rfl) ?_
    rintro w9 s2 h2
    rcases h2 with ⟨hm, rfl, e2⟩ | ⟨hm, e2⟩
    · exact absurd hm hcond
    · skip
      have hm2 : MI s2 a ∧ LoE s1 s2 ∧ s2 137 0 = 1 := by subst e2; exact ⟨m1.th, fun q i hq => up_ne (by omega), up_eq _ _ _ _⟩
      refine J.istore dL_law_1658 (by decide) rfl ?_
      refine J.aload_n 2 dL_law_1660 rfl rfl ?_
      refine I.callV0i (d' := d - 1) (mi' := mX9_thrown) dL_law_1661 lL_151 eX9_thrown rfl rfl (c_X9_thrown (d := d - 1) hl (by omega)) (show d - 1 + 1 ≤ d from by omega) (Nat.le_of_ble_eq_true rfl) ?_
      refine I.sx hm2.2.2 ?_
      refine J.iload dL_law_1664 rfl ?_
      refine I.icmpS 1671 dL_law_1666 (by decide) ?_
      refine J.iload dL_law_1671 rfl ?_
      refine I.if_ne1 (Or.inl rfl) 1688 dL_law_1673 (by decide) ?_
      refine J.goto 2839 dL_law_1688 (by decide) ?_
      refine J.fgt (L' := [some (.ref 2000000), some (.ref 0), some (.ref 137), some (.ref 142), some (.ref 143), some (.int (iI (i : Int))), none, none, none]) (by exact ⟨Or.inr rfl, Or.inr rfl, Or.inr rfl, Or.inr rfl, Or.inr rfl, Or.inr rfl, Or.inl rfl, Or.inl rfl, Or.inl rfl, trivial⟩) ?_
      exact J.mono (kx s2 _ _ (j) (hc.1.hi hm2.2.1) hm2.1) (fun _ _ h => h) (fun _ _ h => h) ⟨show d ≤ d from Nat.le_refl d, by show mc ≤ mc + 2 - 1; omega, by show ms ≤ ms + 12 - 6; omega⟩
  · exact absurd hx id
