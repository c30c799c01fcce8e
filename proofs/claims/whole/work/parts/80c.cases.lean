set_option maxHeartbeats 4000000 in
theorem lc_32 {Γ : jE} (hl : Γ.1.stackTraces = false) {Ls : Nat} {xs : Nat → Int32} (hsc : Γ.2.2 = some (Ls, xs)) {s : Nat → Int → Int} {ε : jEps} {d i mc ms : Nat} {a : AS} {P : Option Value → jM → Prop} {X : String → jM → Prop} (hd : 131 ≤ d) (hi : i + 6 ≤ Ls) (hL : Ls ≤ 3072) (h : CI s a) (m : MI s a) (j : AI a) (kx : ∀ s' ε' a', AI a' → CI s' a' → MI s' a' → J Γ (d, mc, ms) mL_law 2839 [some (.ref 2000000), some (.ref 0), some (.ref 137), some (.ref 142), some (.ref 143), some (.int (iI (i : Int))), none, none, none] [] (jmem s' ε') P X) : J Γ (d, mc + 2, ms + 12) mL_law 1691 [some (.ref 2000000), some (.ref 0), some (.ref 137), some (.ref 142), some (.ref 143), some (.int (iI (i : Int))), none, none, none] [] (jmem s ε) P X := by
  refine J.aload_n 1 dL_law_1691 rfl rfl ?_
  refine I.callV0i (d' := d - 1) (mi' := mX8_loggedMoveCount) dL_law_1692 lL_264 eX8_loggedMoveCount rfl rfl (c_X8_loggedMoveCount (d := d - 1) hl (by omega) h.m) (show d - 1 + 1 ≤ d from by omega) (Nat.le_of_ble_eq_true rfl) ?_
  obtain ⟨s1, hs1⟩ : ∃ s1, s1 = s := ⟨s, rfl⟩
  rw [← hs1]
  have e1 := hs1.symm
  have hc : CI s1 a ∧ HiE s s1 := by subst e1; exact ⟨h, fun _ _ _ => rfl⟩
  have m1 : MI s1 a := m.lo hc.2
  refine J.aload_n 2 dL_law_1695 rfl rfl ?_
  refine I.callV0i (d' := d - 1) (mi' := mX9_loggedMoveCount) dL_law_1696 lL_267 eX9_loggedMoveCount rfl rfl (c_X9_loggedMoveCount (d := d - 1) hl (by omega) (m1.w j)) (show d - 1 + 1 ≤ d from by omega) (Nat.le_of_ble_eq_true rfl) ?_
  obtain ⟨s2, e2⟩ : ∃ s2, s2 = up s1 137 0 0 := ⟨_, rfl⟩
  rw [← e2]
  have hm2 : MI s2 a ∧ LoE s1 s2 ∧ s2 137 0 = 0 := by subst e2; exact ⟨m1.th, fun q i hq => up_ne (by omega), up_eq _ _ _ _⟩
  refine I.icmpS 2839 dL_law_1699 (by decide) ?_
  refine J.fgt (L' := [some (.ref 2000000), some (.ref 0), some (.ref 137), some (.ref 142), some (.ref 143), some (.int (iI (i : Int))), none, none, none]) (by exact ⟨Or.inr rfl, Or.inr rfl, Or.inr rfl, Or.inr rfl, Or.inr rfl, Or.inr rfl, Or.inl rfl, Or.inl rfl, Or.inl rfl, trivial⟩) ?_
  exact J.mono (kx s2 _ _ (j) (hc.1.hi hm2.2.1) hm2.1) (fun _ _ h => h) (fun _ _ h => h) ⟨show d ≤ d from Nat.le_refl d, by show mc ≤ mc + 2 - 0; omega, by show ms ≤ ms + 12 - 0; omega⟩
set_option maxHeartbeats 4000000 in
theorem lc_33 {Γ : jE} (hl : Γ.1.stackTraces = false) {Ls : Nat} {xs : Nat → Int32} (hsc : Γ.2.2 = some (Ls, xs)) {s : Nat → Int → Int} {ε : jEps} {d i mc ms : Nat} {a : AS} {P : Option Value → jM → Prop} {X : String → jM → Prop} (hd : 131 ≤ d) (hi : i + 6 ≤ Ls) (hL : Ls ≤ 3072) (h : CI s a) (m : MI s a) (j : AI a) (kx : ∀ s' ε' a', AI a' → CI s' a' → MI s' a' → J Γ (d, mc, ms) mL_law 2839 [some (.ref 2000000), some (.ref 0), some (.ref 137), some (.ref 142), some (.ref 143), some (.int (iI (i : Int))), none, none, none] [] (jmem s' ε') P X) : J Γ (d, mc + 2, ms + 12) mL_law 1704 [some (.ref 2000000), some (.ref 0), some (.ref 137), some (.ref 142), some (.ref 143), some (.int (iI (i : Int))), none, none, none] [] (jmem s ε) P X := by
  refine J.aload_n 1 dL_law_1704 rfl rfl ?_
  refine J.aload_n 0 dL_law_1705 rfl rfl ?_
  refine J.iload dL_law_1706 rfl ?_
  refine I.iconst dL_law_1708 ?_
  refine I.add dL_law_1709 ?_
  refine I.sld (j := i + 1) hsc (by omega) (by omega) hL dL_law_1710 ?_
  refine J.aload_n 3 dL_law_1711 rfl rfl ?_
  refine J.callW3 (b' := (d - 1, 1, 6)) (mi' := mL_loggedScore) dL_law_1712 lL_268 eL_loggedScore (c_L_loggedScore (d := d - 1) hl (by omega) h.m (iI_rng _)) (show d - 1 + 1 ≤ d ∧ 1 ≤ mc + 2 ∧ 6 ≤ ms + 12 from ⟨by omega, by omega, by omega⟩) (Nat.le_of_ble_eq_true rfl) ?_
  rintro v M' ⟨s1, ε1, k9, rfl, rfl, hk⟩
  refine J.istore dL_law_1715 (by decide) rfl ?_
  rcases hk with ⟨rfl, r9, hq, hε⟩ | ⟨rfl, hx⟩ | ⟨rfl, hx⟩
  · skip
    obtain ⟨hcond, rfl, e1⟩ := hq
    have hc : CI s1 a ∧ HiE s s1 := by subst e1; exact ⟨h, fun _ _ _ => rfl⟩
    have m1 : MI s1 a := m.lo hc.2
    refine J.aload_n 2 dL_law_1717 rfl rfl ?_
    refine J.aload_n 0 dL_law_1718 rfl rfl ?_
    refine J.iload dL_law_1719 rfl ?_
    refine I.iconst dL_law_1721 ?_
    refine I.add dL_law_1722 ?_
    refine I.sld (j := i + 1) hsc (by omega) (by omega) hL dL_law_1723 ?_
    refine I.callV1q (d' := d - 1) (mi' := mX9_loggedScore) dL_law_1724 lL_270 eX9_loggedScore rfl rfl (c_X9_loggedScore (d := d - 1) hl (by omega) (m1.w j) (iI_rng _)) (show d - 1 + 1 ≤ d from by omega) (Nat.le_of_ble_eq_true rfl) ?_
    rintro w9 s2 h2
    rcases h2 with ⟨hm, rfl, e2⟩ | ⟨hm, e2⟩
    · skip
      have hm2 : MI s2 a ∧ LoE s1 s2 ∧ s2 137 0 = 0 := by subst e2; exact ⟨m1.th, fun q i hq => up_ne (by omega), up_eq _ _ _ _⟩
      refine J.istore dL_law_1727 (by decide) rfl ?_
      refine J.aload_n 2 dL_law_1729 rfl rfl ?_
      refine I.callV0i (d' := d - 1) (mi' := mX9_thrown) dL_law_1730 lL_151 eX9_thrown rfl rfl (c_X9_thrown (d := d - 1) hl (by omega)) (show d - 1 + 1 ≤ d from by omega) (Nat.le_of_ble_eq_true rfl) ?_
      refine I.sx hm2.2.2 ?_
      refine J.iload dL_law_1733 rfl ?_
      refine I.icmpS 1740 dL_law_1735 (by decide) ?_
      refine J.iload dL_law_1740 rfl ?_
      refine I.if_ne0 (tgt := 1757) dL_law_1742 (by decide) ?_
      refine J.aload_n 3 dL_law_1745 rfl rfl ?_
      refine I.iconst dL_law_1746 ?_
      refine I.lald0 hε dL_law_1747 ?_
      refine J.iload dL_law_1748 rfl ?_
      refine J.i2l dL_law_1750 ?_
      refine I.lcmpS dL_law_1751 ?_
      refine I.if_eq0 1757 dL_law_1752 (by decide) ?_
      refine J.goto 2839 dL_law_1757 (by decide) ?_
      refine J.fgt (L' := [some (.ref 2000000), some (.ref 0), some (.ref 137), some (.ref 142), some (.ref 143), some (.int (iI (i : Int))), none, none, none]) (by exact ⟨Or.inr rfl, Or.inr rfl, Or.inr rfl, Or.inr rfl, Or.inr rfl, Or.inr rfl, Or.inl rfl, Or.inl rfl, Or.inl rfl, trivial⟩) ?_
      exact J.mono (kx s2 _ _ (j) (hc.1.hi hm2.2.1) hm2.1) (fun _ _ h => h) (fun _ _ h => h) ⟨show d ≤ d from Nat.le_refl d, by show mc ≤ mc + 2 - 1; omega, by show ms ≤ ms + 12 - 6; omega⟩
    · exact absurd hcond hm
  · skip
    obtain ⟨hcond, e1⟩ := hx
    have hc : CI s1 a ∧ HiE s s1 := by subst e1; exact ⟨h, fun _ _ _ => rfl⟩
    have m1 : MI s1 a := m.lo hc.2
    refine J.aload_n 2 dL_law_1717 rfl rfl ?_
    refine J.aload_n 0 dL_law_1718 rfl rfl ?_
    refine J.iload dL_law_1719 rfl ?_
    refine I.iconst dL_law_1721 ?_
    refine I.add dL_law_1722 ?_
    refine I.sld (j := i + 1) hsc (by omega) (by omega) hL dL_law_1723 ?_
    refine I.callV1q (d' := d - 1) (mi' := mX9_loggedScore) dL_law_1724 lL_270 eX9_loggedScore rfl rfl (c_X9_loggedScore (d := d - 1) hl (by omega) (m1.w j) (iI_rng _)) (show d - 1 + 1 ≤ d from by omega) (Nat.le_of_ble_eq_true rfl) ?_
    rintro w9 s2 h2
    rcases h2 with ⟨hm, rfl, e2⟩ | ⟨hm, e2⟩
    · exact absurd hm hcond
    · skip
      have hm2 : MI s2 a ∧ LoE s1 s2 ∧ s2 137 0 = 1 := by subst e2; exact ⟨m1.th, fun q i hq => up_ne (by omega), up_eq _ _ _ _⟩
      refine J.istore dL_law_1727 (by decide) rfl ?_
      refine J.aload_n 2 dL_law_1729 rfl rfl ?_
      refine I.callV0i (d' := d - 1) (mi' := mX9_thrown) dL_law_1730 lL_151 eX9_thrown rfl rfl (c_X9_thrown (d := d - 1) hl (by omega)) (show d - 1 + 1 ≤ d from by omega) (Nat.le_of_ble_eq_true rfl) ?_
      refine I.sx hm2.2.2 ?_
      refine J.iload dL_law_1733 rfl ?_
      refine I.icmpS 1740 dL_law_1735 (by decide) ?_
      refine J.iload dL_law_1740 rfl ?_
      refine I.if_ne1 (Or.inl rfl) 1757 dL_law_1742 (by decide) ?_
      refine J.goto 2839 dL_law_1757 (by decide) ?_
      refine J.fgt (L' := [some (.ref 2000000), some (.ref 0), some (.ref 137), some (.ref 142), some (.ref 143), some (.int (iI (i : Int))), none, none, none]) (by exact ⟨Or.inr rfl, Or.inr rfl, Or.inr rfl, Or.inr rfl, Or.inr rfl, Or.inr rfl, Or.inl rfl, Or.inl rfl, Or.inl rfl, trivial⟩) ?_
      exact J.mono (kx s2 _ _ (j) (hc.1.hi hm2.2.1) hm2.1) (fun _ _ h => h) (fun _ _ h => h) ⟨show d ≤ d from Nat.le_refl d, by show mc ≤ mc + 2 - 1; omega, by show ms ≤ ms + 12 - 6; omega⟩
  · exact absurd hx id
set_option maxHeartbeats 4000000 in
theorem lc_34 {Γ : jE} (hl : Γ.1.stackTraces = false) {Ls : Nat} {xs : Nat → Int32} (hsc : Γ.2.2 = some (Ls, xs)) {s : Nat → Int → Int} {ε : jEps} {d i mc ms : Nat} {a : AS} {P : Option Value → jM → Prop} {X : String → jM → Prop} (hd : 131 ≤ d) (hi : i + 6 ≤ Ls) (hL : Ls ≤ 3072) (h : CI s a) (m : MI s a) (j : AI a) (kx : ∀ s' ε' a', AI a' → CI s' a' → MI s' a' → J Γ (d, mc, ms) mL_law 2839 [some (.ref 2000000), some (.ref 0), some (.ref 137), some (.ref 142), some (.ref 143), some (.int (iI (i : Int))), none, none, none] [] (jmem s' ε') P X) : J Γ (d, mc + 2, ms + 12) mL_law 1760 [some (.ref 2000000), some (.ref 0), some (.ref 137), some (.ref 142), some (.ref 143), some (.int (iI (i : Int))), none, none, none] [] (jmem s ε) P X := by
  refine J.aload_n 1 dL_law_1760 rfl rfl ?_
  refine J.aload_n 0 dL_law_1761 rfl rfl ?_
  refine J.iload dL_law_1762 rfl ?_
  refine I.iconst dL_law_1764 ?_
  refine I.add dL_law_1765 ?_
  refine I.sld (j := i + 1) hsc (by omega) (by omega) hL dL_law_1766 ?_
  refine J.aload_n 3 dL_law_1767 rfl rfl ?_
  refine J.callW3 (b' := (d - 1, 1, 6)) (mi' := mL_loggedChain) dL_law_1768 lL_271 eL_loggedChain (c_L_loggedChain (d := d - 1) hl (by omega) h.m (iI_rng _)) (show d - 1 + 1 ≤ d ∧ 1 ≤ mc + 2 ∧ 6 ≤ ms + 12 from ⟨by omega, by omega, by omega⟩) (Nat.le_of_ble_eq_true rfl) ?_
  rintro v M' ⟨s1, ε1, k9, rfl, rfl, hk⟩
  refine J.istore dL_law_1771 (by decide) rfl ?_
  rcases hk with ⟨rfl, r9, hq, hε⟩ | ⟨rfl, hx⟩ | ⟨rfl, hx⟩
  · skip
    obtain ⟨hcond, rfl, e1⟩ := hq
    have hc : CI s1 a ∧ HiE s s1 := by subst e1; exact ⟨h, fun _ _ _ => rfl⟩
    have m1 : MI s1 a := m.lo hc.2
    refine J.aload_n 2 dL_law_1773 rfl rfl ?_
    refine J.aload_n 0 dL_law_1774 rfl rfl ?_
    refine J.iload dL_law_1775 rfl ?_
    refine I.iconst dL_law_1777 ?_
    refine I.add dL_law_1778 ?_
    refine I.sld (j := i + 1) hsc (by omega) (by omega) hL dL_law_1779 ?_
    refine I.callV1q (d' := d - 1) (mi' := mX9_loggedChain) dL_law_1780 lL_273 eX9_loggedChain rfl rfl (c_X9_loggedChain (d := d - 1) hl (by omega) (m1.w j) (iI_rng _)) (show d - 1 + 1 ≤ d from by omega) (Nat.le_of_ble_eq_true rfl) ?_
    rintro w9 s2 h2
    rcases h2 with ⟨hm, rfl, e2⟩ | ⟨hm, e2⟩
    · skip
      have hm2 : MI s2 a ∧ LoE s1 s2 ∧ s2 137 0 = 0 := by subst e2; exact ⟨m1.th, fun q i hq => up_ne (by omega), up_eq _ _ _ _⟩
      refine J.istore dL_law_1783 (by decide) rfl ?_
      refine J.aload_n 2 dL_law_1785 rfl rfl ?_
      refine I.callV0i (d' := d - 1) (mi' := mX9_thrown) dL_law_1786 lL_151 eX9_thrown rfl rfl (c_X9_thrown (d := d - 1) hl (by omega)) (show d - 1 + 1 ≤ d from by omega) (Nat.le_of_ble_eq_true rfl) ?_
      refine I.sx hm2.2.2 ?_
      refine J.iload dL_law_1789 rfl ?_
      refine I.icmpS 1796 dL_law_1791 (by decide) ?_
      refine J.iload dL_law_1796 rfl ?_
      refine I.if_ne0 (tgt := 1813) dL_law_1798 (by decide) ?_
      refine J.aload_n 3 dL_law_1801 rfl rfl ?_
      refine I.iconst dL_law_1802 ?_
      refine I.lald0 hε dL_law_1803 ?_
      refine J.iload dL_law_1804 rfl ?_
      refine J.i2l dL_law_1806 ?_
      refine I.lcmpS dL_law_1807 ?_
      refine I.if_eq0 1813 dL_law_1808 (by decide) ?_
      refine J.goto 2839 dL_law_1813 (by decide) ?_
      refine J.fgt (L' := [some (.ref 2000000), some (.ref 0), some (.ref 137), some (.ref 142), some (.ref 143), some (.int (iI (i : Int))), none, none, none]) (by exact ⟨Or.inr rfl, Or.inr rfl, Or.inr rfl, Or.inr rfl, Or.inr rfl, Or.inr rfl, Or.inl rfl, Or.inl rfl, Or.inl rfl, trivial⟩) ?_
      exact J.mono (kx s2 _ _ (j) (hc.1.hi hm2.2.1) hm2.1) (fun _ _ h => h) (fun _ _ h => h) ⟨show d ≤ d from Nat.le_refl d, by show mc ≤ mc + 2 - 1; omega, by show ms ≤ ms + 12 - 6; omega⟩
    · exact absurd hcond hm
  · skip
    obtain ⟨hcond, e1⟩ := hx
    have hc : CI s1 a ∧ HiE s s1 := by subst e1; exact ⟨h, fun _ _ _ => rfl⟩
    have m1 : MI s1 a := m.lo hc.2
    refine J.aload_n 2 dL_law_1773 rfl rfl ?_
    refine J.aload_n 0 dL_law_1774 rfl rfl ?_
    refine J.iload dL_law_1775 rfl ?_
    refine I.iconst dL_law_1777 ?_
    refine I.add dL_law_1778 ?_
    refine I.sld (j := i + 1) hsc (by omega) (by omega) hL dL_law_1779 ?_
    refine I.callV1q (d' := d - 1) (mi' := mX9_loggedChain) dL_law_1780 lL_273 eX9_loggedChain rfl rfl (c_X9_loggedChain (d := d - 1) hl (by omega) (m1.w j) (iI_rng _)) (show d - 1 + 1 ≤ d from by omega) (Nat.le_of_ble_eq_true rfl) ?_
    rintro w9 s2 h2
    rcases h2 with ⟨hm, rfl, e2⟩ | ⟨hm, e2⟩
    · exact absurd hm hcond
    · skip
      have hm2 : MI s2 a ∧ LoE s1 s2 ∧ s2 137 0 = 1 := by subst e2; exact ⟨m1.th, fun q i hq => up_ne (by omega), up_eq _ _ _ _⟩
      refine J.istore dL_law_1783 (by decide) rfl ?_
      refine J.aload_n 2 dL_law_1785 rfl rfl ?_
      refine I.callV0i (d' := d - 1) (mi' := mX9_thrown) dL_law_1786 lL_151 eX9_thrown rfl rfl (c_X9_thrown (d := d - 1) hl (by omega)) (show d - 1 + 1 ≤ d from by omega) (Nat.le_of_ble_eq_true rfl) ?_
      refine I.sx hm2.2.2 ?_
      refine J.iload dL_law_1789 rfl ?_
      refine I.icmpS 1796 dL_law_1791 (by decide) ?_
      refine J.iload dL_law_1796 rfl ?_
      refine I.if_ne1 (Or.inl rfl) 1813 dL_law_1798 (by decide) ?_
      refine J.goto 2839 dL_law_1813 (by decide) ?_
      refine J.fgt (L' := [some (.ref 2000000), some (.ref 0), some (.ref 137), some (.ref 142), some (.ref 143), some (.int (iI (i : Int))), none, none, none]) (by exact ⟨Or.inr rfl, Or.inr rfl, Or.inr rfl, Or.inr rfl, Or.inr rfl, Or.inr rfl, Or.inl rfl, Or.inl rfl, Or.inl rfl, trivial⟩) ?_
      exact J.mono (kx s2 _ _ (j) (hc.1.hi hm2.2.1) hm2.1) (fun _ _ h => h) (fun _ _ h => h) ⟨show d ≤ d from Nat.le_refl d, by show mc ≤ mc + 2 - 1; omega, by show ms ≤ ms + 12 - 6; omega⟩
  · exact absurd hx id
set_option maxHeartbeats 4000000 in
theorem lc_35 {Γ : jE} (hl : Γ.1.stackTraces = false) {Ls : Nat} {xs : Nat → Int32} (hsc : Γ.2.2 = some (Ls, xs)) {s : Nat → Int → Int} {ε : jEps} {d i mc ms : Nat} {a : AS} {P : Option Value → jM → Prop} {X : String → jM → Prop} (hd : 131 ≤ d) (hi : i + 6 ≤ Ls) (hL : Ls ≤ 3072) (h : CI s a) (m : MI s a) (j : AI a) (kx : ∀ s' ε' a', AI a' → CI s' a' → MI s' a' → J Γ (d, mc, ms) mL_law 2839 [some (.ref 2000000), some (.ref 0), some (.ref 137), some (.ref 142), some (.ref 143), some (.int (iI (i : Int))), none, none, none] [] (jmem s' ε') P X) : J Γ (d, mc + 2, ms + 12) mL_law 1816 [some (.ref 2000000), some (.ref 0), some (.ref 137), some (.ref 142), some (.ref 143), some (.int (iI (i : Int))), none, none, none] [] (jmem s ε) P X := by
  refine J.aload_n 1 dL_law_1816 rfl rfl ?_
  refine I.callV0i (d' := d - 1) (mi' := mX8_highestEndScore) dL_law_1817 lL_274 eX8_highestEndScore rfl rfl (c_X8_highestEndScore (d := d - 1) hl (by omega) h.m) (show d - 1 + 1 ≤ d from by omega) (Nat.le_of_ble_eq_true rfl) ?_
  obtain ⟨s1, hs1⟩ : ∃ s1, s1 = s := ⟨s, rfl⟩
  rw [← hs1]
  have e1 := hs1.symm
  have hc : CI s1 a ∧ HiE s s1 := by subst e1; exact ⟨h, fun _ _ _ => rfl⟩
  have m1 : MI s1 a := m.lo hc.2
  refine J.aload_n 2 dL_law_1820 rfl rfl ?_
  refine I.callV0i (d' := d - 1) (mi' := mX9_highestEndScore) dL_law_1821 lL_277 eX9_highestEndScore rfl rfl (c_X9_highestEndScore (d := d - 1) hl (by omega) (m1.w j)) (show d - 1 + 1 ≤ d from by omega) (Nat.le_of_ble_eq_true rfl) ?_
  obtain ⟨s2, e2⟩ : ∃ s2, s2 = up s1 137 0 0 := ⟨_, rfl⟩
  rw [← e2]
  have hm2 : MI s2 a ∧ LoE s1 s2 ∧ s2 137 0 = 0 := by subst e2; exact ⟨m1.th, fun q i hq => up_ne (by omega), up_eq _ _ _ _⟩
  refine I.icmpS 2839 dL_law_1824 (by decide) ?_
  refine J.fgt (L' := [some (.ref 2000000), some (.ref 0), some (.ref 137), some (.ref 142), some (.ref 143), some (.int (iI (i : Int))), none, none, none]) (by exact ⟨Or.inr rfl, Or.inr rfl, Or.inr rfl, Or.inr rfl, Or.inr rfl, Or.inr rfl, Or.inl rfl, Or.inl rfl, Or.inl rfl, trivial⟩) ?_
  exact J.mono (kx s2 _ _ (j) (hc.1.hi hm2.2.1) hm2.1) (fun _ _ h => h) (fun _ _ h => h) ⟨show d ≤ d from Nat.le_refl d, by show mc ≤ mc + 2 - 0; omega, by show ms ≤ ms + 12 - 0; omega⟩
set_option maxHeartbeats 4000000 in
theorem lc_36 {Γ : jE} (hl : Γ.1.stackTraces = false) {Ls : Nat} {xs : Nat → Int32} (hsc : Γ.2.2 = some (Ls, xs)) {s : Nat → Int → Int} {ε : jEps} {d i mc ms : Nat} {a : AS} {P : Option Value → jM → Prop} {X : String → jM → Prop} (hd : 131 ≤ d) (hi : i + 6 ≤ Ls) (hL : Ls ≤ 3072) (h : CI s a) (m : MI s a) (j : AI a) (kx : ∀ s' ε' a', AI a' → CI s' a' → MI s' a' → J Γ (d, mc, ms) mL_law 2839 [some (.ref 2000000), some (.ref 0), some (.ref 137), some (.ref 142), some (.ref 143), some (.int (iI (i : Int))), none, none, none] [] (jmem s' ε') P X) : J Γ (d, mc + 2, ms + 12) mL_law 1829 [some (.ref 2000000), some (.ref 0), some (.ref 137), some (.ref 142), some (.ref 143), some (.int (iI (i : Int))), none, none, none] [] (jmem s ε) P X := by
  refine J.aload_n 1 dL_law_1829 rfl rfl ?_
  refine I.callV0i (d' := d - 1) (mi' := mX8_burnsLeft) dL_law_1830 lL_278 eX8_burnsLeft rfl rfl (c_X8_burnsLeft (d := d - 1) hl (by omega) h.m) (show d - 1 + 1 ≤ d from by omega) (Nat.le_of_ble_eq_true rfl) ?_
  obtain ⟨s1, hs1⟩ : ∃ s1, s1 = s := ⟨s, rfl⟩
  rw [← hs1]
  have e1 := hs1.symm
  have hc : CI s1 a ∧ HiE s s1 := by subst e1; exact ⟨h, fun _ _ _ => rfl⟩
  have m1 : MI s1 a := m.lo hc.2
  refine J.aload_n 2 dL_law_1833 rfl rfl ?_
  refine I.callV0i (d' := d - 1) (mi' := mX9_burnsLeft) dL_law_1834 lL_281 eX9_burnsLeft rfl rfl (c_X9_burnsLeft (d := d - 1) hl (by omega) (m1.w j)) (show d - 1 + 1 ≤ d from by omega) (Nat.le_of_ble_eq_true rfl) ?_
  obtain ⟨s2, e2⟩ : ∃ s2, s2 = up s1 137 0 0 := ⟨_, rfl⟩
  rw [← e2]
  have hm2 : MI s2 a ∧ LoE s1 s2 ∧ s2 137 0 = 0 := by subst e2; exact ⟨m1.th, fun q i hq => up_ne (by omega), up_eq _ _ _ _⟩
  refine I.icmpS 2839 dL_law_1837 (by decide) ?_
  refine J.fgt (L' := [some (.ref 2000000), some (.ref 0), some (.ref 137), some (.ref 142), some (.ref 143), some (.int (iI (i : Int))), none, none, none]) (by exact ⟨Or.inr rfl, Or.inr rfl, Or.inr rfl, Or.inr rfl, Or.inr rfl, Or.inr rfl, Or.inl rfl, Or.inl rfl, Or.inl rfl, trivial⟩) ?_
  exact J.mono (kx s2 _ _ (j) (hc.1.hi hm2.2.1) hm2.1) (fun _ _ h => h) (fun _ _ h => h) ⟨show d ≤ d from Nat.le_refl d, by show mc ≤ mc + 2 - 0; omega, by show ms ≤ ms + 12 - 0; omega⟩
set_option maxHeartbeats 4000000 in
theorem lc_37 {Γ : jE} (hl : Γ.1.stackTraces = false) {Ls : Nat} {xs : Nat → Int32} (hsc : Γ.2.2 = some (Ls, xs)) {s : Nat → Int → Int} {ε : jEps} {d i mc ms : Nat} {a : AS} {P : Option Value → jM → Prop} {X : String → jM → Prop} (hd : 131 ≤ d) (hi : i + 6 ≤ Ls) (hL : Ls ≤ 3072) (h : CI s a) (m : MI s a) (j : AI a) (kx : ∀ s' ε' a', AI a' → CI s' a' → MI s' a' → J Γ (d, mc, ms) mL_law 2839 [some (.ref 2000000), some (.ref 0), some (.ref 137), some (.ref 142), some (.ref 143), some (.int (iI (i : Int))), none, none, none] [] (jmem s' ε') P X) : J Γ (d, mc + 2, ms + 12) mL_law 1842 [some (.ref 2000000), some (.ref 0), some (.ref 137), some (.ref 142), some (.ref 143), some (.int (iI (i : Int))), none, none, none] [] (jmem s ε) P X := by
  refine J.aload_n 1 dL_law_1842 rfl rfl ?_
  refine J.aload_n 0 dL_law_1843 rfl rfl ?_
  refine J.iload dL_law_1844 rfl ?_
  refine I.iconst dL_law_1846 ?_
  refine I.add dL_law_1847 ?_
  refine I.sld (j := i + 1) hsc (by omega) (by omega) hL dL_law_1848 ?_
  refine J.aload_n 3 dL_law_1849 rfl rfl ?_
  refine J.callW3 (b' := (d - 1, 1, 6)) (mi' := mL_greatestPossibleScore) dL_law_1850 lL_282 eL_greatestPossibleScore (c_L_greatestPossibleScore (d := d - 1) hl (by omega) h.m (iI_rng _)) (show d - 1 + 1 ≤ d ∧ 1 ≤ mc + 2 ∧ 6 ≤ ms + 12 from ⟨by omega, by omega, by omega⟩) (Nat.le_of_ble_eq_true rfl) ?_
  rintro v M' ⟨s1, ε1, k9, rfl, rfl, hk⟩
  refine J.istore dL_law_1853 (by decide) rfl ?_
  rcases hk with ⟨rfl, r9, hq, hε⟩ | ⟨rfl, hx⟩ | ⟨rfl, hx⟩
  · skip
    obtain ⟨hcond, rfl, e1⟩ := hq
    have hc : CI s1 a ∧ HiE s s1 := by subst e1; exact ⟨h, fun _ _ _ => rfl⟩
    have m1 : MI s1 a := m.lo hc.2
    refine J.aload_n 2 dL_law_1855 rfl rfl ?_
    refine J.aload_n 0 dL_law_1856 rfl rfl ?_
    refine J.iload dL_law_1857 rfl ?_
    refine I.iconst dL_law_1859 ?_
    refine I.add dL_law_1860 ?_
    refine I.sld (j := i + 1) hsc (by omega) (by omega) hL dL_law_1861 ?_
    refine I.callV1q (d' := d - 1) (mi' := mX9_greatestPossibleScore) dL_law_1862 lL_284 eX9_greatestPossibleScore rfl rfl (c_X9_greatestPossibleScore (d := d - 1) hl (by omega) (m1.w j) (iI_rng _)) (show d - 1 + 1 ≤ d from by omega) (Nat.le_of_ble_eq_true rfl) ?_
    rintro w9 s2 h2
    rcases h2 with ⟨hm, rfl, e2⟩ | ⟨hm, e2⟩
    · skip
      have hm2 : MI s2 a ∧ LoE s1 s2 ∧ s2 137 0 = 0 := by subst e2; exact ⟨m1.th, fun q i hq => up_ne (by omega), up_eq _ _ _ _⟩
      refine J.istore dL_law_1865 (by decide) rfl ?_
      refine J.aload_n 2 dL_law_1867 rfl rfl ?_
      refine I.callV0i (d' := d - 1) (mi' := mX9_thrown) dL_law_1868 lL_151 eX9_thrown rfl rfl (c_X9_thrown (d := d - 1) hl (by omega)) (show d - 1 + 1 ≤ d from by omega) (Nat.le_of_ble_eq_true rfl) ?_
      refine I.sx hm2.2.2 ?_
      refine J.iload dL_law_1871 rfl ?_
      refine I.icmpS 1878 dL_law_1873 (by decide) ?_
      refine J.iload dL_law_1878 rfl ?_
      refine I.if_ne0 (tgt := 1895) dL_law_1880 (by decide) ?_
      refine J.aload_n 3 dL_law_1883 rfl rfl ?_
      refine I.iconst dL_law_1884 ?_
      refine I.lald0 hε dL_law_1885 ?_
      refine J.iload dL_law_1886 rfl ?_
      refine J.i2l dL_law_1888 ?_
      refine I.lcmpS dL_law_1889 ?_
      refine I.if_eq0 1895 dL_law_1890 (by decide) ?_
      refine J.goto 2839 dL_law_1895 (by decide) ?_
      refine J.fgt (L' := [some (.ref 2000000), some (.ref 0), some (.ref 137), some (.ref 142), some (.ref 143), some (.int (iI (i : Int))), none, none, none]) (by exact ⟨Or.inr rfl, Or.inr rfl, Or.inr rfl, Or.inr rfl, Or.inr rfl, Or.inr rfl, Or.inl rfl, Or.inl rfl, Or.inl rfl, trivial⟩) ?_
      exact J.mono (kx s2 _ _ (j) (hc.1.hi hm2.2.1) hm2.1) (fun _ _ h => h) (fun _ _ h => h) ⟨show d ≤ d from Nat.le_refl d, by show mc ≤ mc + 2 - 1; omega, by show ms ≤ ms + 12 - 6; omega⟩
    · exact absurd hcond hm
  · skip
    obtain ⟨hcond, e1⟩ := hx
    have hc : CI s1 a ∧ HiE s s1 := by subst e1; exact ⟨h, fun _ _ _ => rfl⟩
    have m1 : MI s1 a := m.lo hc.2
    refine J.aload_n 2 dL_law_1855 rfl rfl ?_
    refine J.aload_n 0 dL_law_1856 rfl rfl ?_
    refine J.iload dL_law_1857 rfl ?_
    refine I.iconst dL_law_1859 ?_
    refine I.add dL_law_1860 ?_
    refine I.sld (j := i + 1) hsc (by omega) (by omega) hL dL_law_1861 ?_
    refine I.callV1q (d' := d - 1) (mi' := mX9_greatestPossibleScore) dL_law_1862 lL_284 eX9_greatestPossibleScore rfl rfl (c_X9_greatestPossibleScore (d := d - 1) hl (by omega) (m1.w j) (iI_rng _)) (show d - 1 + 1 ≤ d from by omega) (Nat.le_of_ble_eq_true rfl) ?_
    rintro w9 s2 h2
    rcases h2 with ⟨hm, rfl, e2⟩ | ⟨hm, e2⟩
    · exact absurd hm hcond
    · skip
      have hm2 : MI s2 a ∧ LoE s1 s2 ∧ s2 137 0 = 1 := by subst e2; exact ⟨m1.th, fun q i hq => up_ne (by omega), up_eq _ _ _ _⟩
      refine J.istore dL_law_1865 (by decide) rfl ?_
      refine J.aload_n 2 dL_law_1867 rfl rfl ?_
      refine I.callV0i (d' := d - 1) (mi' := mX9_thrown) dL_law_1868 lL_151 eX9_thrown rfl rfl (c_X9_thrown (d := d - 1) hl (by omega)) (show d - 1 + 1 ≤ d from by omega) (Nat.le_of_ble_eq_true rfl) ?_
      refine I.sx hm2.2.2 ?_
      refine J.iload dL_law_1871 rfl ?_
      refine I.icmpS 1878 dL_law_1873 (by decide) ?_
      refine J.iload dL_law_1878 rfl ?_
      refine I.if_ne1 (Or.inl rfl) 1895 dL_law_1880 (by decide) ?_
      refine J.goto 2839 dL_law_1895 (by decide) ?_
      refine J.fgt (L' := [some (.ref 2000000), some (.ref 0), some (.ref 137), some (.ref 142), some (.ref 143), some (.int (iI (i : Int))), none, none, none]) (by exact ⟨Or.inr rfl, Or.inr rfl, Or.inr rfl, Or.inr rfl, Or.inr rfl, Or.inr rfl, Or.inl rfl, Or.inl rfl, Or.inl rfl, trivial⟩) ?_
      exact J.mono (kx s2 _ _ (j) (hc.1.hi hm2.2.1) hm2.1) (fun _ _ h => h) (fun _ _ h => h) ⟨show d ≤ d from Nat.le_refl d, by show mc ≤ mc + 2 - 1; omega, by show ms ≤ ms + 12 - 6; omega⟩
  · exact absurd hx id
set_option maxHeartbeats 4000000 in
theorem lc_38 {Γ : jE} (hl : Γ.1.stackTraces = false) {Ls : Nat} {xs : Nat → Int32} (hsc : Γ.2.2 = some (Ls, xs)) {s : Nat → Int → Int} {ε : jEps} {d i mc ms : Nat} {a : AS} {P : Option Value → jM → Prop} {X : String → jM → Prop} (hd : 131 ≤ d) (hi : i + 6 ≤ Ls) (hL : Ls ≤ 3072) (h : CI s a) (m : MI s a) (j : AI a) (kx : ∀ s' ε' a', AI a' → CI s' a' → MI s' a' → J Γ (d, mc, ms) mL_law 2839 [some (.ref 2000000), some (.ref 0), some (.ref 137), some (.ref 142), some (.ref 143), some (.int (iI (i : Int))), none, none, none] [] (jmem s' ε') P X) : J Γ (d, mc + 2, ms + 12) mL_law 1898 [some (.ref 2000000), some (.ref 0), some (.ref 137), some (.ref 142), some (.ref 143), some (.int (iI (i : Int))), none, none, none] [] (jmem s ε) P X := by
  refine J.aload_n 1 dL_law_1898 rfl rfl ?_
  refine J.aload_n 0 dL_law_1899 rfl rfl ?_
  refine J.iload dL_law_1900 rfl ?_
  refine I.iconst dL_law_1902 ?_
  refine I.add dL_law_1903 ?_
  refine I.sld (j := i + 1) hsc (by omega) (by omega) hL dL_law_1904 ?_
  refine J.aload_n 3 dL_law_1905 rfl rfl ?_
  refine J.callW3 (b' := (d - 1, 1, 6)) (mi' := mL_canStillWin) dL_law_1906 lL_285 eL_canStillWin (c_L_canStillWin (d := d - 1) hl (by omega) h.m (iI_rng _)) (show d - 1 + 1 ≤ d ∧ 1 ≤ mc + 2 ∧ 6 ≤ ms + 12 from ⟨by omega, by omega, by omega⟩) (Nat.le_of_ble_eq_true rfl) ?_
  rintro v M' ⟨s1, ε1, k9, rfl, rfl, hk⟩
  refine J.istore dL_law_1909 (by decide) rfl ?_
  rcases hk with ⟨rfl, r9, hq, hε⟩ | ⟨rfl, hx⟩ | ⟨rfl, hx⟩
  · skip
    obtain ⟨hcond, hr, e1⟩ := hq
    have hc : CI s1 a ∧ HiE s s1 := by subst e1; exact ⟨h, fun _ _ _ => rfl⟩
    have m1 : MI s1 a := m.lo hc.2
    refine J.aload_n 2 dL_law_1911 rfl rfl ?_
    refine J.aload_n 0 dL_law_1912 rfl rfl ?_
    refine J.iload dL_law_1913 rfl ?_
    refine I.iconst dL_law_1915 ?_
    refine I.add dL_law_1916 ?_
    refine I.sld (j := i + 1) hsc (by omega) (by omega) hL dL_law_1917 ?_
    refine I.callV1q (d' := d - 1) (mi' := mX9_canStillWin) dL_law_1918 lL_287 eX9_canStillWin rfl rfl (c_X9_canStillWin (d := d - 1) hl (by omega) (m1.w j) (iI_rng _)) (show d - 1 + 1 ≤ d from by omega) (Nat.le_of_ble_eq_true rfl) ?_
    rintro w9 s2 h2
    rcases h2 with ⟨hm, hw, e2⟩ | ⟨hm, e2⟩
    · skip
      have hm2 : MI s2 a ∧ LoE s1 s2 ∧ s2 137 0 = 0 := by subst e2; exact ⟨m1.th, fun q i hq => up_ne (by omega), up_eq _ _ _ _⟩
      refine J.istore dL_law_1921 (by decide) rfl ?_
      refine J.aload_n 2 dL_law_1923 rfl rfl ?_
      refine I.callV0i (d' := d - 1) (mi' := mX9_thrown) dL_law_1924 lL_151 eX9_thrown rfl rfl (c_X9_thrown (d := d - 1) hl (by omega)) (show d - 1 + 1 ≤ d from by omega) (Nat.le_of_ble_eq_true rfl) ?_
      refine I.sx hm2.2.2 ?_
      refine J.iload dL_law_1927 rfl ?_
      refine I.icmpS 1934 dL_law_1929 (by decide) ?_
      refine J.iload dL_law_1934 rfl ?_
      refine I.if_ne0 (tgt := 1958) dL_law_1936 (by decide) ?_
      refine J.aload_n 3 dL_law_1939 rfl rfl ?_
      refine I.iconst dL_law_1940 ?_
      have hε2 : ε1.1 142 0 = (iI w9).toInt64 := hε.trans (by rw [hr.symm.trans hw])
      have hb9 : w9 = 0 ∨ w9 = 1 := by rw [← hw]; exact bI_01 _
      refine I.lald0 hε2 dL_law_1941 ?_
      refine J.iload dL_law_1942 rfl ?_
      rcases hb9 with rfl | rfl
      · skip
        refine I.if_eq0 1951 dL_law_1944 (by decide) ?_
        refine J.lconst (iI 0).toInt64 dL_law_1951 (by decide) ?_
        refine I.lcmpS dL_law_1952 ?_
        refine I.if_eq0 1958 dL_law_1953 (by decide) ?_
        refine J.goto 2839 dL_law_1958 (by decide) ?_
        refine J.fgt (L' := [some (.ref 2000000), some (.ref 0), some (.ref 137), some (.ref 142), some (.ref 143), some (.int (iI (i : Int))), none, none, none]) (by exact ⟨Or.inr rfl, Or.inr rfl, Or.inr rfl, Or.inr rfl, Or.inr rfl, Or.inr rfl, Or.inl rfl, Or.inl rfl, Or.inl rfl, trivial⟩) ?_
        exact J.mono (kx s2 _ _ (j) (hc.1.hi hm2.2.1) hm2.1) (fun _ _ h => h) (fun _ _ h => h) ⟨show d ≤ d from Nat.le_refl d, by show mc ≤ mc + 2 - 1; omega, by show ms ≤ ms + 12 - 6; omega⟩
      · skip
        refine J.if_eq 1951 dL_law_1944 (by decide) (fun hz => absurd hz (by decide)) (fun _ => ?_)
        refine J.lconst (iI 1).toInt64 dL_law_1947 (by decide) ?_
        refine J.goto 1952 dL_law_1948 (by decide) ?_
        refine I.lcmpS dL_law_1952 ?_
        refine I.if_eq0 1958 dL_law_1953 (by decide) ?_
        refine J.goto 2839 dL_law_1958 (by decide) ?_
        refine J.fgt (L' := [some (.ref 2000000), some (.ref 0), some (.ref 137), some (.ref 142), some (.ref 143), some (.int (iI (i : Int))), none, none, none]) (by exact ⟨Or.inr rfl, Or.inr rfl, Or.inr rfl, Or.inr rfl, Or.inr rfl, Or.inr rfl, Or.inl rfl, Or.inl rfl, Or.inl rfl, trivial⟩) ?_
        exact J.mono (kx s2 _ _ (j) (hc.1.hi hm2.2.1) hm2.1) (fun _ _ h => h) (fun _ _ h => h) ⟨show d ≤ d from Nat.le_refl d, by show mc ≤ mc + 2 - 1; omega, by show ms ≤ ms + 12 - 6; omega⟩
    · exact absurd hcond hm
  · skip
    obtain ⟨hcond, e1⟩ := hx
    have hc : CI s1 a ∧ HiE s s1 := by subst e1; exact ⟨h, fun _ _ _ => rfl⟩
    have m1 : MI s1 a := m.lo hc.2
    refine J.aload_n 2 dL_law_1911 rfl rfl ?_
    refine J.aload_n 0 dL_law_1912 rfl rfl ?_
    refine J.iload dL_law_1913 rfl ?_
    refine I.iconst dL_law_1915 ?_
    refine I.add dL_law_1916 ?_
    refine I.sld (j := i + 1) hsc (by omega) (by omega) hL dL_law_1917 ?_
    refine I.callV1q (d' := d - 1) (mi' := mX9_canStillWin) dL_law_1918 lL_287 eX9_canStillWin rfl rfl (c_X9_canStillWin (d := d - 1) hl (by omega) (m1.w j) (iI_rng _)) (show d - 1 + 1 ≤ d from by omega) (Nat.le_of_ble_eq_true rfl) ?_
    rintro w9 s2 h2
    rcases h2 with ⟨hm, hw, e2⟩ | ⟨hm, e2⟩
    · exact absurd hm hcond
    · skip
      have hm2 : MI s2 a ∧ LoE s1 s2 ∧ s2 137 0 = 1 := by subst e2; exact ⟨m1.th, fun q i hq => up_ne (by omega), up_eq _ _ _ _⟩
      refine J.istore dL_law_1921 (by decide) rfl ?_
      refine J.aload_n 2 dL_law_1923 rfl rfl ?_
      refine I.callV0i (d' := d - 1) (mi' := mX9_thrown) dL_law_1924 lL_151 eX9_thrown rfl rfl (c_X9_thrown (d := d - 1) hl (by omega)) (show d - 1 + 1 ≤ d from by omega) (Nat.le_of_ble_eq_true rfl) ?_
      refine I.sx hm2.2.2 ?_
      refine J.iload dL_law_1927 rfl ?_
      refine I.icmpS 1934 dL_law_1929 (by decide) ?_
      refine J.iload dL_law_1934 rfl ?_
      refine I.if_ne1 (Or.inl rfl) 1958 dL_law_1936 (by decide) ?_
      refine J.goto 2839 dL_law_1958 (by decide) ?_
      refine J.fgt (L' := [some (.ref 2000000), some (.ref 0), some (.ref 137), some (.ref 142), some (.ref 143), some (.int (iI (i : Int))), none, none, none]) (by exact ⟨Or.inr rfl, Or.inr rfl, Or.inr rfl, Or.inr rfl, Or.inr rfl, Or.inr rfl, Or.inl rfl, Or.inl rfl, Or.inl rfl, trivial⟩) ?_
      exact J.mono (kx s2 _ _ (j) (hc.1.hi hm2.2.1) hm2.1) (fun _ _ h => h) (fun _ _ h => h) ⟨show d ≤ d from Nat.le_refl d, by show mc ≤ mc + 2 - 1; omega, by show ms ≤ ms + 12 - 6; omega⟩
  · exact absurd hx id
set_option maxHeartbeats 4000000 in
theorem lc_39 {Γ : jE} (hl : Γ.1.stackTraces = false) {Ls : Nat} {xs : Nat → Int32} (hsc : Γ.2.2 = some (Ls, xs)) {s : Nat → Int → Int} {ε : jEps} {d i mc ms : Nat} {a : AS} {P : Option Value → jM → Prop} {X : String → jM → Prop} (hd : 131 ≤ d) (hi : i + 6 ≤ Ls) (hL : Ls ≤ 3072) (h : CI s a) (m : MI s a) (j : AI a) (kx : ∀ s' ε' a', AI a' → CI s' a' → MI s' a' → J Γ (d, mc, ms) mL_law 2839 [some (.ref 2000000), some (.ref 0), some (.ref 137), some (.ref 142), some (.ref 143), some (.int (iI (i : Int))), none, none, none] [] (jmem s' ε') P X) : J Γ (d, mc + 2, ms + 12) mL_law 1961 [some (.ref 2000000), some (.ref 0), some (.ref 137), some (.ref 142), some (.ref 143), some (.int (iI (i : Int))), none, none, none] [] (jmem s ε) P X := by
  refine J.aload_n 1 dL_law_1961 rfl rfl ?_
  refine I.callV0q (d' := d - 1) (mi' := mX8_optimalDifference) dL_law_1962 lL_288 eX8_optimalDifference rfl rfl (c_X8_optimalDifference (d := d - 1) hl (by omega) h.m h.so) (show d - 1 + 1 ≤ d from by omega) (Nat.le_of_ble_eq_true rfl) ?_
  rintro r9 s1 ⟨rfl, e1⟩
  have hc := h.cfr e1
  have m1 : MI s1 a := m.lo hc.2
  refine J.aload_n 2 dL_law_1965 rfl rfl ?_
  refine I.callV0q (d' := d - 1) (mi' := mX9_optimalDifference) dL_law_1966 lL_291 eX9_optimalDifference rfl rfl (c_X9_optimalDifference (d := d - 1) hl (by omega) (m1.w j) m1.1) (show d - 1 + 1 ≤ d from by omega) (Nat.le_of_ble_eq_true rfl) ?_
  rintro w9 s2 ⟨rfl, e2⟩
  have hm2 : MI s2 a ∧ LoE s1 s2 ∧ s2 137 0 = 0 := ⟨(m1.mfr e2).1, (m1.mfr e2).2, e2.2.2.2.1⟩
  refine I.icmpS 2839 dL_law_1969 (by decide) ?_
  refine J.fgt (L' := [some (.ref 2000000), some (.ref 0), some (.ref 137), some (.ref 142), some (.ref 143), some (.int (iI (i : Int))), none, none, none]) (by exact ⟨Or.inr rfl, Or.inr rfl, Or.inr rfl, Or.inr rfl, Or.inr rfl, Or.inr rfl, Or.inl rfl, Or.inl rfl, Or.inl rfl, trivial⟩) ?_
  exact J.mono (kx s2 _ _ (j) (hc.1.hi hm2.2.1) hm2.1) (fun _ _ h => h) (fun _ _ h => h) ⟨show d ≤ d from Nat.le_refl d, by show mc ≤ mc + 2 - 0; omega, by show ms ≤ ms + 12 - 0; omega⟩
set_option maxHeartbeats 4000000 in
theorem lc_40 {Γ : jE} (hl : Γ.1.stackTraces = false) {Ls : Nat} {xs : Nat → Int32} (hsc : Γ.2.2 = some (Ls, xs)) {s : Nat → Int → Int} {ε : jEps} {d i mc ms : Nat} {a : AS} {P : Option Value → jM → Prop} {X : String → jM → Prop} (hd : 131 ≤ d) (hi : i + 6 ≤ Ls) (hL : Ls ≤ 3072) (h : CI s a) (m : MI s a) (j : AI a) (kx : ∀ s' ε' a', AI a' → CI s' a' → MI s' a' → J Γ (d, mc, ms) mL_law 2839 [some (.ref 2000000), some (.ref 0), some (.ref 137), some (.ref 142), some (.ref 143), some (.int (iI (i : Int))), none, none, none] [] (jmem s' ε') P X) : J Γ (d, mc + 2, ms + 12) mL_law 1974 [some (.ref 2000000), some (.ref 0), some (.ref 137), some (.ref 142), some (.ref 143), some (.int (iI (i : Int))), none, none, none] [] (jmem s ε) P X := by
  refine J.aload_n 1 dL_law_1974 rfl rfl ?_
  refine J.aload_n 0 dL_law_1975 rfl rfl ?_
  refine J.iload dL_law_1976 rfl ?_
  refine I.iconst dL_law_1978 ?_
  refine I.add dL_law_1979 ?_
  refine I.sld (j := i + 1) hsc (by omega) (by omega) hL dL_law_1980 ?_
  refine J.aload_n 3 dL_law_1981 rfl rfl ?_
  refine J.callW3 (b' := (d - 1, 1, 6)) (mi' := mL_moveValue) dL_law_1982 lL_292 eL_moveValue (c_L_moveValue (d := d - 1) hl (by omega) h.m h.so (iI_rng _)) (show d - 1 + 1 ≤ d ∧ 1 ≤ mc + 2 ∧ 6 ≤ ms + 12 from ⟨by omega, by omega, by omega⟩) (Nat.le_of_ble_eq_true rfl) ?_
  rintro v M' ⟨s1, ε1, k9, rfl, rfl, hk⟩
  refine J.istore dL_law_1985 (by decide) rfl ?_
  rcases hk with ⟨rfl, r9, hq, hε⟩ | ⟨rfl, hx⟩ | ⟨rfl, hx⟩
  · skip
    obtain ⟨hcond, rfl, e1⟩ := hq
    have hc := h.cfr e1
    have m1 : MI s1 a := m.lo hc.2
    refine J.aload_n 2 dL_law_1987 rfl rfl ?_
    refine J.aload_n 0 dL_law_1988 rfl rfl ?_
    refine J.iload dL_law_1989 rfl ?_
    refine I.iconst dL_law_1991 ?_
    refine I.add dL_law_1992 ?_
    refine I.sld (j := i + 1) hsc (by omega) (by omega) hL dL_law_1993 ?_
    refine I.callV1q (d' := d - 1) (mi' := mX9_moveValue) dL_law_1994 lL_294 eX9_moveValue rfl rfl (c_X9_moveValue (d := d - 1) hl (by omega) (m1.w j) m1.1 (iI_rng _)) (show d - 1 + 1 ≤ d from by omega) (Nat.le_of_ble_eq_true rfl) ?_
    rintro w9 s2 h2
    rcases h2 with ⟨hm, rfl, e2⟩ | ⟨hm, e2⟩
    · skip
      have hm2 : MI s2 a ∧ LoE s1 s2 ∧ s2 137 0 = 0 := ⟨(m1.mfr e2).1, (m1.mfr e2).2, e2.2.2.2.1⟩
      refine J.istore dL_law_1997 (by decide) rfl ?_
      refine J.aload_n 2 dL_law_1999 rfl rfl ?_
      refine I.callV0i (d' := d - 1) (mi' := mX9_thrown) dL_law_2000 lL_151 eX9_thrown rfl rfl (c_X9_thrown (d := d - 1) hl (by omega)) (show d - 1 + 1 ≤ d from by omega) (Nat.le_of_ble_eq_true rfl) ?_
      refine I.sx hm2.2.2 ?_
      refine J.iload dL_law_2003 rfl ?_
      refine I.icmpS 2010 dL_law_2005 (by decide) ?_
      refine J.iload dL_law_2010 rfl ?_
      refine I.if_ne0 (tgt := 2027) dL_law_2012 (by decide) ?_
      refine J.aload_n 3 dL_law_2015 rfl rfl ?_
      refine I.iconst dL_law_2016 ?_
      refine I.lald0 hε dL_law_2017 ?_
      refine J.iload dL_law_2018 rfl ?_
      refine J.i2l dL_law_2020 ?_
      refine I.lcmpS dL_law_2021 ?_
      refine I.if_eq0 2027 dL_law_2022 (by decide) ?_
      refine J.goto 2839 dL_law_2027 (by decide) ?_
      refine J.fgt (L' := [some (.ref 2000000), some (.ref 0), some (.ref 137), some (.ref 142), some (.ref 143), some (.int (iI (i : Int))), none, none, none]) (by exact ⟨Or.inr rfl, Or.inr rfl, Or.inr rfl, Or.inr rfl, Or.inr rfl, Or.inr rfl, Or.inl rfl, Or.inl rfl, Or.inl rfl, trivial⟩) ?_
      exact J.mono (kx s2 _ _ (j) (hc.1.hi hm2.2.1) hm2.1) (fun _ _ h => h) (fun _ _ h => h) ⟨show d ≤ d from Nat.le_refl d, by show mc ≤ mc + 2 - 1; omega, by show ms ≤ ms + 12 - 6; omega⟩
    · exact absurd hcond hm
  · skip
    obtain ⟨hcond, e1⟩ := hx
    have hc : CI s1 a ∧ HiE s s1 := by subst e1; exact ⟨h, fun _ _ _ => rfl⟩
    have m1 : MI s1 a := m.lo hc.2
    refine J.aload_n 2 dL_law_1987 rfl rfl ?_
    refine J.aload_n 0 dL_law_1988 rfl rfl ?_
    refine J.iload dL_law_1989 rfl ?_
    refine I.iconst dL_law_1991 ?_
    refine I.add dL_law_1992 ?_
    refine I.sld (j := i + 1) hsc (by omega) (by omega) hL dL_law_1993 ?_
    refine I.callV1q (d' := d - 1) (mi' := mX9_moveValue) dL_law_1994 lL_294 eX9_moveValue rfl rfl (c_X9_moveValue (d := d - 1) hl (by omega) (m1.w j) m1.1 (iI_rng _)) (show d - 1 + 1 ≤ d from by omega) (Nat.le_of_ble_eq_true rfl) ?_
    rintro w9 s2 h2
    rcases h2 with ⟨hm, rfl, e2⟩ | ⟨hm, e2⟩
    · exact absurd hm hcond
    · skip
      have hm2 : MI s2 a ∧ LoE s1 s2 ∧ s2 137 0 = 1 := by subst e2; exact ⟨m1.th, fun q i hq => up_ne (by omega), up_eq _ _ _ _⟩
      refine J.istore dL_law_1997 (by decide) rfl ?_
      refine J.aload_n 2 dL_law_1999 rfl rfl ?_
      refine I.callV0i (d' := d - 1) (mi' := mX9_thrown) dL_law_2000 lL_151 eX9_thrown rfl rfl (c_X9_thrown (d := d - 1) hl (by omega)) (show d - 1 + 1 ≤ d from by omega) (Nat.le_of_ble_eq_true rfl) ?_
      refine I.sx hm2.2.2 ?_
      refine J.iload dL_law_2003 rfl ?_
      refine I.icmpS 2010 dL_law_2005 (by decide) ?_
      refine J.iload dL_law_2010 rfl ?_
      refine I.if_ne1 (Or.inl rfl) 2027 dL_law_2012 (by decide) ?_
      refine J.goto 2839 dL_law_2027 (by decide) ?_
      refine J.fgt (L' := [some (.ref 2000000), some (.ref 0), some (.ref 137), some (.ref 142), some (.ref 143), some (.int (iI (i : Int))), none, none, none]) (by exact ⟨Or.inr rfl, Or.inr rfl, Or.inr rfl, Or.inr rfl, Or.inr rfl, Or.inr rfl, Or.inl rfl, Or.inl rfl, Or.inl rfl, trivial⟩) ?_
      exact J.mono (kx s2 _ _ (j) (hc.1.hi hm2.2.1) hm2.1) (fun _ _ h => h) (fun _ _ h => h) ⟨show d ≤ d from Nat.le_refl d, by show mc ≤ mc + 2 - 1; omega, by show ms ≤ ms + 12 - 6; omega⟩
  · exact absurd hx id
set_option maxHeartbeats 4000000 in
theorem lc_41 {Γ : jE} (hl : Γ.1.stackTraces = false) {Ls : Nat} {xs : Nat → Int32} (hsc : Γ.2.2 = some (Ls, xs)) {s : Nat → Int → Int} {ε : jEps} {d i mc ms : Nat} {a : AS} {P : Option Value → jM → Prop} {X : String → jM → Prop} (hd : 131 ≤ d) (hi : i + 6 ≤ Ls) (hL : Ls ≤ 3072) (h : CI s a) (m : MI s a) (j : AI a) (kx : ∀ s' ε' a', AI a' → CI s' a' → MI s' a' → J Γ (d, mc, ms) mL_law 2839 [some (.ref 2000000), some (.ref 0), some (.ref 137), some (.ref 142), some (.ref 143), some (.int (iI (i : Int))), none, none, none] [] (jmem s' ε') P X) : J Γ (d, mc + 2, ms + 12) mL_law 2030 [some (.ref 2000000), some (.ref 0), some (.ref 137), some (.ref 142), some (.ref 143), some (.int (iI (i : Int))), none, none, none] [] (jmem s ε) P X := by
  refine J.aload_n 1 dL_law_2030 rfl rfl ?_
  refine J.aload_n 3 dL_law_2031 rfl rfl ?_
  refine J.callW2 (b' := (d - 1, 1, 6)) (mi' := mL_optimalMove) dL_law_2032 lL_295 eL_optimalMove (c_L_optimalMove (d := d - 1) hl (by omega) h.m h.so) (show d - 1 + 1 ≤ d ∧ 1 ≤ mc + 2 ∧ 6 ≤ ms + 12 from ⟨by omega, by omega, by omega⟩) (Nat.le_of_ble_eq_true rfl) ?_
  rintro v M' ⟨s1, ε1, k9, rfl, rfl, hk⟩
  refine J.istore dL_law_2035 (by decide) rfl ?_
  rcases hk with ⟨rfl, r9, hq, hε⟩ | ⟨rfl, hx⟩ | ⟨rfl, hx⟩
  · skip
    obtain ⟨hcond, rfl, e1⟩ := hq
    have hc := h.cfr e1
    have m1 : MI s1 a := m.lo hc.2
    refine J.aload_n 2 dL_law_2037 rfl rfl ?_
    refine I.callV0q (d' := d - 1) (mi' := mX9_optimalMove) dL_law_2038 lL_297 eX9_optimalMove rfl rfl (c_X9_optimalMove (d := d - 1) hl (by omega) (m1.w j) m1.1) (show d - 1 + 1 ≤ d from by omega) (Nat.le_of_ble_eq_true rfl) ?_
    rintro w9 s2 h2
    rcases h2 with ⟨hm, rfl, e2⟩ | ⟨hm, e2⟩
    · skip
      have hm2 : MI s2 a ∧ LoE s1 s2 ∧ s2 137 0 = 0 := ⟨(m1.mfr e2).1, (m1.mfr e2).2, e2.2.2.2.1⟩
      refine J.istore dL_law_2041 (by decide) rfl ?_
      refine J.aload_n 2 dL_law_2043 rfl rfl ?_
      refine I.callV0i (d' := d - 1) (mi' := mX9_thrown) dL_law_2044 lL_151 eX9_thrown rfl rfl (c_X9_thrown (d := d - 1) hl (by omega)) (show d - 1 + 1 ≤ d from by omega) (Nat.le_of_ble_eq_true rfl) ?_
      refine I.sx hm2.2.2 ?_
      refine J.iload dL_law_2047 rfl ?_
      refine I.icmpS 2054 dL_law_2049 (by decide) ?_
      refine J.iload dL_law_2054 rfl ?_
      refine I.if_ne0 (tgt := 2071) dL_law_2056 (by decide) ?_
      refine J.aload_n 3 dL_law_2059 rfl rfl ?_
      refine I.iconst dL_law_2060 ?_
      refine I.lald0 hε dL_law_2061 ?_
      refine J.iload dL_law_2062 rfl ?_
      refine J.i2l dL_law_2064 ?_
      refine I.lcmpS dL_law_2065 ?_
      refine I.if_eq0 2071 dL_law_2066 (by decide) ?_
      refine J.goto 2839 dL_law_2071 (by decide) ?_
      refine J.fgt (L' := [some (.ref 2000000), some (.ref 0), some (.ref 137), some (.ref 142), some (.ref 143), some (.int (iI (i : Int))), none, none, none]) (by exact ⟨Or.inr rfl, Or.inr rfl, Or.inr rfl, Or.inr rfl, Or.inr rfl, Or.inr rfl, Or.inl rfl, Or.inl rfl, Or.inl rfl, trivial⟩) ?_
      exact J.mono (kx s2 _ _ (j) (hc.1.hi hm2.2.1) hm2.1) (fun _ _ h => h) (fun _ _ h => h) ⟨show d ≤ d from Nat.le_refl d, by show mc ≤ mc + 2 - 1; omega, by show ms ≤ ms + 12 - 6; omega⟩
    · exact absurd hcond hm
  · skip
    obtain ⟨hcond, e1⟩ := hx
    have hc : CI s1 a ∧ HiE s s1 := by subst e1; exact ⟨h, fun _ _ _ => rfl⟩
    have m1 : MI s1 a := m.lo hc.2
    refine J.aload_n 2 dL_law_2037 rfl rfl ?_
    refine I.callV0q (d' := d - 1) (mi' := mX9_optimalMove) dL_law_2038 lL_297 eX9_optimalMove rfl rfl (c_X9_optimalMove (d := d - 1) hl (by omega) (m1.w j) m1.1) (show d - 1 + 1 ≤ d from by omega) (Nat.le_of_ble_eq_true rfl) ?_
    rintro w9 s2 h2
    rcases h2 with ⟨hm, rfl, e2⟩ | ⟨hm, e2⟩
    · exact absurd hm hcond
    · skip
      have hm2 : MI s2 a ∧ LoE s1 s2 ∧ s2 137 0 = 1 := by subst e2; exact ⟨m1.th, fun q i hq => up_ne (by omega), up_eq _ _ _ _⟩
      refine J.istore dL_law_2041 (by decide) rfl ?_
      refine J.aload_n 2 dL_law_2043 rfl rfl ?_
      refine I.callV0i (d' := d - 1) (mi' := mX9_thrown) dL_law_2044 lL_151 eX9_thrown rfl rfl (c_X9_thrown (d := d - 1) hl (by omega)) (show d - 1 + 1 ≤ d from by omega) (Nat.le_of_ble_eq_true rfl) ?_
      refine I.sx hm2.2.2 ?_
      refine J.iload dL_law_2047 rfl ?_
      refine I.icmpS 2054 dL_law_2049 (by decide) ?_
      refine J.iload dL_law_2054 rfl ?_
      refine I.if_ne1 (Or.inl rfl) 2071 dL_law_2056 (by decide) ?_
      refine J.goto 2839 dL_law_2071 (by decide) ?_
      refine J.fgt (L' := [some (.ref 2000000), some (.ref 0), some (.ref 137), some (.ref 142), some (.ref 143), some (.int (iI (i : Int))), none, none, none]) (by exact ⟨Or.inr rfl, Or.inr rfl, Or.inr rfl, Or.inr rfl, Or.inr rfl, Or.inr rfl, Or.inl rfl, Or.inl rfl, Or.inl rfl, trivial⟩) ?_
      exact J.mono (kx s2 _ _ (j) (hc.1.hi hm2.2.1) hm2.1) (fun _ _ h => h) (fun _ _ h => h) ⟨show d ≤ d from Nat.le_refl d, by show mc ≤ mc + 2 - 1; omega, by show ms ≤ ms + 12 - 6; omega⟩
  · exact absurd hx id
set_option maxHeartbeats 4000000 in
theorem lc_42 {Γ : jE} (hl : Γ.1.stackTraces = false) {Ls : Nat} {xs : Nat → Int32} (hsc : Γ.2.2 = some (Ls, xs)) {s : Nat → Int → Int} {ε : jEps} {d i mc ms : Nat} {a : AS} {P : Option Value → jM → Prop} {X : String → jM → Prop} (hd : 131 ≤ d) (hi : i + 6 ≤ Ls) (hL : Ls ≤ 3072) (h : CI s a) (m : MI s a) (j : AI a) (kx : ∀ s' ε' a', AI a' → CI s' a' → MI s' a' → J Γ (d, mc, ms) mL_law 2839 [some (.ref 2000000), some (.ref 0), some (.ref 137), some (.ref 142), some (.ref 143), some (.int (iI (i : Int))), none, none, none] [] (jmem s' ε') P X) : J Γ (d, mc + 2, ms + 12) mL_law 2074 [some (.ref 2000000), some (.ref 0), some (.ref 137), some (.ref 142), some (.ref 143), some (.int (iI (i : Int))), none, none, none] [] (jmem s ε) P X := by
  refine J.aload_n 1 dL_law_2074 rfl rfl ?_
  refine J.aload_n 3 dL_law_2075 rfl rfl ?_
  refine J.callW2 (b' := (d - 1, 1, 6)) (mi' := mL_worstMove) dL_law_2076 lL_298 eL_worstMove (c_L_worstMove (d := d - 1) hl (by omega) h.m h.so) (show d - 1 + 1 ≤ d ∧ 1 ≤ mc + 2 ∧ 6 ≤ ms + 12 from ⟨by omega, by omega, by omega⟩) (Nat.le_of_ble_eq_true rfl) ?_
  rintro v M' ⟨s1, ε1, k9, rfl, rfl, hk⟩
  refine J.istore dL_law_2079 (by decide) rfl ?_
  rcases hk with ⟨rfl, r9, hq, hε⟩ | ⟨rfl, hx⟩ | ⟨rfl, hx⟩
  · skip
    obtain ⟨hcond, rfl, e1⟩ := hq
    have hc := h.cfr e1
    have m1 : MI s1 a := m.lo hc.2
    refine J.aload_n 2 dL_law_2081 rfl rfl ?_
    refine I.callV0q (d' := d - 1) (mi' := mX9_worstMove) dL_law_2082 lL_300 eX9_worstMove rfl rfl (c_X9_worstMove (d := d - 1) hl (by omega) (m1.w j) m1.1) (show d - 1 + 1 ≤ d from by omega) (Nat.le_of_ble_eq_true rfl) ?_
    rintro w9 s2 h2
    rcases h2 with ⟨hm, rfl, e2⟩ | ⟨hm, e2⟩
    · skip
      have hm2 : MI s2 a ∧ LoE s1 s2 ∧ s2 137 0 = 0 := ⟨(m1.mfr e2).1, (m1.mfr e2).2, e2.2.2.2.1⟩
      refine J.istore dL_law_2085 (by decide) rfl ?_
      refine J.aload_n 2 dL_law_2087 rfl rfl ?_
      refine I.callV0i (d' := d - 1) (mi' := mX9_thrown) dL_law_2088 lL_151 eX9_thrown rfl rfl (c_X9_thrown (d := d - 1) hl (by omega)) (show d - 1 + 1 ≤ d from by omega) (Nat.le_of_ble_eq_true rfl) ?_
      refine I.sx hm2.2.2 ?_
      refine J.iload dL_law_2091 rfl ?_
      refine I.icmpS 2098 dL_law_2093 (by decide) ?_
      refine J.iload dL_law_2098 rfl ?_
      refine I.if_ne0 (tgt := 2115) dL_law_2100 (by decide) ?_
      refine J.aload_n 3 dL_law_2103 rfl rfl ?_
      refine I.iconst dL_law_2104 ?_
      refine I.lald0 hε dL_law_2105 ?_
      refine J.iload dL_law_2106 rfl ?_
      refine J.i2l dL_law_2108 ?_
      refine I.lcmpS dL_law_2109 ?_
      refine I.if_eq0 2115 dL_law_2110 (by decide) ?_
      refine J.goto 2839 dL_law_2115 (by decide) ?_
      refine J.fgt (L' := [some (.ref 2000000), some (.ref 0), some (.ref 137), some (.ref 142), some (.ref 143), some (.int (iI (i : Int))), none, none, none]) (by exact ⟨Or.inr rfl, Or.inr rfl, Or.inr rfl, Or.inr rfl, Or.inr rfl, Or.inr rfl, Or.inl rfl, Or.inl rfl, Or.inl rfl, trivial⟩) ?_
      exact J.mono (kx s2 _ _ (j) (hc.1.hi hm2.2.1) hm2.1) (fun _ _ h => h) (fun _ _ h => h) ⟨show d ≤ d from Nat.le_refl d, by show mc ≤ mc + 2 - 1; omega, by show ms ≤ ms + 12 - 6; omega⟩
    · exact absurd hcond hm
  · skip
    obtain ⟨hcond, e1⟩ := hx
    have hc : CI s1 a ∧ HiE s s1 := by subst e1; exact ⟨h, fun _ _ _ => rfl⟩
    have m1 : MI s1 a := m.lo hc.2
    refine J.aload_n 2 dL_law_2081 rfl rfl ?_
    refine I.callV0q (d' := d - 1) (mi' := mX9_worstMove) dL_law_2082 lL_300 eX9_worstMove rfl rfl (c_X9_worstMove (d := d - 1) hl (by omega) (m1.w j) m1.1) (show d - 1 + 1 ≤ d from by omega) (Nat.le_of_ble_eq_true rfl) ?_
    rintro w9 s2 h2
    rcases h2 with ⟨hm, rfl, e2⟩ | ⟨hm, e2⟩
    · exact absurd hm hcond
    · skip
      have hm2 : MI s2 a ∧ LoE s1 s2 ∧ s2 137 0 = 1 := by subst e2; exact ⟨m1.th, fun q i hq => up_ne (by omega), up_eq _ _ _ _⟩
      refine J.istore dL_law_2085 (by decide) rfl ?_
      refine J.aload_n 2 dL_law_2087 rfl rfl ?_
      refine I.callV0i (d' := d - 1) (mi' := mX9_thrown) dL_law_2088 lL_151 eX9_thrown rfl rfl (c_X9_thrown (d := d - 1) hl (by omega)) (show d - 1 + 1 ≤ d from by omega) (Nat.le_of_ble_eq_true rfl) ?_
      refine I.sx hm2.2.2 ?_
      refine J.iload dL_law_2091 rfl ?_
      refine I.icmpS 2098 dL_law_2093 (by decide) ?_
      refine J.iload dL_law_2098 rfl ?_
      refine I.if_ne1 (Or.inl rfl) 2115 dL_law_2100 (by decide) ?_
      refine J.goto 2839 dL_law_2115 (by decide) ?_
      refine J.fgt (L' := [some (.ref 2000000), some (.ref 0), some (.ref 137), some (.ref 142), some (.ref 143), some (.int (iI (i : Int))), none, none, none]) (by exact ⟨Or.inr rfl, Or.inr rfl, Or.inr rfl, Or.inr rfl, Or.inr rfl, Or.inr rfl, Or.inl rfl, Or.inl rfl, Or.inl rfl, trivial⟩) ?_
      exact J.mono (kx s2 _ _ (j) (hc.1.hi hm2.2.1) hm2.1) (fun _ _ h => h) (fun _ _ h => h) ⟨show d ≤ d from Nat.le_refl d, by show mc ≤ mc + 2 - 1; omega, by show ms ≤ ms + 12 - 6; omega⟩
  · exact absurd hx id
set_option maxHeartbeats 4000000 in
theorem lc_43 {Γ : jE} (hl : Γ.1.stackTraces = false) {Ls : Nat} {xs : Nat → Int32} (hsc : Γ.2.2 = some (Ls, xs)) {s : Nat → Int → Int} {ε : jEps} {d i mc ms : Nat} {a : AS} {P : Option Value → jM → Prop} {X : String → jM → Prop} (hd : 131 ≤ d) (hi : i + 6 ≤ Ls) (hL : Ls ≤ 3072) (h : CI s a) (m : MI s a) (j : AI a) (kx : ∀ s' ε' a', AI a' → CI s' a' → MI s' a' → J Γ (d, mc, ms) mL_law 2839 [some (.ref 2000000), some (.ref 0), some (.ref 137), some (.ref 142), some (.ref 143), some (.int (iI (i : Int))), none, none, none] [] (jmem s' ε') P X) : J Γ (d, mc + 2, ms + 12) mL_law 2118 [some (.ref 2000000), some (.ref 0), some (.ref 137), some (.ref 142), some (.ref 143), some (.int (iI (i : Int))), none, none, none] [] (jmem s ε) P X := by
  refine J.aload_n 1 dL_law_2118 rfl rfl ?_
  refine I.callV0q (d' := d - 1) (mi' := mX8_optimalMoveCount) dL_law_2119 lL_301 eX8_optimalMoveCount rfl rfl (c_X8_optimalMoveCount (d := d - 1) hl (by omega) h.m h.so) (show d - 1 + 1 ≤ d from by omega) (Nat.le_of_ble_eq_true rfl) ?_
  rintro r9 s1 ⟨rfl, e1⟩
  have hc := h.cfr e1
  have m1 : MI s1 a := m.lo hc.2
  refine J.aload_n 2 dL_law_2122 rfl rfl ?_
  refine I.callV0q (d' := d - 1) (mi' := mX9_optimalMoveCount) dL_law_2123 lL_304 eX9_optimalMoveCount rfl rfl (c_X9_optimalMoveCount (d := d - 1) hl (by omega) (m1.w j) m1.1) (show d - 1 + 1 ≤ d from by omega) (Nat.le_of_ble_eq_true rfl) ?_
  rintro w9 s2 ⟨rfl, e2⟩
  have hm2 : MI s2 a ∧ LoE s1 s2 ∧ s2 137 0 = 0 := ⟨(m1.mfr e2).1, (m1.mfr e2).2, e2.2.2.2.1⟩
  refine I.icmpS 2839 dL_law_2126 (by decide) ?_
  refine J.fgt (L' := [some (.ref 2000000), some (.ref 0), some (.ref 137), some (.ref 142), some (.ref 143), some (.int (iI (i : Int))), none, none, none]) (by exact ⟨Or.inr rfl, Or.inr rfl, Or.inr rfl, Or.inr rfl, Or.inr rfl, Or.inr rfl, Or.inl rfl, Or.inl rfl, Or.inl rfl, trivial⟩) ?_
  exact J.mono (kx s2 _ _ (j) (hc.1.hi hm2.2.1) hm2.1) (fun _ _ h => h) (fun _ _ h => h) ⟨show d ≤ d from Nat.le_refl d, by show mc ≤ mc + 2 - 0; omega, by show ms ≤ ms + 12 - 0; omega⟩
set_option maxHeartbeats 4000000 in
theorem lc_44 {Γ : jE} (hl : Γ.1.stackTraces = false) {Ls : Nat} {xs : Nat → Int32} (hsc : Γ.2.2 = some (Ls, xs)) {s : Nat → Int → Int} {ε : jEps} {d i mc ms : Nat} {a : AS} {P : Option Value → jM → Prop} {X : String → jM → Prop} (hd : 131 ≤ d) (hi : i + 6 ≤ Ls) (hL : Ls ≤ 3072) (h : CI s a) (m : MI s a) (j : AI a) (kx : ∀ s' ε' a', AI a' → CI s' a' → MI s' a' → J Γ (d, mc, ms) mL_law 2839 [some (.ref 2000000), some (.ref 0), some (.ref 137), some (.ref 142), some (.ref 143), some (.int (iI (i : Int))), none, none, none] [] (jmem s' ε') P X) : J Γ (d, mc + 2, ms + 12) mL_law 2131 [some (.ref 2000000), some (.ref 0), some (.ref 137), some (.ref 142), some (.ref 143), some (.int (iI (i : Int))), none, none, none] [] (jmem s ε) P X := by
  refine J.aload_n 1 dL_law_2131 rfl rfl ?_
  refine I.callV0q (d' := d - 1) (mi' := mX8_isPassForced) dL_law_2132 lL_305 eX8_isPassForced rfl rfl (c_X8_isPassForced (d := d - 1) hl (by omega) h.m h.so) (show d - 1 + 1 ≤ d from by omega) (Nat.le_of_ble_eq_true rfl) ?_
  rintro r9 s1 ⟨rfl, e1⟩
  have hc := h.cfr e1
  have m1 : MI s1 a := m.lo hc.2
  refine J.aload_n 2 dL_law_2135 rfl rfl ?_
  refine I.callV0q (d' := d - 1) (mi' := mX9_isPassForced) dL_law_2136 lL_308 eX9_isPassForced rfl rfl (c_X9_isPassForced (d := d - 1) hl (by omega) (m1.w j) m1.1) (show d - 1 + 1 ≤ d from by omega) (Nat.le_of_ble_eq_true rfl) ?_
  rintro w9 s2 ⟨rfl, e2⟩
  have hm2 : MI s2 a ∧ LoE s1 s2 ∧ s2 137 0 = 0 := ⟨(m1.mfr e2).1, (m1.mfr e2).2, e2.2.2.2.1⟩
  refine I.icmpS 2839 dL_law_2139 (by decide) ?_
  refine J.fgt (L' := [some (.ref 2000000), some (.ref 0), some (.ref 137), some (.ref 142), some (.ref 143), some (.int (iI (i : Int))), none, none, none]) (by exact ⟨Or.inr rfl, Or.inr rfl, Or.inr rfl, Or.inr rfl, Or.inr rfl, Or.inr rfl, Or.inl rfl, Or.inl rfl, Or.inl rfl, trivial⟩) ?_
  exact J.mono (kx s2 _ _ (j) (hc.1.hi hm2.2.1) hm2.1) (fun _ _ h => h) (fun _ _ h => h) ⟨show d ≤ d from Nat.le_refl d, by show mc ≤ mc + 2 - 0; omega, by show ms ≤ ms + 12 - 0; omega⟩
set_option maxHeartbeats 4000000 in
theorem lc_45 {Γ : jE} (hl : Γ.1.stackTraces = false) {Ls : Nat} {xs : Nat → Int32} (hsc : Γ.2.2 = some (Ls, xs)) {s : Nat → Int → Int} {ε : jEps} {d i mc ms : Nat} {a : AS} {P : Option Value → jM → Prop} {X : String → jM → Prop} (hd : 131 ≤ d) (hi : i + 6 ≤ Ls) (hL : Ls ≤ 3072) (h : CI s a) (m : MI s a) (j : AI a) (kx : ∀ s' ε' a', AI a' → CI s' a' → MI s' a' → J Γ (d, mc, ms) mL_law 2839 [some (.ref 2000000), some (.ref 0), some (.ref 137), some (.ref 142), some (.ref 143), some (.int (iI (i : Int))), none, none, none] [] (jmem s' ε') P X) : J Γ (d, mc + 2, ms + 12) mL_law 2144 [some (.ref 2000000), some (.ref 0), some (.ref 137), some (.ref 142), some (.ref 143), some (.int (iI (i : Int))), none, none, none] [] (jmem s ε) P X := by
  refine J.aload_n 1 dL_law_2144 rfl rfl ?_
  refine I.callV0q (d' := d - 1) (mi' := mX8_optimalLineLength) dL_law_2145 lL_309 eX8_optimalLineLength rfl rfl (c_X8_optimalLineLength (d := d - 1) hl (by omega) h.m h.so) (show d - 1 + 1 ≤ d from by omega) (Nat.le_of_ble_eq_true rfl) ?_
  rintro r9 s1 ⟨rfl, e1⟩
  have hc := h.cfr e1
  have m1 : MI s1 a := m.lo hc.2
  refine J.aload_n 2 dL_law_2148 rfl rfl ?_
  refine I.callV0q (d' := d - 1) (mi' := mX9_optimalLineLength) dL_law_2149 lL_312 eX9_optimalLineLength rfl rfl (c_X9_optimalLineLength (d := d - 1) hl (by omega) (m1.w j) m1.1) (show d - 1 + 1 ≤ d from by omega) (Nat.le_of_ble_eq_true rfl) ?_
  rintro w9 s2 ⟨rfl, e2⟩
  have hm2 : MI s2 a ∧ LoE s1 s2 ∧ s2 137 0 = 0 := ⟨(m1.mfr e2).1, (m1.mfr e2).2, e2.2.2.2.1⟩
  refine I.icmpS 2839 dL_law_2152 (by decide) ?_
  refine J.fgt (L' := [some (.ref 2000000), some (.ref 0), some (.ref 137), some (.ref 142), some (.ref 143), some (.int (iI (i : Int))), none, none, none]) (by exact ⟨Or.inr rfl, Or.inr rfl, Or.inr rfl, Or.inr rfl, Or.inr rfl, Or.inr rfl, Or.inl rfl, Or.inl rfl, Or.inl rfl, trivial⟩) ?_
  exact J.mono (kx s2 _ _ (j) (hc.1.hi hm2.2.1) hm2.1) (fun _ _ h => h) (fun _ _ h => h) ⟨show d ≤ d from Nat.le_refl d, by show mc ≤ mc + 2 - 0; omega, by show ms ≤ ms + 12 - 0; omega⟩
set_option maxHeartbeats 4000000 in
theorem lc_46 {Γ : jE} (hl : Γ.1.stackTraces = false) {Ls : Nat} {xs : Nat → Int32} (hsc : Γ.2.2 = some (Ls, xs)) {s : Nat → Int → Int} {ε : jEps} {d i mc ms : Nat} {a : AS} {P : Option Value → jM → Prop} {X : String → jM → Prop} (hd : 131 ≤ d) (hi : i + 6 ≤ Ls) (hL : Ls ≤ 3072) (h : CI s a) (m : MI s a) (j : AI a) (kx : ∀ s' ε' a', AI a' → CI s' a' → MI s' a' → J Γ (d, mc, ms) mL_law 2839 [some (.ref 2000000), some (.ref 0), some (.ref 137), some (.ref 142), some (.ref 143), some (.int (iI (i : Int))), none, none, none] [] (jmem s' ε') P X) : J Γ (d, mc + 2, ms + 12) mL_law 2157 [some (.ref 2000000), some (.ref 0), some (.ref 137), some (.ref 142), some (.ref 143), some (.int (iI (i : Int))), none, none, none] [] (jmem s ε) P X := by
  refine J.aload_n 1 dL_law_2157 rfl rfl ?_
  refine J.aload_n 0 dL_law_2158 rfl rfl ?_
  refine J.iload dL_law_2159 rfl ?_
  refine I.iconst dL_law_2161 ?_
  refine I.add dL_law_2162 ?_
  refine I.sld (j := i + 1) hsc (by omega) (by omega) hL dL_law_2163 ?_
  refine J.aload_n 3 dL_law_2164 rfl rfl ?_
  refine J.callW3 (b' := (d - 1, 1, 6)) (mi' := mL_optimalLineScore) dL_law_2165 lL_313 eL_optimalLineScore (c_L_optimalLineScore (d := d - 1) hl (by omega) h.m h.so (iI_rng _)) (show d - 1 + 1 ≤ d ∧ 1 ≤ mc + 2 ∧ 6 ≤ ms + 12 from ⟨by omega, by omega, by omega⟩) (Nat.le_of_ble_eq_true rfl) ?_
  rintro v M' ⟨s1, ε1, k9, rfl, rfl, hk⟩
  refine J.istore dL_law_2168 (by decide) rfl ?_
  rcases hk with ⟨rfl, r9, hq, hε⟩ | ⟨rfl, hx⟩ | ⟨rfl, hx⟩
  · skip
    obtain ⟨hcond, rfl, e1⟩ := hq
    have hc := h.cfr e1
    have m1 : MI s1 a := m.lo hc.2
    refine J.aload_n 2 dL_law_2170 rfl rfl ?_
    refine J.aload_n 0 dL_law_2171 rfl rfl ?_
    refine J.iload dL_law_2172 rfl ?_
    refine I.iconst dL_law_2174 ?_
    refine I.add dL_law_2175 ?_
    refine I.sld (j := i + 1) hsc (by omega) (by omega) hL dL_law_2176 ?_
    refine I.callV1q (d' := d - 1) (mi' := mX9_optimalLineScore) dL_law_2177 lL_315 eX9_optimalLineScore rfl rfl (c_X9_optimalLineScore (d := d - 1) hl (by omega) (m1.w j) m1.1 (iI_rng _)) (show d - 1 + 1 ≤ d from by omega) (Nat.le_of_ble_eq_true rfl) ?_
    rintro w9 s2 h2
    rcases h2 with ⟨hm, rfl, e2⟩ | ⟨hm, e2⟩
    · skip
      have hm2 : MI s2 a ∧ LoE s1 s2 ∧ s2 137 0 = 0 := ⟨(m1.mfr e2).1, (m1.mfr e2).2, e2.2.2.2.1⟩
      refine J.istore dL_law_2180 (by decide) rfl ?_
      refine J.aload_n 2 dL_law_2182 rfl rfl ?_
      refine I.callV0i (d' := d - 1) (mi' := mX9_thrown) dL_law_2183 lL_151 eX9_thrown rfl rfl (c_X9_thrown (d := d - 1) hl (by omega)) (show d - 1 + 1 ≤ d from by omega) (Nat.le_of_ble_eq_true rfl) ?_
      refine I.sx hm2.2.2 ?_
      refine J.iload dL_law_2186 rfl ?_
      refine I.icmpS 2193 dL_law_2188 (by decide) ?_
      refine J.iload dL_law_2193 rfl ?_
      refine I.if_ne0 (tgt := 2210) dL_law_2195 (by decide) ?_
      refine J.aload_n 3 dL_law_2198 rfl rfl ?_
      refine I.iconst dL_law_2199 ?_
      refine I.lald0 hε dL_law_2200 ?_
      refine J.iload dL_law_2201 rfl ?_
      refine J.i2l dL_law_2203 ?_
      refine I.lcmpS dL_law_2204 ?_
      refine I.if_eq0 2210 dL_law_2205 (by decide) ?_
      refine J.goto 2839 dL_law_2210 (by decide) ?_
      refine J.fgt (L' := [some (.ref 2000000), some (.ref 0), some (.ref 137), some (.ref 142), some (.ref 143), some (.int (iI (i : Int))), none, none, none]) (by exact ⟨Or.inr rfl, Or.inr rfl, Or.inr rfl, Or.inr rfl, Or.inr rfl, Or.inr rfl, Or.inl rfl, Or.inl rfl, Or.inl rfl, trivial⟩) ?_
      exact J.mono (kx s2 _ _ (j) (hc.1.hi hm2.2.1) hm2.1) (fun _ _ h => h) (fun _ _ h => h) ⟨show d ≤ d from Nat.le_refl d, by show mc ≤ mc + 2 - 1; omega, by show ms ≤ ms + 12 - 6; omega⟩
    · exact absurd hcond hm
  · skip
    obtain ⟨hcond, e1⟩ := hx
    have hc := h.cfr e1
    have m1 : MI s1 a := m.lo hc.2
    refine J.aload_n 2 dL_law_2170 rfl rfl ?_
    refine J.aload_n 0 dL_law_2171 rfl rfl ?_
    refine J.iload dL_law_2172 rfl ?_
    refine I.iconst dL_law_2174 ?_
    refine I.add dL_law_2175 ?_
    refine I.sld (j := i + 1) hsc (by omega) (by omega) hL dL_law_2176 ?_
    refine I.callV1q (d' := d - 1) (mi' := mX9_optimalLineScore) dL_law_2177 lL_315 eX9_optimalLineScore rfl rfl (c_X9_optimalLineScore (d := d - 1) hl (by omega) (m1.w j) m1.1 (iI_rng _)) (show d - 1 + 1 ≤ d from by omega) (Nat.le_of_ble_eq_true rfl) ?_
    rintro w9 s2 h2
    rcases h2 with ⟨hm, rfl, e2⟩ | ⟨hm, e2⟩
    · exact absurd hm hcond
    · skip
      have hm2 : MI s2 a ∧ LoE s1 s2 ∧ s2 137 0 = 1 := ⟨(m1.mfr e2.2).1.keep (fun q i _ _ c _ => (up_ne (by omega)).symm), fun q i hq => (up_ne (by omega)).symm.trans ((m1.mfr e2.2).2 q i hq), e2.1⟩
      refine J.istore dL_law_2180 (by decide) rfl ?_
      refine J.aload_n 2 dL_law_2182 rfl rfl ?_
      refine I.callV0i (d' := d - 1) (mi' := mX9_thrown) dL_law_2183 lL_151 eX9_thrown rfl rfl (c_X9_thrown (d := d - 1) hl (by omega)) (show d - 1 + 1 ≤ d from by omega) (Nat.le_of_ble_eq_true rfl) ?_
      refine I.sx hm2.2.2 ?_
      refine J.iload dL_law_2186 rfl ?_
      refine I.icmpS 2193 dL_law_2188 (by decide) ?_
      refine J.iload dL_law_2193 rfl ?_
      refine I.if_ne1 (Or.inl rfl) 2210 dL_law_2195 (by decide) ?_
      refine J.goto 2839 dL_law_2210 (by decide) ?_
      refine J.fgt (L' := [some (.ref 2000000), some (.ref 0), some (.ref 137), some (.ref 142), some (.ref 143), some (.int (iI (i : Int))), none, none, none]) (by exact ⟨Or.inr rfl, Or.inr rfl, Or.inr rfl, Or.inr rfl, Or.inr rfl, Or.inr rfl, Or.inl rfl, Or.inl rfl, Or.inl rfl, trivial⟩) ?_
      exact J.mono (kx s2 _ _ (j) (hc.1.hi hm2.2.1) hm2.1) (fun _ _ h => h) (fun _ _ h => h) ⟨show d ≤ d from Nat.le_refl d, by show mc ≤ mc + 2 - 1; omega, by show ms ≤ ms + 12 - 6; omega⟩
  · exact absurd hx id
set_option maxHeartbeats 4000000 in
theorem lc_47 {Γ : jE} (hl : Γ.1.stackTraces = false) {Ls : Nat} {xs : Nat → Int32} (hsc : Γ.2.2 = some (Ls, xs)) {s : Nat → Int → Int} {ε : jEps} {d i mc ms : Nat} {a : AS} {P : Option Value → jM → Prop} {X : String → jM → Prop} (hd : 131 ≤ d) (hi : i + 6 ≤ Ls) (hL : Ls ≤ 3072) (h : CI s a) (m : MI s a) (j : AI a) (kx : ∀ s' ε' a', AI a' → CI s' a' → MI s' a' → J Γ (d, mc, ms) mL_law 2839 [some (.ref 2000000), some (.ref 0), some (.ref 137), some (.ref 142), some (.ref 143), some (.int (iI (i : Int))), none, none, none] [] (jmem s' ε') P X) : J Γ (d, mc + 2, ms + 12) mL_law 2213 [some (.ref 2000000), some (.ref 0), some (.ref 137), some (.ref 142), some (.ref 143), some (.int (iI (i : Int))), none, none, none] [] (jmem s ε) P X := by
  refine J.aload_n 1 dL_law_2213 rfl rfl ?_
  refine J.aload_n 0 dL_law_2214 rfl rfl ?_
  refine J.iload dL_law_2215 rfl ?_
  refine I.iconst dL_law_2217 ?_
  refine I.add dL_law_2218 ?_
  refine I.sld (j := i + 1) hsc (by omega) (by omega) hL dL_law_2219 ?_
  refine J.aload_n 3 dL_law_2220 rfl rfl ?_
  refine J.callW3 (b' := (d - 1, 1, 6)) (mi' := mL_chainDifference) dL_law_2221 lL_316 eL_chainDifference (c_L_chainDifference (d := d - 1) hl (by omega) h.m h.so (iI_rng _)) (show d - 1 + 1 ≤ d ∧ 1 ≤ mc + 2 ∧ 6 ≤ ms + 12 from ⟨by omega, by omega, by omega⟩) (Nat.le_of_ble_eq_true rfl) ?_
  rintro v M' ⟨s1, ε1, k9, rfl, rfl, hk⟩
  refine J.istore dL_law_2224 (by decide) rfl ?_
  rcases hk with ⟨rfl, r9, hq, hε⟩ | ⟨rfl, hx⟩ | ⟨rfl, hx⟩
  · skip
    obtain ⟨hcond, rfl, e1⟩ := hq
    have hc := h.cfr e1
    have m1 : MI s1 a := m.lo hc.2
    refine J.aload_n 2 dL_law_2226 rfl rfl ?_
    refine J.aload_n 0 dL_law_2227 rfl rfl ?_
    refine J.iload dL_law_2228 rfl ?_
    refine I.iconst dL_law_2230 ?_
    refine I.add dL_law_2231 ?_
    refine I.sld (j := i + 1) hsc (by omega) (by omega) hL dL_law_2232 ?_
    refine I.callV1q (d' := d - 1) (mi' := mX9_chainDifference) dL_law_2233 lL_318 eX9_chainDifference rfl rfl (c_X9_chainDifference (d := d - 1) hl (by omega) (m1.w j) m1.1 (iI_rng _)) (show d - 1 + 1 ≤ d from by omega) (Nat.le_of_ble_eq_true rfl) ?_
    rintro w9 s2 h2
    rcases h2 with ⟨hm, rfl, e2⟩ | ⟨hm, e2⟩
    · skip
      have hm2 : MI s2 a ∧ LoE s1 s2 ∧ s2 137 0 = 0 := ⟨(m1.mfr e2).1, (m1.mfr e2).2, e2.2.2.2.1⟩
      refine J.istore dL_law_2236 (by decide) rfl ?_
      refine J.aload_n 2 dL_law_2238 rfl rfl ?_
      refine I.callV0i (d' := d - 1) (mi' := mX9_thrown) dL_law_2239 lL_151 eX9_thrown rfl rfl (c_X9_thrown (d := d - 1) hl (by omega)) (show d - 1 + 1 ≤ d from by omega) (Nat.le_of_ble_eq_true rfl) ?_
      refine I.sx hm2.2.2 ?_
      refine J.iload dL_law_2242 rfl ?_
      refine I.icmpS 2249 dL_law_2244 (by decide) ?_
      refine J.iload dL_law_2249 rfl ?_
      refine I.if_ne0 (tgt := 2266) dL_law_2251 (by decide) ?_
      refine J.aload_n 3 dL_law_2254 rfl rfl ?_
      refine I.iconst dL_law_2255 ?_
      refine I.lald0 hε dL_law_2256 ?_
      refine J.iload dL_law_2257 rfl ?_
      refine J.i2l dL_law_2259 ?_
      refine I.lcmpS dL_law_2260 ?_
      refine I.if_eq0 2266 dL_law_2261 (by decide) ?_
      refine J.goto 2839 dL_law_2266 (by decide) ?_
      refine J.fgt (L' := [some (.ref 2000000), some (.ref 0), some (.ref 137), some (.ref 142), some (.ref 143), some (.int (iI (i : Int))), none, none, none]) (by exact ⟨Or.inr rfl, Or.inr rfl, Or.inr rfl, Or.inr rfl, Or.inr rfl, Or.inr rfl, Or.inl rfl, Or.inl rfl, Or.inl rfl, trivial⟩) ?_
      exact J.mono (kx s2 _ _ (j) (hc.1.hi hm2.2.1) hm2.1) (fun _ _ h => h) (fun _ _ h => h) ⟨show d ≤ d from Nat.le_refl d, by show mc ≤ mc + 2 - 1; omega, by show ms ≤ ms + 12 - 6; omega⟩
    · exact absurd hcond hm
  · skip
    obtain ⟨hcond, e1⟩ := hx
    have hc : CI s1 a ∧ HiE s s1 := by subst e1; exact ⟨h, fun _ _ _ => rfl⟩
    have m1 : MI s1 a := m.lo hc.2
    refine J.aload_n 2 dL_law_2226 rfl rfl ?_
    refine J.aload_n 0 dL_law_2227 rfl rfl ?_
    refine J.iload dL_law_2228 rfl ?_
    refine I.iconst dL_law_2230 ?_
    refine I.add dL_law_2231 ?_
    refine I.sld (j := i + 1) hsc (by omega) (by omega) hL dL_law_2232 ?_
    refine I.callV1q (d' := d - 1) (mi' := mX9_chainDifference) dL_law_2233 lL_318 eX9_chainDifference rfl rfl (c_X9_chainDifference (d := d - 1) hl (by omega) (m1.w j) m1.1 (iI_rng _)) (show d - 1 + 1 ≤ d from by omega) (Nat.le_of_ble_eq_true rfl) ?_
    rintro w9 s2 h2
    rcases h2 with ⟨hm, rfl, e2⟩ | ⟨hm, e2⟩
    · exact absurd hm hcond
    · skip
      have hm2 : MI s2 a ∧ LoE s1 s2 ∧ s2 137 0 = 1 := by subst e2; exact ⟨m1.th, fun q i hq => up_ne (by omega), up_eq _ _ _ _⟩
      refine J.istore dL_law_2236 (by decide) rfl ?_
      refine J.aload_n 2 dL_law_2238 rfl rfl ?_
      refine I.callV0i (d' := d - 1) (mi' := mX9_thrown) dL_law_2239 lL_151 eX9_thrown rfl rfl (c_X9_thrown (d := d - 1) hl (by omega)) (show d - 1 + 1 ≤ d from by omega) (Nat.le_of_ble_eq_true rfl) ?_
      refine I.sx hm2.2.2 ?_
      refine J.iload dL_law_2242 rfl ?_
      refine I.icmpS 2249 dL_law_2244 (by decide) ?_
      refine J.iload dL_law_2249 rfl ?_
      refine I.if_ne1 (Or.inl rfl) 2266 dL_law_2251 (by decide) ?_
      refine J.goto 2839 dL_law_2266 (by decide) ?_
      refine J.fgt (L' := [some (.ref 2000000), some (.ref 0), some (.ref 137), some (.ref 142), some (.ref 143), some (.int (iI (i : Int))), none, none, none]) (by exact ⟨Or.inr rfl, Or.inr rfl, Or.inr rfl, Or.inr rfl, Or.inr rfl, Or.inr rfl, Or.inl rfl, Or.inl rfl, Or.inl rfl, trivial⟩) ?_
      exact J.mono (kx s2 _ _ (j) (hc.1.hi hm2.2.1) hm2.1) (fun _ _ h => h) (fun _ _ h => h) ⟨show d ≤ d from Nat.le_refl d, by show mc ≤ mc + 2 - 1; omega, by show ms ≤ ms + 12 - 6; omega⟩
  · exact absurd hx id
