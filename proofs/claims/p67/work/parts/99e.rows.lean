/-! the law's walk: the rows -/
abbrev mLw : jMI := (yL_law, cL_law, 25, some .boolean)
section Z99
variable {Γ : jE} {mi : jMI} {pc : Nat} {L : List (Option Value)} {S : List Value} {P : Option Value → jM → Prop} {X : String → jM → Prop} {dd B C d' β γ : Nat}
variable {sh : List (Nat × Nat)} {t : Nat → Nat → Option Nat} {s : Nat → Int → Int}
theorem Z.pub (hp : PF sh t) {idx : Nat} {mi' : jMI} (As : List Value) {Q : Int → (Nat → Int → Int) → Prop} {X' : String → jM → Prop} (d : decode mi.2.1 pc = .ok (.invokevirtual idx, 3)) (hl : Cond.methodLink mi.1.cls idx mi'.1 ∈ jG) (hs : jVE mi' As.length) (hcl : mi'.1.cls = RX8) (hb : d' + 1 ≤ dd)
    (hc : Con Γ (d', β, γ) mi' (.ref 0 :: As) (jmem s e0) (RQ Q e0) X') (hX : ∀ E M', ¬ X' E M') (hAs : ∀ v ∈ As, ∃ x, v = .int x) (hh : ∀ w s', Q w s' → HiE s s') (hcat : (S.map fun v => v.category).sum ≤ 8)
    (k : ∀ w s', Q w s' → J Γ (dd, B, C) mi (pc + 3) L (.int (iI w) :: S) (jmx sh t s') P X) : J Γ (dd, B + β, C + γ) mi pc L (As.reverse ++ .ref 0 :: S) (jmx sh t s) P X := by
  refine Y.pub hp As d hl hs hcl ⟨hb, by show β ≤ B + β; omega, by show γ ≤ C + γ; omega⟩ hc hX hAs hh hcat fun w s' hq => ?_
  show J Γ (dd, B + β - β, C + γ - γ) _ _ _ _ _ _ _
  rw [Nat.add_sub_cancel, Nat.add_sub_cancel]; exact k w s' hq
theorem Z.wrap (hp : PF sh t) {hh : List (Nat × Nat × Nat × Nat)} {idx : Nat} {mi' : jMI} (As : List Value) {Q : Int → (Nat → Int → Int) → Prop} (d : decode mi.2.1 pc = .ok (.invokestatic idx, 3)) (hl : Cond.methodLink mi.1.cls idx mi'.1 ∈ jG) (hs : jSW mi' hh (As.length + 1)) (hb : d' + 1 ≤ dd)
    (hc : ConW Γ (d', β, γ) mi' hh (.ref 0 :: As) (jmem s e0) (RQ Q e0)) (hAs : ∀ v ∈ As, ∃ x, v = .int x) (hH : ∀ w s', Q w s' → HiE s s') (hcat : (S.map fun v => v.category).sum ≤ 8)
    (k : ∀ w s', Q w s' → J Γ (dd, B, C) mi (pc + 3) L (.int (iI w) :: S) (jmx sh t s') P X) : J Γ (dd, B + β, C + γ) mi pc L ((.ref 0 :: As).reverse ++ S) (jmx sh t s) P X := by
  refine Y.wrap hp As d hl hs ⟨hb, by show β ≤ B + β; omega, by show γ ≤ C + γ; omega⟩ hc hAs hH hcat fun w s' hq => ?_
  show J Γ (dd, B + β - β, C + γ - γ) _ _ _ _ _ _ _
  rw [Nat.add_sub_cancel, Nat.add_sub_cancel]; exact k w s' hq
theorem Z.newI {x : Int} (n N : Nat) (hN : n ≤ N ∧ N < 1000) (d : decode mi.2.1 pc = .ok (.newarray .int, 2)) (hx : x = (n : Int)) (h : XB sh t s) (k : J Γ (dd, B, C) mi (pc + 2) L (.ref sh.length :: S) (jmx (sh ++ [(100, n)]) t s) P X) : J Γ (dd, B + 1, C + N) mi pc L (.int (iI x) :: S) (jmx sh t s) P X := by
  refine Y.newI n d hx (by omega) h ⟨by show 1 ≤ B + 1; omega, by show n ≤ C + N; omega⟩ ?_
  exact J.mono k (fun _ _ h => h) (fun _ _ h => h) ⟨Nat.le_refl _, by show B ≤ B + 1 - 1; omega, by show C ≤ C + N - n; omega⟩
theorem Z.newR {x : Int} {idx : Nat} (n N : Nat) (hN : n ≤ N ∧ N < 1000) (d : decode mi.2.1 pc = .ok (.anewarray idx, 3)) (hl : Cond.classLink mi.1.cls idx "[I" ∈ jG) (hx : x = (n : Int)) (h : XB sh t s) (k : J Γ (dd, B, C) mi (pc + 3) L (.ref sh.length :: S) (jmx (sh ++ [(106, n)]) t s) P X) : J Γ (dd, B + 1, C + N) mi pc L (.int (iI x) :: S) (jmx sh t s) P X := by
  refine Y.newR n d hl hx (by omega) h ⟨by show 1 ≤ B + 1; omega, by show n ≤ C + N; omega⟩ ?_
  exact J.mono k (fun _ _ h => h) (fun _ _ h => h) ⟨Nat.le_refl _, by show B ≤ B + 1 - 1; omega, by show C ≤ C + N - n; omega⟩
theorem J.slack {b' : Nat × Nat × Nat} {M : jM} (h : b'.1 = dd) (h2 : b'.2.1 ≤ B ∧ b'.2.2 ≤ C) (k : J Γ b' mi pc L S M P X) : J Γ (dd, B, C) mi pc L S M P X := J.mono k (fun _ _ h => h) (fun _ _ h => h) ⟨by show b'.1 ≤ dd; omega, h2.1, h2.2⟩
end Z99
theorem LoE.up {s : Nat → Int → Int} {q : Nat} {i x : Int} (h : 137 ≤ q) : LoE s (up s q i x) := fun a j ha => up_ne (Or.inl (by omega))
set_option maxHeartbeats 2000000 in
theorem k_fill {Γ : jE} (hl : Γ.1.stackTraces = false) {dd B C : Nat} {b tn : Int} {n sc en : Nat} {a : AS} {f : Int → Int} {P : Option Value → jM → Prop} (hd : 60 ≤ dd) (ef : aF a = f) (hl' : FL f) (hv' : FS f) {c r : Nat} {sh : List (Nat × Nat)} {t : Nat → Nat → Option Nat} {s0 : Nat → Int → Int} (hp : PF sh t) (hc : c < n) (hnf : (n : Int) = f (18 + f 1)) (hsc : sh[sc]? = some (106, n)) (hτ : t sc (c : Int).toNat = some r) (hr : sh[r]? = some (100, (f (37 + (c : Int)) - f (34 + (c : Int)) + 1).toNat)) (hr7 : 137 ≤ r)
    (kx : ∀ s, XB sh t s → CI s a → (∀ j, 0 ≤ j → j < f (37 + (c : Int)) - f (34 + (c : Int)) + 1 → s r j = gSc (gT f (c : Int) j)) → (∀ q, 137 ≤ q → q ≠ r → s q = s0 q) → J Γ (dd, B, C) mLw 139 [some (.ref 2000000), some (.ref 0), some (.int (iI b)), some (.int (iI tn)), some (.int (iI (n : Int))), some (.ref sc), some (.ref en), some (.int (iI (c : Int))), none, none, none, none, none, none, none, none, none, none, none, none, none, none, none, none, none] [] (jmx sh t s) P X0) :
    ∀ (k : Nat) {i : Int} {s : Nat → Int → Int}, (k : Int) = f (37 + (c : Int)) - f (34 + (c : Int)) + 1 - i → 0 ≤ i → XB sh t s → CI s a → (∀ j, 0 ≤ j → j < i → s r j = gSc (gT f (c : Int) j)) → (∀ q, 137 ≤ q → q ≠ r → s q = s0 q) →
      J Γ (dd, B + 2 * k, C + 12 * k) mLw 105 [some (.ref 2000000), some (.ref 0), some (.int (iI b)), some (.int (iI tn)), some (.int (iI (n : Int))), some (.ref sc), some (.ref en), some (.int (iI (c : Int))), some (.int (iI i)), none, none, none, none, none, none, none, none, none, none, none, none, none, none, none, none] [] (jmx sh t s) P X0 := by
  subst ef
  have hen' := hv'.ends (c : Int) (by omega) (by omega)
  have h8 : aF a (37 + (c : Int)) < 8 := by have := hl'.len (aF a 1) (c : Int) hv'.cur.1 hv'.cur.2 (by omega) (by omega); omega
  have h3 := hl'.ch _ hv'.cur.1 hv'.cur.2
  intro k
  induction k with
  | zero =>
    intro i s hk hi hx p0 hj hk9
    refine J.iload dL_law_105 rfl ?_
    refine J.aload dL_law_107 rfl ?_
    refine J.iload dL_law_109 rfl ?_
    refine Y.raald dL_law_111 hsc (by omega) (by omega) hτ ?_
    refine Y.alen dL_law_112 hr (by decide) ?_
    refine I.icmp_ge 139 dL_law_113 (by decide) (by omega) (by omega) (fun h113 => ?_) (fun h113 => ?_)
    · skip
      exact J.slack rfl ⟨by show B ≤ B + 2 * 0; omega, by show C ≤ C + 12 * 0; omega⟩ (J.fgt (by exact ⟨Or.inr rfl, Or.inr rfl, Or.inr rfl, Or.inr rfl, Or.inr rfl, Or.inr rfl, Or.inr rfl, Or.inr rfl, Or.inl rfl, Or.inl rfl, Or.inl rfl, Or.inl rfl, Or.inl rfl, Or.inl rfl, Or.inl rfl, Or.inl rfl, Or.inl rfl, Or.inl rfl, Or.inl rfl, Or.inl rfl, Or.inl rfl, Or.inl rfl, Or.inl rfl, Or.inl rfl, Or.inl rfl, trivial⟩) (kx s hx p0 (fun j a b => hj j a (by omega)) hk9))
    · exact absurd h113 (by omega)
  | succ k ih =>
    intro i s hk hi hx p0 hj hk9
    rw [show B + 2 * (k + 1) = B + 2 * k + 2 by omega, show C + 12 * (k + 1) = C + 12 * k + 12 by omega]
    refine J.iload dL_law_105 rfl ?_
    refine J.aload dL_law_107 rfl ?_
    refine J.iload dL_law_109 rfl ?_
    refine Y.raald dL_law_111 hsc (by omega) (by omega) hτ ?_
    refine Y.alen dL_law_112 hr (by decide) ?_
    refine I.icmp_ge 139 dL_law_113 (by decide) (by omega) (by omega) (fun h113 => ?_) (fun h113 => ?_)
    · exact absurd h113 (by omega)
    · skip
      refine J.aload dL_law_116 rfl ?_
      refine J.iload dL_law_118 rfl ?_
      refine Y.raald dL_law_120 hsc (by omega) (by omega) hτ ?_
      refine J.iload dL_law_121 rfl ?_
      refine J.aload_n 1 dL_law_123 rfl rfl ?_
      refine J.iload dL_law_124 rfl ?_
      refine J.iload dL_law_126 rfl ?_
      refine I.iconst dL_law_128 ?_
      refine Z.wrap (d' := 40) (β := 2) (γ := 12) (mi' := mL_pips) hp [.int (iI (c : Int)), .int (iI i), .int (iI 2)] dL_law_129 lL_162 eL_pips (by omega) (w_tile hl p0.m (by decide) (by omega) (by omega) ⟨by omega, by omega, by omega⟩) (fun v h => by simp only [List.mem_cons, List.not_mem_nil, or_false] at h; rcases h with rfl | rfl | rfl <;> exact ⟨_, rfl⟩) (fun w s' h => by rw [h.2]; exact HiE.refl) (Nat.le_of_ble_eq_true rfl) ?_
      rintro w s' ⟨rfl, ee⟩
      have ee := ee.symm
      subst ee
      refine Y.iast dL_law_132 hr (by omega) (by omega) ?_
      refine I.iinc dL_law_133 rfl rfl ?_
      refine J.goto 105 dL_law_136 (by decide) ?_
      exact ih (i := i + 1) (by omega) (by omega) (hx.up (get_lt hr)) (p0.hi (LoE.up hr7)) (fun j a b => by by_cases e : j = i; subst e; exact up_eq _ _ _ _; rw [up_ne (Or.inr e)]; exact hj j a (by omega)) (fun q q1 q2 => by funext j; rw [up_ne (Or.inl q2)]; exact congrFun (hk9 q q1 q2) j)
theorem LC.keep {sh sh' : List (Nat × Nat)} {t t' : Nat → Nat → Option Nat} {s s' : Nat → Int → Int} {sc en : Nat} {f : Int → Int} {c : Nat} (h : LC sh t s sc en f c) (hsh : ∀ (q : Nat) (z : Nat × Nat), sh[q]? = some z → sh'[q]? = some z) (ht : t' sc c = t sc c) (hs : ∀ q, 137 ≤ q → q < sh.length → q ≠ en → s' q = s q) (he : s' en (2 * (c : Int)) = s en (2 * (c : Int)) ∧ s' en (2 * (c : Int) + 1) = s en (2 * (c : Int) + 1)) : LC sh' t' s' sc en f c := by
  obtain ⟨h1, h2, r, h3, h4, h5, h6, h7⟩ := h
  exact ⟨he.1.trans h1, he.2.trans h2, r, ht.trans h3, h4, h5, hsh _ _ h6, fun j a b => by rw [hs r h4 (get_lt h6) h5]; exact h7 j a b⟩
set_option maxHeartbeats 4000000 in
theorem k_chainsL {Γ : jE} (hl : Γ.1.stackTraces = false) {dd B C : Nat} {b tn : Int} {n sc en : Nat} {a : AS} {f : Int → Int} {P : Option Value → jM → Prop} {N : Nat} (hN : N ≤ 800000) (hd : 60 ≤ dd) (ef : aF a = f) (hl' : FL f) (hv' : FS f) (hnf : (n : Int) = f (18 + f 1)) (hsc7 : 137 ≤ sc) (hen7 : 137 ≤ en)
    (kx : ∀ sh t s, PF sh t → XB sh t s → CI s a → sh.length ≤ N → LR sh t s sc en n f → J Γ (dd, B, C) mLw 206 [some (.ref 2000000), some (.ref 0), some (.int (iI b)), some (.int (iI tn)), some (.int (iI (n : Int))), some (.ref sc), some (.ref en), none, none, none, none, none, none, none, none, none, none, none, none, none, none, none, none, none, none] [] (jmx sh t s) P X0) :
    ∀ (k : Nat) {c : Nat} {sh : List (Nat × Nat)} {t : Nat → Nat → Option Nat} {s : Nat → Int → Int}, k + c = n → PF sh t → XB sh t s → CI s a → sh.length + 2 * k ≤ N → sh[sc]? = some (106, n) → sh[en]? = some (100, 2 * n) → (∀ x, x < c → LC sh t s sc en f x) → (∀ i : Int, 2 * c ≤ i → s en i = 0) →
      J Γ (dd, B + 20 * k, C + 122 * k) mLw 81 [some (.ref 2000000), some (.ref 0), some (.int (iI b)), some (.int (iI tn)), some (.int (iI (n : Int))), some (.ref sc), some (.ref en), some (.int (iI (c : Int))), none, none, none, none, none, none, none, none, none, none, none, none, none, none, none, none, none] [] (jmx sh t s) P X0 := by
  subst ef
  have h3 := hl'.ch _ hv'.cur.1 hv'.cur.2
  intro k
  induction k with
  | zero =>
    intro c sh t s hk hp hx p0 hlen hsc hen hLC hz
    refine J.iload dL_law_81 rfl ?_
    refine J.iload dL_law_83 rfl ?_
    refine I.icmp_ge 206 dL_law_85 (by decide) (by omega) (by omega) (fun h85 => ?_) (fun h85 => ?_)
    · skip
      exact J.slack rfl ⟨by show B ≤ B + 20 * 0; omega, by show C ≤ C + 122 * 0; omega⟩ (J.fgt (by exact ⟨Or.inr rfl, Or.inr rfl, Or.inr rfl, Or.inr rfl, Or.inr rfl, Or.inr rfl, Or.inr rfl, Or.inl rfl, Or.inl rfl, Or.inl rfl, Or.inl rfl, Or.inl rfl, Or.inl rfl, Or.inl rfl, Or.inl rfl, Or.inl rfl, Or.inl rfl, Or.inl rfl, Or.inl rfl, Or.inl rfl, Or.inl rfl, Or.inl rfl, Or.inl rfl, Or.inl rfl, Or.inl rfl, trivial⟩) (kx sh t s hp hx p0 (by omega) ⟨hsc7, hen7, hsc, hen, hnf, fun x hxn => hLC x (by omega)⟩))
    · exact absurd h85 (by omega)
  | succ k ih =>
    intro c sh t s hk hp hx p0 hlen hsc hen hLC hz
    have hen' := hv'.ends (c : Int) (by omega) (by omega)
    have h8 : aF a (37 + (c : Int)) < 8 := by have := hl'.len (aF a 1) (c : Int) hv'.cur.1 hv'.cur.2 (by omega) (by omega); omega
    rw [show B + 20 * (k + 1) = B + 20 * k + 1 + 1 + 16 + 1 + 1 by omega, show C + 122 * (k + 1) = C + 122 * k + 6 + 6 + 96 + 8 + 6 by omega]
    refine J.iload dL_law_81 rfl ?_
    refine J.iload dL_law_83 rfl ?_
    refine I.icmp_ge 206 dL_law_85 (by decide) (by omega) (by omega) (fun h85 => ?_) (fun h85 => ?_)
    · exact absurd h85 (by omega)
    · skip
      refine J.aload dL_law_88 rfl ?_
      refine J.iload dL_law_90 rfl ?_
      refine J.aload_n 1 dL_law_92 rfl rfl ?_
      refine J.iload dL_law_93 rfl ?_
      refine I.iconst dL_law_95 ?_
      refine Z.wrap (d' := 40) (β := 1) (γ := 6) (mi' := mL_chain) hp [.int (iI (c : Int)), .int (iI 0)] dL_law_96 lL_159 eL_chain (by omega) (w_length hl p0.m (by decide) (by omega) ⟨by omega, by omega⟩) (fun v h => by simp only [List.mem_cons, List.not_mem_nil, or_false] at h; rcases h with rfl | rfl <;> exact ⟨_, rfl⟩) (fun w s' h => by rw [h.2]; exact HiE.refl) (Nat.le_of_ble_eq_true rfl) ?_
      rintro w s' ⟨rfl, ee⟩
      have ee := ee.symm
      subst ee
      refine Z.newI (aF a (37 + (c : Int)) - aF a (34 + (c : Int)) + 1).toNat 8 ⟨by omega, by decide⟩ dL_law_99 (by omega) hx ?_
      have hx1 : XB (sh ++ [(100, (aF a (37 + (c : Int)) - aF a (34 + (c : Int)) + 1).toNat)]) t s := hx.app (by omega)
      have l1 : (sh ++ [(100, (aF a (37 + (c : Int)) - aF a (34 + (c : Int)) + 1).toNat)]).length = sh.length + 1 := by rw [List.length_append]; rfl
      have lsc := get_lt hsc
      have len_ := get_lt hen
      refine Y.raast dL_law_101 (get_app hsc) (by omega) (by omega) get_end ?_
      have hτ : jup2 t sc (c : Int).toNat (some sh.length) sc (c : Int).toNat = some sh.length := if_pos ⟨rfl, rfl⟩
      have hp1 : PF (sh ++ [(100, (aF a (37 + (c : Int)) - aF a (34 + (c : Int)) + 1).toNat)]) (jup2 t sc (c : Int).toNat (some sh.length)) := (hp.app).put hsc7
      have hx2 : XB (sh ++ [(100, (aF a (37 + (c : Int)) - aF a (34 + (c : Int)) + 1).toNat)]) (jup2 t sc (c : Int).toNat (some sh.length)) s := hx1.put (by omega)
      refine I.iconst dL_law_102 ?_
      refine J.istore dL_law_103 (by decide) rfl ?_
      refine J.slack (b' := (dd, B + 20 * k + 2 + 2 * (aF a (37 + (c : Int)) - aF a (34 + (c : Int)) + 1).toNat, C + 122 * k + 12 + 12 * (aF a (37 + (c : Int)) - aF a (34 + (c : Int)) + 1).toNat)) rfl ⟨by show B + 20 * k + 2 + 2 * (aF a (37 + (c : Int)) - aF a (34 + (c : Int)) + 1).toNat ≤ B + 20 * k + 18; omega, by show C + 122 * k + 12 + 12 * (aF a (37 + (c : Int)) - aF a (34 + (c : Int)) + 1).toNat ≤ C + 122 * k + 108; omega⟩ ?_
      refine k_fill (B := B + 20 * k + 2) (C := C + 122 * k + 12) hl hd rfl hl' hv' (s0 := s) hp1 (by omega) hnf (get_app hsc) hτ get_end (by have := hp.1; omega) (fun s1 hx3 p3 hj hk9 => ?_) (aF a (37 + (c : Int)) - aF a (34 + (c : Int)) + 1).toNat (i := 0) (by omega) (by omega) hx2 p0 (fun j a b => by omega) (fun q _ _ => rfl)
      refine J.aload dL_law_139 rfl ?_
      refine I.iconst dL_law_141 ?_
      refine J.iload dL_law_142 rfl ?_
      refine I.mul dL_law_144 ?_
      refine I.iconst dL_law_145 ?_
      refine I.add dL_law_146 ?_
      refine J.aload dL_law_147 rfl ?_
      refine J.iload dL_law_149 rfl ?_
      refine Y.raald dL_law_151 (get_app hsc) (by omega) (by omega) hτ ?_
      refine Y.alen dL_law_152 get_end (by decide) ?_
      refine I.iconst dL_law_153 ?_
      refine I.sub dL_law_154 ?_
      refine Y.iast dL_law_155 (get_app hen) (by omega) (by omega) ?_
      refine I.iconst dL_law_156 ?_
      refine J.iload dL_law_157 rfl ?_
      refine I.mul dL_law_159 ?_
      refine Z.newI (2 * n) 6 ⟨by omega, by decide⟩ dL_law_160 (by omega) (hx3.up (by rw [l1]; omega)) ?_
      have hx4 := (hx3.up (q := en) (i := 2 * (c : Int) + 1) (x := (((aF a (37 + (c : Int)) - aF a (34 + (c : Int)) + 1).toNat : Nat) : Int) - 1) (by rw [l1]; omega)).app (z := (100, 2 * n)) (by rw [l1]; omega)
      have l2 : (sh ++ [(100, (aF a (37 + (c : Int)) - aF a (34 + (c : Int)) + 1).toNat)] ++ [(100, 2 * n)]).length = sh.length + 2 := by rw [List.length_append, l1]; rfl
      have p4 := p3.hi (LoE.up (i := 2 * (c : Int) + 1) (x := (((aF a (37 + (c : Int)) - aF a (34 + (c : Int)) + 1).toNat : Nat) : Int) - 1) hen7)
      have hp2 : PF (sh ++ [(100, (aF a (37 + (c : Int)) - aF a (34 + (c : Int)) + 1).toNat)] ++ [(100, 2 * n)]) (jup2 t sc (c : Int).toNat (some sh.length)) := hp1.app
      have hb8 : ∀ i : Int, up s1 en (2 * (c : Int) + 1) ((((aF a (37 + (c : Int)) - aF a (34 + (c : Int)) + 1).toNat : Nat) : Int) - 1) (sh.length + 1) i = 0 := fun i => by rw [up_ne (Or.inl (by omega))]; exact (hx3.2 (sh.length + 1) (by omega)).2 i
      have hsc2 : (sh ++ [(100, (aF a (37 + (c : Int)) - aF a (34 + (c : Int)) + 1).toNat)] ++ [(100, 2 * n)])[sc]? = some (106, n) := get_app (get_app hsc)
      have hen2 : (sh ++ [(100, (aF a (37 + (c : Int)) - aF a (34 + (c : Int)) + 1).toNat)] ++ [(100, 2 * n)])[en]? = some (100, 2 * n) := get_app (get_app hen)
      have h82 : (sh ++ [(100, (aF a (37 + (c : Int)) - aF a (34 + (c : Int)) + 1).toNat)] ++ [(100, 2 * n)])[sh.length + 1]? = some (100, 2 * n) := by have := get_end (l := sh ++ [(100, (aF a (37 + (c : Int)) - aF a (34 + (c : Int)) + 1).toNat)]) (x := (100, 2 * n)); rwa [l1] at this
      have hr2 : (sh ++ [(100, (aF a (37 + (c : Int)) - aF a (34 + (c : Int)) + 1).toNat)] ++ [(100, 2 * n)])[sh.length]? = some (100, (aF a (37 + (c : Int)) - aF a (34 + (c : Int)) + 1).toNat) := get_app get_end
      rw [l1]
      refine J.astore dL_law_162 (by decide) rfl ?_
      refine J.aload dL_law_164 rfl ?_
      refine I.iconst dL_law_166 ?_
      refine J.iload dL_law_167 rfl ?_
      refine I.mul dL_law_169 ?_
      refine I.iconst dL_law_170 ?_
      refine I.add dL_law_171 ?_
      refine J.aload dL_law_172 rfl ?_
      refine J.iload dL_law_174 rfl ?_
      refine Y.raald dL_law_176 hsc2 (by omega) (by omega) hτ ?_
      refine Y.alen dL_law_177 hr2 (by decide) ?_
      refine I.iconst dL_law_178 ?_
      refine I.sub dL_law_179 ?_
      refine Y.iast dL_law_180 h82 (by omega) (by omega) ?_
      have p5 := p4.hi (LoE.up (q := sh.length + 1) (i := 2 * (c : Int) + 1) (x := (((aF a (37 + (c : Int)) - aF a (34 + (c : Int)) + 1).toNat : Nat) : Int) - 1) (by have := hp.1; omega))
      have hx5 := hx4.up (q := sh.length + 1) (i := 2 * (c : Int) + 1) (x := (((aF a (37 + (c : Int)) - aF a (34 + (c : Int)) + 1).toNat : Nat) : Int) - 1) (by rw [l2]; omega)
      generalize e9 : up (up s1 en (2 * (c : Int) + 1) ((((aF a (37 + (c : Int)) - aF a (34 + (c : Int)) + 1).toNat : Nat) : Int) - 1)) (sh.length + 1) (2 * (c : Int) + 1) ((((aF a (37 + (c : Int)) - aF a (34 + (c : Int)) + 1).toNat : Nat) : Int) - 1) = s2 at p5 hx5 ⊢
      refine J.aload_n 1 dL_law_181 rfl rfl ?_
      refine J.iload dL_law_182 rfl ?_
      refine Z.wrap (d' := 40) (β := 1) (γ := 6) (mi' := mL_single) hp2 [.int (iI (c : Int))] dL_law_184 lL_223 eL_single (by omega) (w_single hl p5.m p5.so (by decide) (by omega)) (fun v h => by simp only [List.mem_cons, List.not_mem_nil, or_false] at h; rcases h with rfl; exact ⟨_, rfl⟩) (fun w s' h => by rcases h with ⟨_, _, h⟩ | ⟨_, _, h⟩; exact (p5.cfr h).2; rw [h]; exact HiE.refl) (Nat.le_of_ble_eq_true rfl) ?_
      rintro w s5 (⟨-, e5, h5⟩ | ⟨h, -⟩)
      rotate_left
      · exact absurd ⟨by omega, by omega⟩ h
      obtain ⟨p6, hh⟩ := p5.cfr h5
      have hx6 := hx5.hi hp2 hh
      have fo := hl'.lay (gOnly_lay (c := (c : Int)) (n := aF a (18 + aF a 1)) (by omega))
      have vo := gOnly_FS (c := (c : Int)) (n := aF a (18 + aF a 1)) hl' hv' (Int.le_refl _)
      have rW := gWf_rng fo vo
      have hsq : ∀ q, 137 ≤ q → q ≠ en → q ≠ sh.length + 1 → s5 q = s1 q := fun q q1 q2 q3 => by
        funext j
        rw [hh q j q1, ← e9, up_ne (Or.inl q3), up_ne (Or.inl q2)]
      have hse : ∀ j, s5 en j = if j = 2 * (c : Int) + 1 then aF a (37 + (c : Int)) - aF a (34 + (c : Int)) else s en j := fun j => by
        rw [hh en j hen7, ← e9, up_ne (Or.inl (by omega))]
        by_cases q : j = 2 * (c : Int) + 1
        · rw [q, up_eq, if_pos rfl]; omega
        · rw [up_ne (Or.inr q), if_neg q]; exact congrFun (hk9 en hen7 (by omega)) j
      have hs8 : ∀ j, s5 (sh.length + 1) j = if j = 2 * (c : Int) + 1 then aF a (37 + (c : Int)) - aF a (34 + (c : Int)) else 0 := fun j => by
        rw [hh _ j (by have := hp.1; omega), ← e9]
        by_cases q : j = 2 * (c : Int) + 1
        · rw [q, up_eq, if_pos rfl]; omega
        · rw [up_ne (Or.inr q), if_neg q]; exact hb8 j
      have hT : (c : Int).toNat = c := Int.toNat_natCast c
      have hnew : LC (sh ++ [(100, (aF a (37 + (c : Int)) - aF a (34 + (c : Int)) + 1).toNat)] ++ [(100, 2 * n)]) (jup2 t sc (c : Int).toNat (some sh.length)) s5 sc en (aF a) c := by
        refine ⟨by rw [hse, if_neg (by omega)]; exact hz _ (by omega), by rw [hse, if_pos rfl], sh.length, by rw [hT]; exact if_pos ⟨rfl, rfl⟩, by have := hp.1; omega, by omega, hr2, fun j a b => ?_⟩
        rw [hsq sh.length (by have := hp.1; omega) (by omega) (by omega)]; exact hj j a b
      have hBR := hnew.only (n := n) (e8 := sh.length + 1) (by omega) hnf hl' hv' hsc2 h82 (fun r hr => by rw [hT] at hr; have : some sh.length = some r := (if_pos ⟨rfl, rfl⟩ : jup2 t sc c (some sh.length) sc c = some sh.length).symm.trans hr; cases this; omega) (fun i hi => by rw [hs8, if_neg hi]) (by rw [hs8, if_pos rfl])
      refine J.aload dL_law_187 rfl ?_
      refine J.aload dL_law_189 rfl ?_
      refine I.iconst dL_law_191 ?_
      refine Y.callS (d' := 40) (mi' := mL_best) [.ref sc, .ref (sh.length + 1), .int (iI 0)] dL_law_192 lL_190 eL_best rfl (by show 40 + 1 ≤ dd; omega) (c_best hl 21 40 (by decide) fo vo (gBurns_rng fo vo).2 hBR (Or.inl rfl)) (Nat.le_of_ble_eq_true rfl) ?_
      refine I.icmp_eq 200 dL_law_195 (by decide) (by omega) (by omega) (fun h195 => ?_) (fun h195 => ?_)
      · skip
        refine I.iinc dL_law_200 rfl rfl ?_
        refine J.goto 81 dL_law_203 (by decide) ?_
        rw [show ((c : Int) + 1) = ((c + 1 : Nat) : Int) by omega]
        refine J.fgt (by exact ⟨Or.inr rfl, Or.inr rfl, Or.inr rfl, Or.inr rfl, Or.inr rfl, Or.inr rfl, Or.inr rfl, Or.inr rfl, Or.inl rfl, Or.inl rfl, Or.inl rfl, Or.inl rfl, Or.inl rfl, Or.inl rfl, Or.inl rfl, Or.inl rfl, Or.inl rfl, Or.inl rfl, Or.inl rfl, Or.inl rfl, Or.inl rfl, Or.inl rfl, Or.inl rfl, Or.inl rfl, Or.inl rfl, trivial⟩) (ih (c := c + 1) (by omega) hp2 hx6 p6 (by rw [l2]; omega) hsc2 hen2 (fun x hx => ?_) (fun i hi => by rw [hse, if_neg (by omega)]; exact hz i (by omega)))
        by_cases q : x = c
        · subst q; exact hnew
        · refine (hLC x (by omega)).keep (fun q z h => get_app (get_app h)) ?_ (fun q q1 q2 q3 => ?_) ⟨by rw [hse, if_neg (by omega)], by rw [hse, if_neg (by omega)]⟩
          · rw [hT]; unfold jup2; rw [if_neg (fun h => q h.2)]
          · rw [hsq q q1 q3 (by omega)]; exact hk9 q q1 (by omega)
      · exact absurd h195 (by omega)
