/-! match's loops -/
section Z96
variable {Γ : jE} {mi : jMI} {pc : Nat} {L : List (Option Value)} {S : List Value} {M : jM} {P : Option Value → jM → Prop} {X : String → jM → Prop} {b : Nat × Nat × Nat}
theorem Z.part (hΓ : Γ.1.stackTraces = false) (hc : mi.1.cls = RL) {x : Int32} {n : Int} {idx : Nat} (d : decode mi.2.1 pc = .ok (.invokestatic idx, 3)) (hl : Cond.methodLink mi.1.cls idx yL_part ∈ jG) (hn : 1 ≤ n ∧ n ≤ 1000) (hd : 1 ≤ b.1) (hcat : (S.map fun v => v.category).sum ≤ 8)
    (k : ∀ z : Int, 0 ≤ z ∧ z < n → J Γ b mi (pc + 3) L (.int (iI z) :: S) M P X) : J Γ b mi pc L (.int (iI n) :: .int x :: S) M P X := by
  refine J.callS (b' := (0, 0, 0)) (mi' := mL_part) [.int x, .int (iI n)] d hl eL_part hc.symm ⟨by show 0 + 1 ≤ b.1; omega, Nat.zero_le _, Nat.zero_le _⟩ (c_part hΓ hn) (fun _ _ h => absurd h id) hcat ?_
  rintro w M' ⟨⟨z, rfl, z0, z1⟩, rfl⟩
  exact k z ⟨z0, z1⟩
theorem Z.cell (hΓ : Γ.1.stackTraces = false) (hc : mi.1.cls = RL) {Ls : Nat} {xs : Nat → Int32} (hsc : Γ.2.2 = some (Ls, xs)) (hL : Ls ≤ 3072) {j : Int} (hj : 0 ≤ j ∧ j ≤ 1000) {idx : Nat} (d : decode mi.2.1 pc = .ok (.invokestatic idx, 3)) (hl : Cond.methodLink mi.1.cls idx yL_cell ∈ jG) (hd : 1 ≤ b.1) (hcat : (S.map fun v => v.category).sum ≤ 8)
    (k : ∀ z : Int32, J Γ b mi (pc + 3) L (.int z :: S) M P X) : J Γ b mi pc L (.int (iI j) :: .ref 2000000 :: S) M P X := by
  refine J.callS (b' := (0, 0, 0)) (mi' := mL_cell) [.ref 2000000, .int (iI j)] d hl eL_cell hc.symm ⟨by show 0 + 1 ≤ b.1; omega, Nat.zero_le _, Nat.zero_le _⟩ (c_cell hΓ hsc hL hj) (fun _ _ h => absurd h id) hcat ?_
  rintro w M' ⟨⟨z, rfl⟩, rfl⟩
  exact k z
theorem Z.newZ {sh : List (Nat × Nat)} {τ : Nat → Nat → Option Nat} {s : Nat → Int → Int} {dd B C : Nat} (h : XB sh τ s) {x : Int} (hx : x = 49) (d : decode mi.2.1 pc = .ok (.newarray .boolean, 2))
    (k : J Γ (dd, B, C) mi (pc + 2) L (.ref sh.length :: S) (jmx (sh ++ [(107, 49)]) τ s) P X) : J Γ (dd, B + 1, C + 49) mi pc L (.int (iI x) :: S) (jmx sh τ s) P X := by
  refine Y.newZ 49 d (by omega) (by decide) h ⟨by show 1 ≤ B + 1; omega, by show 49 ≤ C + 49; omega⟩ ?_
  show J Γ (dd, B + 1 - 1, C + 49 - 49) mi (pc + 2) L (.ref sh.length :: S) (jmx (sh ++ [(107, 49)]) τ s) P X
  rw [Nat.add_sub_cancel, Nat.add_sub_cancel]
  exact k
end Z96
section M96
variable {sh0 sh : List (Nat × Nat)} {t0 t : Nat → Nat → Option Nat} {s0 s : Nat → Int → Int} {q B : Nat} {W m : Int} {T : Int → Int}
theorem MTX.len (h : MTX sh0 t0 s0 q B W sh t s T m) : sh0.length ≤ sh.length := by
  obtain ⟨v, cap, h1, h2, h3, ⟨ext, h4⟩, h5⟩ := h
  rw [h4, List.length_append]; omega
theorem MTX.xb (h : MTX sh0 t0 s0 q B W sh t s T m) : XB sh t s := by obtain ⟨v, cap, h1, h2, h3⟩ := h; exact h2
theorem TSX.free {g : Int → Int} {r n t' p x : Int} {u : Int → Int} (h : TSX T m g r n t' p) (ht : t' = 0) (hn : n = 0) (hH : Had u g r) (hp : 0 ≤ p ∧ p ≤ 6) (hx : 0 ≤ x ∧ x ≤ 6) : u (7 * p + x) = 0 := by
  rcases h with ⟨h1, h2, e, h3⟩ | ⟨h1, h2, h3⟩ | ⟨h1, h2, h3⟩
  · obtain ⟨f1, f2⟩ := hH p x hp.1 hp.2 hx.1 hx.2
    obtain ⟨z0, zr, zc, zg0, zgc, z4⟩ := h3
    rcases f1 with f1 | f1
    · exact f1
    · obtain ⟨c, k, c0, c1, _⟩ := f2.mp f1
      omega
  · omega
  · omega
end M96
theorem k_tile {Γ : jE} (hl : Γ.1.stackTraces = false) {sh0 : List (Nat × Nat)} {t0 : Nat → Nat → Option Nat} {s0 : Nat → Int → Int} {q u dd B C : Nat} {W r n c : Int} {z3 x8 : Int32} {P : Option Value → jM → Prop} {sh : List (Nat × Nat)} {τ : Nat → Nat → Option Nat} {s : Nat → Int → Int} {p t x m : Int} {T g : Int → Int} (hp : 0 ≤ p ∧ p ≤ 6) (hx : 0 ≤ x ∧ x ≤ 6) (ht : 0 ≤ t ∧ t < 5) (hd : 5 ≤ dd) (h : MTX sh0 t0 s0 q (B + 1 + 1 + 1) W sh τ s T m) (hu : sh[u]? = some (107, 49)) (hP : PSX T m g r n t p)
    {uo : Int → Int} (hH : Had uo g r) (h1 : uo (7 * p + x) ≠ 1) (hrow : ∀ i, s u i = if i = 7 * x + p then 1 else if i = 7 * p + x then 1 else uo i)
    (kx : ∀ sh2 t2 s2 T2 m2 g2, MTX sh0 t0 s0 q B W sh2 t2 s2 T2 m2 → sh2[u]? = some (107, 49) → Had (s2 u) g2 r → TSX T2 m2 g2 r n (t + 1) x → J Γ (dd, B, C) mL_match 97 [some (.ref 2000000), some (.int (iI 5)), some (.ref q), some (.int z3), some (.int (iI r)), some (.ref u), some (.int (iI n)), some (.int (iI c)), some (.int x8), some (.int (iI x)), some (.int (iI (t + 1))), some (.int (iI (t + 1))), none, none] [] (jmx sh2 t2 s2) P X0) :
    J Γ (dd, B + 1 + 1 + 1, C + 3000 + 3000 + 3000) mL_match 226 [some (.ref 2000000), some (.int (iI 5)), some (.ref q), some (.int z3), some (.int (iI r)), some (.ref u), some (.int (iI n)), some (.int (iI c)), some (.int x8), some (.int (iI p)), some (.int (iI t)), some (.int (iI t)), some (.int (iI x)), none] [] (jmx sh τ s) P X0 := by
  refine k_pair hl (t := t) hp hx (by omega) hd h fun sh2 t2 s2 h2 k2 => ?_
  obtain ⟨g2, c1, c2, c3⟩ := hP.go ht.2 hp hx hH h1 hrow
  obtain ⟨u1, u2⟩ := k2 u hu
  exact kx sh2 t2 s2 _ _ g2 h2 u1 (by rw [u2]; exact c3) (Or.inr (Or.inr ⟨by omega, c1, c2⟩))
set_option maxHeartbeats 4000000 in
theorem k_tiles {Γ : jE} (hl : Γ.1.stackTraces = false) {sh0 : List (Nat × Nat)} {t0 : Nat → Nat → Option Nat} {s0 : Nat → Int → Int} {q u dd B C : Nat} {W r n c : Int} {z3 x8 : Int32} {P : Option Value → jM → Prop} (hd : 5 ≤ dd) (hu0 : sh0.length ≤ u) (hn : 0 ≤ n ∧ n ≤ 2) (kx : ∀ sh' τ' s' T' m' g' t' p', MTX sh0 t0 s0 q B W sh' τ' s' T' m' → sh'[u]? = some (107, 49) → Had (s' u) g' r → TSX T' m' g' r n t' p' → ¬ (t' = 0 ∧ n = 0) → 0 ≤ t' ∧ t' ≤ 5 → J Γ (dd, B, C) mL_match 256 [some (.ref 2000000), some (.int (iI 5)), some (.ref q), some (.int z3), some (.int (iI r)), some (.ref u), some (.int (iI n)), some (.int (iI c)), some (.int x8), some (.int (iI p')), some (.int (iI t')), some (.int (iI t')), none, none] [] (jmx sh' τ' s') P X0) :
    ∀ (k : Nat) {t p m : Int} {T g : Int → Int} {sh : List (Nat × Nat)} {τ : Nat → Nat → Option Nat} {s : Nat → Int → Int}, (k : Int) = 5 - t → 0 ≤ t → MTX sh0 t0 s0 q (B + 4 * k) W sh τ s T m → sh[u]? = some (107, 49) → Had (s u) g r → TSX T m g r n t p → 0 ≤ p ∧ p ≤ 6 →
      J Γ (dd, B + 4 * k, C + 12000 * k) mL_match 97 [some (.ref 2000000), some (.int (iI 5)), some (.ref q), some (.int z3), some (.int (iI r)), some (.ref u), some (.int (iI n)), some (.int (iI c)), some (.int x8), some (.int (iI p)), some (.int (iI t)), some (.int (iI t)), none, none] [] (jmx sh τ s) P X0 := by
  intro k
  induction k with
  | zero =>
    intro t p m T g sh τ s hk ht hM hu hH hT hp
    refine J.iload dL_match_97 rfl ?_
    refine I.iconst dL_match_99 ?_
    refine J.iload dL_match_100 rfl ?_
    refine I.iconst dL_match_102 ?_
    refine J.ishr dL_match_103 ?_
    refine J.iload_n 1 dL_match_104 rfl rfl ?_
    refine Z.part (n := 5) hl rfl dL_match_105 lL_120 (by omega) (by show 1 ≤ dd; omega) (Nat.le_of_ble_eq_true rfl) fun z105 hz105 => ?_
    refine I.add dL_match_108 ?_
    refine I.icmp_ge 256 dL_match_109 (by decide) (by omega) (by omega) (fun h109 => ?_) (fun h109 => ?_)
    · skip
      exact J.mono (J.fgt (by exact ⟨Or.inr rfl, Or.inr rfl, Or.inr rfl, Or.inr rfl, Or.inr rfl, Or.inr rfl, Or.inr rfl, Or.inr rfl, Or.inr rfl, Or.inr rfl, Or.inr rfl, Or.inr rfl, Or.inl rfl, Or.inl rfl, trivial⟩) (kx sh τ s T m g t p (hM.le (by omega)) hu hH hT (by omega) (by omega))) (fun _ _ h => h) (fun _ _ h => h) ⟨Nat.le_refl _, by show B ≤ B + 4 * 0; omega, by show C ≤ C + 12000 * 0; omega⟩
    · exact absurd h109 (by omega)
  | succ k ih =>
    intro t p m T g sh τ s hk ht hM hu hH hT hp
    have h01 : ∀ i : Int, 0 ≤ i → i < 49 → s u i = 0 ∨ s u i = 1 := fun i i0 i1 => by
      have := (hH (i / 7) (i % 7) (by omega) (by omega) (by omega) (by omega)).1
      rwa [show 7 * (i / 7) + i % 7 = i by omega] at this
    rw [show B + 4 * (k + 1) = B + 4 * k + 1 + 1 + 1 + 1 by omega] at hM ⊢
    rw [show C + 12000 * (k + 1) = C + 12000 * k + 3000 + 3000 + 3000 + 3000 by omega]
    refine J.iload dL_match_97 rfl ?_
    refine I.iconst dL_match_99 ?_
    refine J.iload dL_match_100 rfl ?_
    refine I.iconst dL_match_102 ?_
    refine J.ishr dL_match_103 ?_
    refine J.iload_n 1 dL_match_104 rfl rfl ?_
    refine Z.part (n := 5) hl rfl dL_match_105 lL_120 (by omega) (by show 1 ≤ dd; omega) (Nat.le_of_ble_eq_true rfl) fun z105 hz105 => ?_
    refine I.add dL_match_108 ?_
    refine I.icmp_ge 256 dL_match_109 (by decide) (by omega) (by omega) (fun h109 => ?_) (fun h109 => ?_)
    · skip
      exact J.mono (J.fgt (by exact ⟨Or.inr rfl, Or.inr rfl, Or.inr rfl, Or.inr rfl, Or.inr rfl, Or.inr rfl, Or.inr rfl, Or.inr rfl, Or.inr rfl, Or.inr rfl, Or.inr rfl, Or.inr rfl, Or.inl rfl, Or.inl rfl, trivial⟩) (kx sh τ s T m g t p (hM.le (by omega)) hu hH hT (by omega) (by omega))) (fun _ _ h => h) (fun _ _ h => h) ⟨Nat.le_refl _, by show B ≤ B + 4 * k + 1 + 1 + 1 + 1; omega, by show C ≤ C + 12000 * k + 3000 + 3000 + 3000 + 3000; omega⟩
    · skip
      refine J.iload dL_match_112 rfl ?_
      refine I.bipush dL_match_114 (by decide) ?_
      refine I.iconst dL_match_116 ?_
      refine J.iload dL_match_117 rfl ?_
      refine I.mul dL_match_119 ?_
      refine I.add dL_match_120 ?_
      refine J.ishr dL_match_121 ?_
      refine I.bipush dL_match_122 (by decide) ?_
      refine Z.part (n := 7) hl rfl dL_match_124 lL_120 (by omega) (by show 1 ≤ dd; omega) (Nat.le_of_ble_eq_true rfl) fun z124 hz124 => ?_
      refine J.istore dL_match_127 (by decide) rfl ?_
      refine I.iconst dL_match_129 ?_
      refine J.istore dL_match_130 (by decide) rfl ?_
      refine k_search hl hu h01 hp 7 (j := 0) (x := z124) (by omega) (by omega) (by omega) fun x hx => ?_
      refine J.aload dL_match_168 rfl ?_
      refine I.bipush dL_match_170 (by decide) ?_
      refine J.iload dL_match_172 rfl ?_
      refine I.mul dL_match_174 ?_
      refine J.iload dL_match_175 rfl ?_
      refine I.add dL_match_177 ?_
      have h0 := h01 (7 * p + x) (by omega) (by omega)
      refine Y.zald dL_match_178 hu (by omega) (by omega) ?_
      refine I.if_eq 185 dL_match_179 (by decide) (by omega) (fun h179 => ?_) (fun h179 => ?_)
      · skip
        have hne : s u (7 * p + x) ≠ 1 := by omega
        refine J.aload dL_match_185 rfl ?_
        refine I.bipush dL_match_187 (by decide) ?_
        refine J.iload dL_match_189 rfl ?_
        refine I.mul dL_match_191 ?_
        refine J.iload dL_match_192 rfl ?_
        refine I.add dL_match_194 ?_
        refine I.iconst dL_match_195 ?_
        refine Y.zast dL_match_196 hu (by omega) (by omega) (by decide) ?_
        refine J.aload dL_match_197 rfl ?_
        refine I.bipush dL_match_199 (by decide) ?_
        refine J.iload dL_match_201 rfl ?_
        refine I.mul dL_match_203 ?_
        refine J.iload dL_match_204 rfl ?_
        refine I.add dL_match_206 ?_
        refine I.iconst dL_match_207 ?_
        refine Y.zast dL_match_208 hu (by omega) (by omega) (by decide) ?_
        refine J.iload dL_match_209 rfl ?_
        refine I.if_ne 226 dL_match_211 (by decide) (by omega) (fun h211 => ?_) (fun h211 => ?_)
        · skip
          refine J.mono (b := (dd, B + 4 * k + 1 + 1 + 1, C + 12000 * k + 3000 + 3000 + 3000)) ?_ (fun _ _ h => h) (fun _ _ h => h) ⟨Nat.le_refl _, by show B + 4 * k + 1 + 1 + 1 ≤ B + 4 * k + 1 + 1 + 1 + 1; omega, by show C + 12000 * k + 3000 + 3000 + 3000 ≤ C + 12000 * k + 3000 + 3000 + 3000 + 3000; omega⟩
          exact J.fgt (by exact ⟨Or.inr rfl, Or.inr rfl, Or.inr rfl, Or.inr rfl, Or.inr rfl, Or.inr rfl, Or.inr rfl, Or.inr rfl, Or.inr rfl, Or.inr rfl, Or.inr rfl, Or.inr rfl, Or.inr rfl, Or.inl rfl, trivial⟩) (k_tile hl (t := t) hp hx (by omega) hd (((hM.le (by omega)).flag hu hu0).flag hu hu0) hu (hT.plain (Or.inl (by omega))) hH hne (fun i => by unfold up; by_cases e1 : i = 7 * x + p <;> by_cases e2 : i = 7 * p + x <;> simp [e1, e2]) fun sh2 t2 s2 T2 m2 g2 q1 q2 q3 q4 => ih (p := x) (t := t + 1) (by omega) (by omega) q1 q2 q3 q4 hx)
        · skip
          refine J.iload dL_match_214 rfl ?_
          refine I.if_le 226 dL_match_216 (by decide) (by omega) (fun h216 => ?_) (fun h216 => ?_)
          · skip
            refine J.mono (b := (dd, B + 4 * k + 1 + 1 + 1, C + 12000 * k + 3000 + 3000 + 3000)) ?_ (fun _ _ h => h) (fun _ _ h => h) ⟨Nat.le_refl _, by show B + 4 * k + 1 + 1 + 1 ≤ B + 4 * k + 1 + 1 + 1 + 1; omega, by show C + 12000 * k + 3000 + 3000 + 3000 ≤ C + 12000 * k + 3000 + 3000 + 3000 + 3000; omega⟩
            exact J.fgt (by exact ⟨Or.inr rfl, Or.inr rfl, Or.inr rfl, Or.inr rfl, Or.inr rfl, Or.inr rfl, Or.inr rfl, Or.inr rfl, Or.inr rfl, Or.inr rfl, Or.inr rfl, Or.inr rfl, Or.inr rfl, Or.inl rfl, trivial⟩) (k_tile hl (t := t) hp hx (by omega) hd (((hM.le (by omega)).flag hu hu0).flag hu hu0) hu (hT.plain (Or.inr (by omega))) hH hne (fun i => by unfold up; by_cases e1 : i = 7 * x + p <;> by_cases e2 : i = 7 * p + x <;> simp [e1, e2]) fun sh2 t2 s2 T2 m2 g2 q1 q2 q3 q4 => ih (p := x) (t := t + 1) (by omega) (by omega) q1 q2 q3 q4 hx)
          · skip
            refine J.aload_n 2 dL_match_219 rfl rfl ?_
            refine I.bipush dL_match_220 (by decide) ?_
            refine Z.appC hl (((hM.le (by omega)).flag hu hu0).flag hu hu0) hd (x := 44) (by decide) dL_match_222 lL_128 (Nat.le_of_ble_eq_true rfl) fun sh1 t1 s1 q1 k1 => ?_
            refine J.popR dL_match_225 ?_
            exact J.fgt (by exact ⟨Or.inr rfl, Or.inr rfl, Or.inr rfl, Or.inr rfl, Or.inr rfl, Or.inr rfl, Or.inr rfl, Or.inr rfl, Or.inr rfl, Or.inr rfl, Or.inr rfl, Or.inr rfl, Or.inr rfl, Or.inl rfl, trivial⟩) (k_tile hl (t := t) hp hx (by omega) hd q1 (k1 u hu).1 (hT.comma (by omega) (by omega)) hH hne (fun i => by rw [(k1 u hu).2]; revert i; exact (fun i => by unfold up; by_cases e1 : i = 7 * x + p <;> by_cases e2 : i = 7 * p + x <;> simp [e1, e2])) fun sh2 t2 s2 T2 m2 g2 q1 q2 q3 q4 => ih (p := x) (t := t + 1) (by omega) (by omega) q1 q2 q3 q4 hx)
      · skip
        refine J.goto 256 dL_match_182 (by decide) ?_
        exact J.mono (J.fgt (by exact ⟨Or.inr rfl, Or.inr rfl, Or.inr rfl, Or.inr rfl, Or.inr rfl, Or.inr rfl, Or.inr rfl, Or.inr rfl, Or.inr rfl, Or.inr rfl, Or.inr rfl, Or.inr rfl, Or.inl rfl, Or.inl rfl, trivial⟩) (kx sh τ s T m g t p (hM.le (by omega)) hu hH hT (fun e => h179 (hT.free e.1 e.2 hH hp hx)) (by omega))) (fun _ _ h => h) (fun _ _ h => h) ⟨Nat.le_refl _, by show B ≤ B + 4 * k + 1 + 1 + 1 + 1; omega, by show C ≤ C + 12000 * k + 3000 + 3000 + 3000 + 3000; omega⟩
set_option maxHeartbeats 4000000 in
theorem k_chains {Γ : jE} (hl : Γ.1.stackTraces = false) {sh0 : List (Nat × Nat)} {t0 : Nat → Nat → Option Nat} {s0 : Nat → Int → Int} {q u dd B C : Nat} {W r : Int} {z3 : Int32} {P : Option Value → jM → Prop} {Ls : Nat} {xs : Nat → Int32} (hsc : Γ.2.2 = some (Ls, xs)) (hL : Ls ≤ 3072) (hd : 5 ≤ dd) (hr : 0 ≤ r ∧ r ≤ 3) (hu0 : sh0.length ≤ u) (kx : ∀ sh' τ' s' T' m' g' n' c', MTX sh0 t0 s0 q B W sh' τ' s' T' m' → (1 ≤ n' ∧ n' ≤ c' ∧ ∃ t', StC T' m' r (n' - 1) t' g') → J Γ (dd, B, C) mL_match 270 [some (.ref 2000000), some (.int (iI 5)), some (.ref q), some (.int z3), some (.int (iI r)), none, none, none, none, none, none, none, none, none] [] (jmx sh' τ' s') P X0) :
    ∀ (k : Nat) {n c m : Int} {T g : Int → Int} {sh : List (Nat × Nat)} {τ : Nat → Nat → Option Nat} {s : Nat → Int → Int}, (k : Int) = 2 - c → 0 ≤ c → 0 ≤ n ∧ n ≤ c → MTX sh0 t0 s0 q (B + 20 * k) W sh τ s T m → sh[u]? = some (107, 49) → Had (s u) g r → CSX T m g r n c →
      J Γ (dd, B + 20 * k, C + 60000 * k) mL_match 48 [some (.ref 2000000), some (.int (iI 5)), some (.ref q), some (.int z3), some (.int (iI r)), some (.ref u), some (.int (iI n)), some (.int (iI c)), none, none, none, none, none, none] [] (jmx sh τ s) P X0 := by
  intro k
  induction k with
  | zero =>
    intro n c m T g sh τ s hk hc hn hM hu hH hS
    refine J.iload dL_match_48 rfl ?_
    refine I.iconst dL_match_50 ?_
    refine J.iload_n 3 dL_match_51 rfl rfl ?_
    refine I.iconst dL_match_52 ?_
    refine I.iconst dL_match_53 ?_
    refine J.iload dL_match_54 rfl ?_
    refine I.mul dL_match_56 ?_
    refine I.add dL_match_57 ?_
    refine J.ishr dL_match_58 ?_
    refine I.iconst dL_match_59 ?_
    refine Z.part (n := 2) hl rfl dL_match_60 lL_120 (by omega) (by show 1 ≤ dd; omega) (Nat.le_of_ble_eq_true rfl) fun z60 hz60 => ?_
    refine I.add dL_match_63 ?_
    refine I.icmp_ge 270 dL_match_64 (by decide) (by omega) (by omega) (fun h64 => ?_) (fun h64 => ?_)
    · skip
      rcases hS with ⟨a1, a2, a3⟩ | ⟨a1, a2, a3, a4⟩
      · omega
      · exact J.mono (J.fgt (by exact ⟨Or.inr rfl, Or.inr rfl, Or.inr rfl, Or.inr rfl, Or.inr rfl, Or.inl rfl, Or.inl rfl, Or.inl rfl, Or.inl rfl, Or.inl rfl, Or.inl rfl, Or.inl rfl, Or.inl rfl, Or.inl rfl, trivial⟩) (kx sh τ s T m g n c (hM.le (by omega)) ⟨a2, a3, a4⟩)) (fun _ _ h => h) (fun _ _ h => h) ⟨Nat.le_refl _, by show B ≤ B + 20 * 0; omega, by show C ≤ C + 60000 * 0; omega⟩
    · exact absurd h64 (by omega)
  | succ k ih =>
    intro n c m T g sh τ s hk hc hn hM hu hH hS
    rw [show B + 20 * (k + 1) = B + 20 * k + 4 * 5 by omega] at hM ⊢
    rw [show C + 60000 * (k + 1) = C + 60000 * k + 12000 * 5 by omega]
    refine J.iload dL_match_48 rfl ?_
    refine I.iconst dL_match_50 ?_
    refine J.iload_n 3 dL_match_51 rfl rfl ?_
    refine I.iconst dL_match_52 ?_
    refine I.iconst dL_match_53 ?_
    refine J.iload dL_match_54 rfl ?_
    refine I.mul dL_match_56 ?_
    refine I.add dL_match_57 ?_
    refine J.ishr dL_match_58 ?_
    refine I.iconst dL_match_59 ?_
    refine Z.part (n := 2) hl rfl dL_match_60 lL_120 (by omega) (by show 1 ≤ dd; omega) (Nat.le_of_ble_eq_true rfl) fun z60 hz60 => ?_
    refine I.add dL_match_63 ?_
    refine I.icmp_ge 270 dL_match_64 (by decide) (by omega) (by omega) (fun h64 => ?_) (fun h64 => ?_)
    · skip
      rcases hS with ⟨a1, a2, a3⟩ | ⟨a1, a2, a3, a4⟩
      · omega
      · exact J.mono (J.fgt (by exact ⟨Or.inr rfl, Or.inr rfl, Or.inr rfl, Or.inr rfl, Or.inr rfl, Or.inl rfl, Or.inl rfl, Or.inl rfl, Or.inl rfl, Or.inl rfl, Or.inl rfl, Or.inl rfl, Or.inl rfl, Or.inl rfl, trivial⟩) (kx sh τ s T m g n c (hM.le (by omega)) ⟨a2, a3, a4⟩)) (fun _ _ h => h) (fun _ _ h => h) ⟨Nat.le_refl _, by show B ≤ B + 20 * k + 4 * 5; omega, by show C ≤ C + 60000 * k + 12000 * 5; omega⟩
    · skip
      refine J.aload_n 0 dL_match_67 rfl rfl ?_
      refine I.iconst dL_match_68 ?_
      refine I.iconst dL_match_69 ?_
      refine J.iload dL_match_70 rfl ?_
      refine I.mul dL_match_72 ?_
      refine I.add dL_match_73 ?_
      refine J.iload dL_match_74 rfl ?_
      refine I.add dL_match_76 ?_
      refine Z.cell (j := (1 + 2 * r + c)) hl rfl hsc hL (by omega) dL_match_77 lL_116 (by show 1 ≤ dd; omega) (Nat.le_of_ble_eq_true rfl) fun x77 => ?_
      refine J.istore dL_match_80 (by decide) rfl ?_
      refine J.iload dL_match_82 rfl ?_
      refine I.bipush dL_match_84 (by decide) ?_
      refine Z.part (n := 7) hl rfl dL_match_86 lL_120 (by omega) (by show 1 ≤ dd; omega) (Nat.le_of_ble_eq_true rfl) fun z86 hz86 => ?_
      refine J.istore dL_match_89 (by decide) rfl ?_
      refine I.iconst dL_match_91 ?_
      refine J.istore dL_match_92 (by decide) rfl ?_
      refine I.iconst dL_match_94 ?_
      refine J.istore dL_match_95 (by decide) rfl ?_
      refine J.fgt (by exact ⟨Or.inr rfl, Or.inr rfl, Or.inr rfl, Or.inr rfl, Or.inr rfl, Or.inr rfl, Or.inr rfl, Or.inr rfl, Or.inr rfl, Or.inr rfl, Or.inr rfl, Or.inr rfl, Or.inl rfl, Or.inl rfl, trivial⟩) (k_tiles hl hd hu0 (by omega) (fun sh τ s T m g t p h1 h2 h3 h4 h5 h6 => ?_) 5 (t := 0) (by omega) (by omega) hM hu hH hS.start (by omega))
      refine J.iload dL_match_256 rfl ?_
      refine I.if_le 264 dL_match_258 (by decide) (by omega) (fun h258 => ?_) (fun h258 => ?_)
      · skip
        refine I.iinc dL_match_264 rfl rfl ?_
        refine J.goto 48 dL_match_267 (by decide) ?_
        exact J.fgt (by exact ⟨Or.inr rfl, Or.inr rfl, Or.inr rfl, Or.inr rfl, Or.inr rfl, Or.inr rfl, Or.inr rfl, Or.inr rfl, Or.inl rfl, Or.inl rfl, Or.inl rfl, Or.inl rfl, Or.inl rfl, Or.inl rfl, trivial⟩) (ih (n := n) (c := c + 1) (by omega) (by omega) (by omega) h1 h2 h3 (h4.none (by omega) h5 (by omega)))
      · skip
        refine I.iinc dL_match_261 rfl rfl ?_
        refine I.iinc dL_match_264 rfl rfl ?_
        refine J.goto 48 dL_match_267 (by decide) ?_
        exact J.fgt (by exact ⟨Or.inr rfl, Or.inr rfl, Or.inr rfl, Or.inr rfl, Or.inr rfl, Or.inr rfl, Or.inr rfl, Or.inr rfl, Or.inl rfl, Or.inl rfl, Or.inl rfl, Or.inl rfl, Or.inl rfl, Or.inl rfl, trivial⟩) (ih (n := n + 1) (c := c + 1) (by omega) (by omega) (by omega) h1 h2 h3 (h4.some (by omega) (by omega)))
set_option maxHeartbeats 4000000 in
theorem k_rounds {Γ : jE} (hl : Γ.1.stackTraces = false) {sh0 : List (Nat × Nat)} {t0 : Nat → Nat → Option Nat} {s0 : Nat → Int → Int} {q dd B C : Nat} {z3 : Int32} {P : Option Value → jM → Prop} {Ls : Nat} {xs : Nat → Int32} (hsc : Γ.2.2 = some (Ls, xs)) (hL : Ls ≤ 3072) (hd : 5 ≤ dd) (kx : ∀ sh' τ' s' T' m' g' r' W', MTX sh0 t0 s0 q B W' sh' τ' s' T' m' → StA T' m' r' g' → 1 ≤ r' → J Γ (dd, B, C) mL_match 283 [some (.ref 2000000), some (.int (iI 5)), some (.ref q), none, none, none, none, none, none, none, none, none, none, none] [] (jmx sh' τ' s') P X0) :
    ∀ (k : Nat) {r m W : Int} {T g : Int → Int} {sh : List (Nat × Nat)} {τ : Nat → Nat → Option Nat} {s : Nat → Int → Int}, (k : Int) = 3 - r → 0 ≤ r → W + 5 * (3 - r) ≤ 290 → MTX sh0 t0 s0 q (B + 43 * k) W sh τ s T m → StA T m r g →
      J Γ (dd, B + 43 * k, C + 126049 * k) mL_match 17 [some (.ref 2000000), some (.int (iI 5)), some (.ref q), some (.int z3), some (.int (iI r)), none, none, none, none, none, none, none, none, none] [] (jmx sh τ s) P X0 := by
  intro k
  induction k with
  | zero =>
    intro r m W T g sh τ s hk hr hW hM hS
    refine J.iload dL_match_17 rfl ?_
    refine I.iconst dL_match_19 ?_
    refine J.iload_n 3 dL_match_20 rfl rfl ?_
    refine I.iconst dL_match_21 ?_
    refine Z.part (n := 3) hl rfl dL_match_22 lL_120 (by omega) (by show 1 ≤ dd; omega) (Nat.le_of_ble_eq_true rfl) fun z22 hz22 => ?_
    refine I.add dL_match_25 ?_
    refine I.icmp_ge 283 dL_match_26 (by decide) (by omega) (by omega) (fun h26 => ?_) (fun h26 => ?_)
    · skip
      exact J.mono (J.fgt (by exact ⟨Or.inr rfl, Or.inr rfl, Or.inr rfl, Or.inl rfl, Or.inl rfl, Or.inl rfl, Or.inl rfl, Or.inl rfl, Or.inl rfl, Or.inl rfl, Or.inl rfl, Or.inl rfl, Or.inl rfl, Or.inl rfl, trivial⟩) (kx sh τ s T m g r W (hM.le (by omega)) hS (by omega))) (fun _ _ h => h) (fun _ _ h => h) ⟨Nat.le_refl _, by show B ≤ B + 43 * 0; omega, by show C ≤ C + 126049 * 0; omega⟩
    · exact absurd h26 (by omega)
  | succ k ih =>
    intro r m W T g sh τ s hk hr hW hM hS
    rw [show B + 43 * (k + 1) = B + 43 * k + 1 + 20 * 2 + 1 + 1 by omega] at hM ⊢
    rw [show C + 126049 * (k + 1) = C + 126049 * k + 3000 + 60000 * 2 + 49 + 3000 by omega]
    refine J.iload dL_match_17 rfl ?_
    refine I.iconst dL_match_19 ?_
    refine J.iload_n 3 dL_match_20 rfl rfl ?_
    refine I.iconst dL_match_21 ?_
    refine Z.part (n := 3) hl rfl dL_match_22 lL_120 (by omega) (by show 1 ≤ dd; omega) (Nat.le_of_ble_eq_true rfl) fun z22 hz22 => ?_
    refine I.add dL_match_25 ?_
    refine I.icmp_ge 283 dL_match_26 (by decide) (by omega) (by omega) (fun h26 => ?_) (fun h26 => ?_)
    · skip
      exact J.mono (J.fgt (by exact ⟨Or.inr rfl, Or.inr rfl, Or.inr rfl, Or.inl rfl, Or.inl rfl, Or.inl rfl, Or.inl rfl, Or.inl rfl, Or.inl rfl, Or.inl rfl, Or.inl rfl, Or.inl rfl, Or.inl rfl, Or.inl rfl, trivial⟩) (kx sh τ s T m g r W (hM.le (by omega)) hS (by omega))) (fun _ _ h => h) (fun _ _ h => h) ⟨Nat.le_refl _, by show B ≤ B + 43 * k + 1 + 20 * 2 + 1 + 1; omega, by show C ≤ C + 126049 * k + 3000 + 60000 * 2 + 49 + 3000; omega⟩
    · skip
      refine J.aload_n 2 dL_match_29 rfl rfl ?_
      refine J.ldcS (t := "round ") 5 dL_match_30 (by decide) (by decide) ?_
      refine Z.appS (B := B + 43 * k + 1 + 20 * 2 + 1) (C := C + 126049 * k + 3000 + 60000 * 2 + 49) hl hM hd (by omega) dL_match_32 lL_125 (Nat.le_of_ble_eq_true rfl) fun sh1 t1 s1 h1 k1 => ?_
      refine J.popR dL_match_35 ?_
      refine I.bipush dL_match_36 (by decide) ?_
      refine Z.newZ (B := B + 43 * k + 1 + 20 * 2) (C := C + 126049 * k + 3000 + 60000 * 2) h1.xb rfl dL_match_38 ?_
      have hD := hS.round (by omega)
      refine J.astore dL_match_40 (by decide) rfl ?_
      refine I.iconst dL_match_42 ?_
      refine J.istore dL_match_43 (by decide) rfl ?_
      refine I.iconst dL_match_45 ?_
      refine J.istore dL_match_46 (by decide) rfl ?_
      refine J.fgt (by exact ⟨Or.inr rfl, Or.inr rfl, Or.inr rfl, Or.inr rfl, Or.inr rfl, Or.inr rfl, Or.inr rfl, Or.inr rfl, Or.inl rfl, Or.inl rfl, Or.inl rfl, Or.inl rfl, Or.inl rfl, Or.inl rfl, trivial⟩) (k_chains (B := B + 43 * k + 1) (C := C + 126049 * k + 3000) hl (W := W + 5) hsc hL hd (by omega) h1.len (fun sh2 t2 s2 T2 m2 g2 n2 c2 h2 e2 => ?_) 2 (n := 0) (c := 0) (by omega) (by omega) (by omega) h1.newZ get_end ?_ (Or.inl ⟨rfl, rfl, _, hD⟩))
      rotate_left
      · obtain ⟨d0, d1, d2, d3, d4, d5, d6⟩ := hD
        exact Had.of0 d5 (by omega) d4 ((h1.xb).2 _ (Nat.le_refl _)).2
      obtain ⟨e0, e1, t', e3⟩ := e2
      refine J.aload_n 2 dL_match_270 rfl rfl ?_
      refine I.bipush dL_match_271 (by decide) ?_
      refine Z.appC (B := B + 43 * k) (C := C + 126049 * k) hl h2 hd (x := 59) (by decide) dL_match_273 lL_128 (Nat.le_of_ble_eq_true rfl) fun sh3 t3 s3 h3 k3 => ?_
      refine J.popR dL_match_276 ?_
      refine I.iinc dL_match_277 rfl rfl ?_
      refine J.goto 17 dL_match_280 (by decide) ?_
      exact ih (r := r + 1) (W := W + 5) (by omega) (by omega) (by omega) h3 e3.semi
set_option maxHeartbeats 4000000 in
theorem c_match {Γ : jE} (hl : Γ.1.stackTraces = false) {Ls : Nat} {xs : Nat → Int32} (hsc : Γ.2.2 = some (Ls, xs)) (hL : Ls ≤ 3072) {sh : List (Nat × Nat)} {t : Nat → Nat → Option Nat} {s : Nat → Int → Int} {d : Nat} (hd : 7 ≤ d) (hx : XB sh t s) (hlen : sh.length ≤ 600000) :
    Con Γ (d, 140, 400000) mL_match [.ref 2000000, .int (iI 5)] (jmx sh t s) (fun w M' => ∃ (q : Nat) (sh' : List (Nat × Nat)) (t' : Nat → Nat → Option Nat) (s' : Nat → Int → Int) (T : Int → Int) (m v : Nat), w = some (.ref q) ∧ M' = jmx sh' t' s' ∧ (∃ ext, sh' = sh ++ ext) ∧ (∀ a, a < sh.length → t' a = t a ∧ s' a = s a) ∧ XB sh' t' s' ∧ sh'.length ≤ 700000 ∧ sh.length ≤ q ∧ sh.length ≤ v ∧ STI sh' t' s' q T m v ∧ m ≤ 300 ∧ ∀ T', Ext T m T' m → (pAll T' m).1 = 0 ∧ 1 ≤ (pAll T' m).2.2 0 ∧ (pAll T' m).2.2 4 = 0) X0 := by
  refine Con.ofJ (by decide +kernel) (by simp [Value.category]) (Nat.le_of_ble_eq_true rfl) ?_ hl
  refine Y.new (ci := 10) dL_match_0 rfl kL_113 iJ4 iniJ4 hx ⟨by show 1 ≤ 140; omega, by show 4 ≤ 400000; omega⟩ ?_
  have el : (sh ++ [((10, 4) : Nat × Nat)]).length = sh.length + 1 := by rw [List.length_append]; rfl
  have hx1 : XB (sh ++ [(10, 4)]) t s := hx.app (by omega)
  refine J.dupR dL_match_3 ?_
  refine J.callI (b' := (1, 1, 16)) (mi' := mJ4_init_da8c8) [] dL_match_4 lL_115 eJ4_init_da8c8 ⟨by show 1 + 1 ≤ d; omega, by show 1 ≤ 140 - 1; omega, by show 16 ≤ 400000 - 4; omega⟩ (s_init hl get_end hx1 (by omega) ((hx.2 _ (Nat.le_refl _)).2 1) (by omega)) (fun _ _ h => h) (fun _ _ h => absurd h id) (Nat.le_of_ble_eq_true rfl) ?_
  rintro w M' ⟨rfl, rfl⟩
  rw [el]
  have hM : MTX sh t s sh.length (9 + 43 * 3) 138 (sh ++ [(10, 4)] ++ [(101, 16)]) (jup2 t sh.length 0 (some (sh.length + 1))) s (fun _ => 0) 0 := by
    have l2 : (sh ++ [((10, 4) : Nat × Nat)] ++ [((101, 16) : Nat × Nat)]).length = sh.length + 2 := by rw [List.length_append, el]; rfl
    have z0 := (hx.2 _ (Nat.le_refl sh.length)).2
    have z1 := (hx.2 (sh.length + 1) (by omega)).2
    refine ⟨sh.length + 1, 16, ⟨get_app get_end, if_pos ⟨rfl, rfl⟩, by have := get_end (l := sh ++ [((10, 4) : Nat × Nat)]) (x := (101, 16)); rwa [el] at this, by omega, z0 1, z0 3, by decide, fun i a b => by omega, fun i => by rw [z1]; decide⟩, ⟨by omega, fun a ha => ⟨fun i => ?_, (hx.2 a (by omega)).2⟩⟩, by omega, ⟨[(10, 4), (101, 16)], by rw [List.append_assoc]; rfl⟩, Nat.le_refl _, by omega, fun a ha => ⟨?_, rfl⟩, by decide, fun i a b => by omega⟩
    · unfold jup2; rw [if_neg (by omega)]; exact (hx.2 a (by omega)).1 i
    · funext i; unfold jup2; rw [if_neg (by omega)]
  show J Γ (d, 9 + 43 * 3, 21833 + 126049 * 3) mL_match _ _ _ _ _ X0
  refine J.astore_n 2 dL_match_7 rfl (by decide) rfl ?_
  refine J.aload_n 0 dL_match_8 rfl rfl ?_
  refine I.iconst dL_match_9 ?_
  refine Z.cell (j := 0) hl rfl hsc hL (by omega) dL_match_10 lL_116 (by show 1 ≤ d; omega) (Nat.le_of_ble_eq_true rfl) fun z3 => ?_
  refine J.istore_n 3 dL_match_13 rfl (by decide) rfl ?_
  refine I.iconst dL_match_14 ?_
  refine J.istore dL_match_15 (by decide) rfl ?_
  refine k_rounds hl (B := 9) (C := 21833) hsc hL (by omega) (fun sh2 t2 s2 T2 m2 g2 r2 W2 h2 e2 h3 => ?_) 3 (r := 0) (by omega) (by omega) (by decide) hM StA.zero
  obtain ⟨v2, cap2, h4, hx2, hl2, ⟨ext, he2⟩, hq2, hv2, hk2, hm2, hT2⟩ := h2
  refine J.aload_n 2 dL_match_283 rfl rfl ?_
  refine J.callV (b' := (5, 2, 3004)) (mi' := mJ4_toString_0e30d) [] dL_match_284 lL_134 eJ4_toString_0e30d h4.1 rfl ⟨by show 5 + 1 ≤ d; omega, by show 2 ≤ 9; omega, by show 3004 ≤ 21833; omega⟩ (s_toString hl h4 hx2 (by omega) hT2 (by omega)) (fun _ _ h => absurd h id) (Nat.le_of_ble_eq_true rfl) ?_
  rintro w M' ⟨rfl, t3, s3, rfl, hk3, hx3, hS3⟩
  have hl0 : sh.length ≤ sh2.length := by rw [he2, List.length_append]; omega
  have em : ((m2.toNat : Nat) : Int) = m2 := Int.toNat_of_nonneg (by omega)
  refine J.aret rfl dL_match_287 ⟨sh2.length, _, t3, s3, T2, m2.toNat, sh2.length + 1, rfl, rfl, ⟨ext ++ [(9, 4), (101, m2.toNat)], by rw [he2, List.append_assoc]⟩, fun a ha => ?_, hx3, by rw [List.length_append]; show sh2.length + 2 ≤ _; omega, hl0, by omega, hS3, by omega, fun T' hT => ?_⟩
  · obtain ⟨p1, p2⟩ := hk3 a (by omega)
    obtain ⟨p3, p4⟩ := hk2 a ha
    exact ⟨p1.trans p3, p2.trans p4⟩
  · rw [em] at hT ⊢
    exact e2.all h3 hT
