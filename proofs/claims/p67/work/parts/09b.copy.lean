theorem jmem_cp {s : Nat → Int → Int} {ε : jEps} {q0 q1 n : Nat} : ((jmem s ε).1, (jmem s ε).2.1, jrow (jmem s ε).2.2.1 q1 (va_cpy ((jmem s ε).2.2.1 q0) ((jmem s ε).2.2.1 q1) 0 0 n), (jmem s ε).2.2.2) = jmem (cpA s q0 q1 n) ε := by
  unfold jmem
  congr 3
  funext a i
  unfold jrow cpA va_cpy
  by_cases h : a = q1
  · subst h
    by_cases g : i < n
    · simp [g]
    · simp [g]
  · rw [if_neg h, if_neg (fun e => h e.1)]
theorem I.copyi {Γ : jE} {b : Nat × Nat × Nat} {mi : jMI} {pc : Nat} {L : List (Option Value)} {S : List Value} {P : Option Value → jM → Prop} {X : String → jM → Prop} {s : Nat → Int → Int} {ε : jEps} {q0 q1 n0 n1 idx : Nat} {x : Int} (n : Nat) (d : decode mi.2.1 pc = .ok (.invokestatic idx, 3)) (hl : Cond.methodLink mi.1.cls idx arraycopyName ∈ jG)
    (g0 : jsh[q0]? = some (100, n0)) (g1 : jsh[q1]? = some (100, n1)) (hx : x = (n : Int)) (hb : n < 1000000) (h4 : n ≤ n0) (h5 : n ≤ n1) (hcat : (S.map fun v => v.category).sum ≤ 8)
    (k : J Γ b mi (pc + 3) L S (jmem (cpA s q0 q1 n) ε) P X) : J Γ b mi pc L (.int (iI x) :: .int (iI 0) :: .ref q1 :: .int (iI 0) :: .ref q0 :: S) (jmem s ε) P X := by
  have h0 : iI 0 = 0 := by decide
  rw [h0]
  exact J.copyi (M := jmem s ε) n d hl ac_n ac_s ac_i g0 g1 (by rw [hx]; rfl) hb h4 h5 hcat (by rw [jmem_cp]; exact k)
theorem RT.copy {s s' : Nat → Int → Int} {t o : Nat} {f : Int → Int} (h : RT s o f) (hm : f 5 ≤ 42) (e0 : ∀ i, 0 ≤ i → i < 6 → s' t i = s o i) (e1 : ∀ i, 0 ≤ i → i < 3 → s' (t + 1) i = s (o + 1) i) (e2 : ∀ i, 0 ≤ i → i < 3 → s' (t + 2) i = s (o + 2) i)
    (e3 : ∀ i, 0 ≤ i → i < 8 → s' (t + 3) i = s (o + 3) i) (e4 : ∀ i, 0 ≤ i → i < 2 → s' (t + 4) i = s (o + 4) i) (e5 : ∀ i, 0 ≤ i → i < 2 → s' (t + 5) i = s (o + 5) i) (e6 : ∀ i, 0 ≤ i → i < 42 → s' (t + 6) i = s (o + 6) i) (e7 : ∀ i, 0 ≤ i → i < 42 → s' (t + 7) i = s (o + 7) i) : RT s' t f :=
  ⟨by rw [e0 0 (by omega) (by omega)]; exact h.cur, by rw [e0 1 (by omega) (by omega)]; exact h.first, by rw [e0 2 (by omega) (by omega)]; exact h.turn, by rw [e0 3 (by omega) (by omega)]; exact h.passed, by rw [e0 4 (by omega) (by omega)]; exact h.over, by rw [e0 5 (by omega) (by omega)]; exact h.moves,
   fun c a b => by rw [e1 c a b]; exact h.lo c a b, fun c a b => by rw [e2 c a b]; exact h.hi c a b, fun r p a b c d => by rw [e3 _ (by omega) (by omega)]; exact h.sc r p a b c d, fun p a b => by rw [e4 _ a (by omega)]; exact h.bu p a b, fun p a b => by rw [e5 _ a (by omega)]; exact h.pa p a b,
   fun i a b => by rw [e6 i a (by omega)]; exact h.lc i a b, fun i a b => by rw [e7 i a (by omega)]; exact h.lp i a b⟩
theorem RY.copy {s s' : Nat → Int → Int} {y o : Nat} {f : Int → Int} (h : RY s o f) (hl : FL f) (e0 : s' y 0 = s o 0) (e1 : ∀ i, 0 ≤ i → i < 4 → s' (y + 1) i = s (o + 1) i) (e2 : ∀ i, 0 ≤ i → i < 12 → s' (y + 2) i = s (o + 2) i)
    (e3 : ∀ i, 0 ≤ i → i < 96 → s' (y + 3) i = s (o + 3) i) (e4 : ∀ i, 0 ≤ i → i < 96 → s' (y + 4) i = s (o + 4) i) (e5 : ∀ i, 0 ≤ i → i < 96 → s' (y + 5) i = s (o + 5) i) : RY s' y f := by
  have hr := hl.rn
  have hk : ∀ r c t, 0 ≤ r → r < f 0 → 0 ≤ c → c < f (18 + r) → 0 ≤ t → t < f (22 + 3 * r + c) → 0 ≤ (r * 3 + c) * 8 + t ∧ (r * 3 + c) * 8 + t < 96 := by
    intro r c t a b c0 c1 t0 t1
    have := hl.ch r a b
    have := hl.len r c a b c0 c1
    omega
  refine ⟨by rw [e0]; exact h.rn, fun r a b => by rw [e1 r a (by omega)]; exact h.ch r a b, fun r c a b c0 c1 => ?_, fun r c t a b c0 c1 t0 t1 => ?_, fun r c t a b c0 c1 t0 t1 => ?_, fun r c t a b c0 c1 t0 t1 => ?_⟩
  · have := hl.ch r a b
    rw [e2 _ (by omega) (by omega)]; exact h.len r c a b c0 c1
  · obtain ⟨k1, k2⟩ := hk r c t a b c0 c1 t0 t1
    rw [e3 _ k1 k2]; exact h.left r c t a b c0 c1 t0 t1
  · obtain ⟨k1, k2⟩ := hk r c t a b c0 c1 t0 t1
    rw [e4 _ k1 k2]; exact h.right r c t a b c0 c1 t0 t1
  · obtain ⟨k1, k2⟩ := hk r c t a b c0 c1 t0 t1
    rw [e5 _ k1 k2]; exact h.points r c t a b c0 c1 t0 t1
