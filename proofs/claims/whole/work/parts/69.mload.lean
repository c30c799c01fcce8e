section MIl
variable {a : AS} {s s' : Nat → Int → Int} {g : Int → Int} {e p : Int}
/-- the model behind a text with a fault -/
theorem MI.bad (h : MI s a) (f : ∀ q j, 137 ≤ q → q < 141 → (q ≠ 137 ∨ j ≠ 0 ∧ j ≠ 2 ∧ j ≠ 7 ∧ j ≠ 8 ∧ j ≠ 9 ∧ (j < 13 ∨ 16 < j)) → (q ≠ 138 ∨ j < 2320) → s' q j = s q j) (k0 : s' 137 2 = 0) (k1 : s' 137 7 = 0) (k2 : s' 137 8 = e) (k3 : s' 137 9 = p) : MI s' (aBad a e p) := by
  obtain ⟨m1, m2, m3, m4, m5, m6, m7, m8⟩ := h
  refine ⟨k0, fun j j0 j1 => by rw [f _ _ (by omega) (by omega) (by omega) (by omega)]; exact m2 j j0 j1, ⟨by rw [f _ _ (by omega) (by omega) (by omega) (by omega)]; exact m3.1, by rw [f _ _ (by omega) (by omega) (by omega) (by omega)]; exact m3.2.1, by rw [f _ _ (by omega) (by omega) (by omega) (by omega)]; exact m3.2.2.1, fun x x0 x1 j j0 j1 => ?_⟩, ⟨by rw [f _ _ (by omega) (by omega) (by omega) (by omega)]; exact m4.1, fun b j j0 j1 => by rw [f _ _ (by omega) (by omega) (by omega) (by omega)]; exact m4.2 b j j0 j1⟩, m5.congr (f _ _ (by omega) (by omega) (by omega) (by omega)) (fun i => f _ _ (by omega) (by omega) (by omega) (by omega)), ⟨k1, fun i i0 (i1 : i < 0) => by omega⟩, k2, k3⟩
  rw [f 137 4 (by omega) (by omega) (by omega) (by omega), f _ _ (by omega) (by omega) (by omega) (by omega)]
  exact m3.2.2.2 x x0 x1 j j0 j1
/-- .. behind a good one -/
theorem MI.ld (t5 : TX s' 140 137 11 (aX a)) (r : ∀ k, 0 ≤ k → k < 232 → s' 138 k = g k) (k0 : s' 137 2 = 0) (k3 : s' 137 3 = 0) (k4 : s' 137 4 = 0) (k5 : s' 137 5 = 0) (k7 : s' 137 7 = 0) (k8 : s' 137 8 = 0) (k9 : s' 137 9 = -1) : MI s' (aLd a g) :=
  ⟨k0, r, ⟨k3, by omega, by omega, fun x x0 (x1 : x < 0) => by omega⟩, ⟨k5, fun (b : (0 : Int) = 1) => absurd b (by decide)⟩, t5, ⟨k7, fun i i0 (i1 : i < 0) => by omega⟩, k8, k9⟩
end MIl
set_option maxHeartbeats 1000000 in
theorem c_X9_load {Γ : jE} (hl : Γ.1.stackTraces = false) {s : Nat → Int → Int} {ε : jEps} {d : Nat} {a : AS} (hd : 8 ≤ d) (p0 : MI s a) (p1 : AI a) : Con Γ (d, 0, 0) mX9_load [.ref 137] (jmem s ε) (RQ (fun w s' => ((pAll (aT a) (aL a)).1 = 0 ∧ (pAll (aT a) (aL a)).2.2 0 = w ∧ MI s' (aLd a (pAll (aT a) (aL a)).2.2) ∧ s' 137 0 = 0 ∧ LoE s s') ∨ ((pAll (aT a) (aL a)).1 ≠ 0 ∧ MI s' (aBad a (pAll (aT a) (aL a)).1 (pS (aT a) (aL a) (pAll (aT a) (aL a)).2.1)) ∧ s' 137 0 = 1 ∧ LoE s s')) ε) X0 := by
  refine Con.ofJ (by decide +kernel) (by simp [Value.category]) (Nat.le_of_ble_eq_true rfl) ?_ hl
  have l0 := p1.t.1
  refine J.aload_n 0 dX9_load_0 rfl rfl ?_
  refine I.iconst dX9_load_1 ?_
  refine I.pI 0 rfl dX9_load_2 jcls fX9_40 rfl (by decide) rfl ?_
  refine J.aload_n 0 dX9_load_5 rfl rfl ?_
  refine I.sipush dX9_load_6 (by decide) ?_
  refine I.pI 2 rfl dX9_load_9 jcls fX9_43 rfl (by decide) rfl ?_
  refine J.aload_n 0 dX9_load_12 rfl rfl ?_
  refine I.callV0q (d' := d - 1) (mi' := mX9_reads) dX9_load_13 lX9_225 eX9_reads rfl rfl (c_X9_reads (d := d - 1) hl (by omega) p1.t ⟨fun i x y => (up_ne (by omega)).trans ((up_ne (by omega)).trans (p0.2.2.2.2.2.1.2 i x y)), (up_ne (by omega)).trans ((up_ne (by omega)).trans p0.2.2.2.2.2.1.1)⟩ (up_eq _ _ _ _)) (show d - 1 + 1 ≤ d from by omega) (Nat.le_of_ble_eq_true rfl) ?_
  rintro w13 s13 o13
  refine J.istore_n 1 dX9_load_16 rfl (by decide) rfl ?_
  have fr : ∀ q j, q ≠ 138 → (q ≠ 137 ∨ j < 13 ∨ 16 < j) → (q ≠ 137 ∨ j ≠ 0 ∧ j ≠ 2) → s13 q j = s q j := fun q j x y z => (o13.1.1 q j x y).trans ((up_ne (by omega)).trans (up_ne (by omega)))
  have fr8 : ∀ j, (j < 2320 ∨ 2552 ≤ j) → s13 138 j = s 138 j := fun j x => (o13.1.2 j x).trans ((up_ne (by omega)).trans (up_ne (by omega)))
  refine J.aload_n 0 dX9_load_17 rfl rfl ?_
  refine I.iconst dX9_load_18 ?_
  refine I.pI 2 rfl dX9_load_19 jcls fX9_43 rfl (by decide) rfl ?_
  refine J.aload_n 0 dX9_load_22 rfl rfl ?_
  refine I.iconst dX9_load_23 ?_
  refine I.pI 7 rfl dX9_load_24 jcls fX9_156 rfl (by decide) rfl ?_
  refine J.aload_n 0 dX9_load_27 rfl rfl ?_
  refine J.iload_n 1 dX9_load_28 rfl rfl ?_
  refine I.if_eq 36 dX9_load_29 (by decide) (by have := o13.rng; omega) (fun h29 => ?_) (fun h29 => ?_)
  · skip
    have b2 : (pAll (aT a) (aL a)).1 ≠ 0 ∧ s13 137 14 = pS (aT a) (aL a) (pAll (aT a) (aL a)).2.1 ∧ s13 137 16 = (pAll (aT a) (aL a)).1 := by rcases o13.2 with x | x; omega; exact x.2
    refine J.aload_n 0 dX9_load_36 rfl rfl ?_
    refine I.gI 16 rfl dX9_load_37 jcls fX9_159 rfl (by decide) rfl ?_
    refine I.sx ((up_ne (by omega)).trans ((up_ne (by omega)).trans b2.2.2)) ?_
    refine I.pI 8 rfl dX9_load_40 jcls fX9_228 rfl (by decide) rfl ?_
    refine J.aload_n 0 dX9_load_43 rfl rfl ?_
    refine J.iload_n 1 dX9_load_44 rfl rfl ?_
    refine I.if_eq 52 dX9_load_45 (by decide) (by have := o13.rng; omega) (fun h45 => ?_) (fun h45 => ?_)
    · skip
      refine J.aload_n 0 dX9_load_52 rfl rfl ?_
      refine I.gI 14 rfl dX9_load_53 jcls fX9_169 rfl (by decide) rfl ?_
      refine I.sx ((up_ne (by omega)).trans ((up_ne (by omega)).trans ((up_ne (by omega)).trans b2.2.1))) ?_
      refine I.pI 9 rfl dX9_load_56 jcls fX9_25 rfl (by decide) rfl ?_
      refine J.iload_n 1 dX9_load_59 rfl rfl ?_
      refine I.if_ne 69 dX9_load_60 (by decide) (by have := o13.rng; omega) (fun h60 => ?_) (fun h60 => ?_)
      · exact absurd h60 (by omega)
      · skip
        refine J.aload_n 0 dX9_load_63 rfl rfl ?_
        refine I.iconst dX9_load_64 ?_
        refine I.callV1i (d' := d - 1) (mi' := mX9_fails) dX9_load_65 lX9_219 eX9_fails rfl rfl (c_X9_fails (d := d - 1) hl (by omega) ) (show d - 1 + 1 ≤ d from by omega) (Nat.le_of_ble_eq_true rfl) ?_
        exact I.iretQ dX9_load_68 rfl (Or.inr ⟨b2.1, p0.bad (fun q j x y z w => ((up_ne (by omega)).trans ((up_ne (by omega)).trans ((up_ne (by omega)).trans ((up_ne (by omega)).trans ((up_ne (by omega)).trans (by by_cases e : q = 138; (subst e; exact fr8 j (by omega)); exact fr q j e (by omega) (by omega)))))))) ((up_ne (by omega)).trans ((up_ne (by omega)).trans ((up_ne (by omega)).trans ((up_ne (by omega)).trans (up_eq _ _ _ _))))) ((up_ne (by omega)).trans ((up_ne (by omega)).trans ((up_ne (by omega)).trans (up_eq _ _ _ _)))) ((up_ne (by omega)).trans ((up_ne (by omega)).trans (up_eq _ _ _ _))) ((up_ne (by omega)).trans (up_eq _ _ _ _)), up_eq _ _ _ _, fun q j x => ((up_ne (by omega)).trans ((up_ne (by omega)).trans ((up_ne (by omega)).trans ((up_ne (by omega)).trans ((up_ne (by omega)).trans (fr q j (by omega) (by omega) (by omega)))))))⟩)
    · exact absurd h45 (by omega)
  · skip
    have g2 : (pAll (aT a) (aL a)).1 = 0 ∧ (MV s13 (pAll (aT a) (aL a)).2.2 ∧ s13 137 2 = 2320) ∧ FL (pAll (aT a) (aL a)).2.2 ∧ FS (pAll (aT a) (aL a)).2.2 := by rcases o13.2 with x | x; exact x.2; omega
    refine I.iconst dX9_load_32 ?_
    refine J.goto 40 dX9_load_33 (by decide) ?_
    refine I.pI 8 rfl dX9_load_40 jcls fX9_228 rfl (by decide) rfl ?_
    refine J.aload_n 0 dX9_load_43 rfl rfl ?_
    refine J.iload_n 1 dX9_load_44 rfl rfl ?_
    refine I.if_eq 52 dX9_load_45 (by decide) (by have := o13.rng; omega) (fun h45 => ?_) (fun h45 => ?_)
    · exact absurd h45 (by omega)
    · skip
      refine I.iconst dX9_load_48 ?_
      refine J.goto 56 dX9_load_49 (by decide) ?_
      refine I.pI 9 rfl dX9_load_56 jcls fX9_25 rfl (by decide) rfl ?_
      refine J.iload_n 1 dX9_load_59 rfl rfl ?_
      refine I.if_ne 69 dX9_load_60 (by decide) (by have := o13.rng; omega) (fun h60 => ?_) (fun h60 => ?_)
      · skip
        refine J.aload_n 0 dX9_load_69 rfl rfl ?_
        refine I.bipush dX9_load_70 (by decide) ?_
        refine I.iconst dX9_load_72 ?_
        refine I.callV2w (d' := d - 1) (mi' := mX9_copies) dX9_load_73 lX9_56 eX9_copies rfl rfl (c_X9_copies (d := d - 1) hl (by omega) (by first | omega | assumption) (by first | omega | assumption) (by decide)) (show d - 1 + 1 ≤ d from by omega) (Nat.le_of_ble_eq_true rfl) ?_
        rintro s73 ⟨k73, o73, r73⟩
        refine J.aload_n 0 dX9_load_76 rfl rfl ?_
        refine I.iconst dX9_load_77 ?_
        refine I.pI 3 rfl dX9_load_78 jcls fX9_53 rfl (by decide) rfl ?_
        refine J.aload_n 0 dX9_load_81 rfl rfl ?_
        refine I.iconst dX9_load_82 ?_
        refine I.pI 4 rfl dX9_load_83 jcls fX9_50 rfl (by decide) rfl ?_
        refine J.aload_n 0 dX9_load_86 rfl rfl ?_
        refine I.iconst dX9_load_87 ?_
        refine I.pZ 5 rfl dX9_load_88 jcls fX9_231 rfl (by decide) rfl (by first | exact Or.inl rfl | exact Or.inr rfl | exact bI_01 _ | omega) ?_
        have row : ∀ k, 0 ≤ k → k < 232 → s73 138 k = (pAll (aT a) (aL a)).2.2 k := fun k x y => by
          have e := r73 k x y
          rw [show 232 * 0 + k = k by omega, show 232 * 10 + k = 2320 + k by omega] at e
          rw [e]
          refine (up_ne (by omega)).trans ((up_ne (by omega)).trans ((up_ne (by omega)).trans ((up_ne (by omega)).trans ?_)))
          have e2 := g2.2.1.1.2 k x y
          rw [g2.2.1.2] at e2
          exact e2
        have gv : MV (up (up (up s73 137 3 0) 137 4 0) 137 5 0) (pAll (aT a) (aL a)).2.2 := ⟨Or.inl ((up_ne (by omega)).trans ((up_ne (by omega)).trans ((up_ne (by omega)).trans ((k73 137 2 (by decide)).trans ((up_ne (by omega)).trans ((up_ne (by omega)).trans ((up_ne (by omega)).trans (up_eq _ _ _ _)))))))), fun k x y => by rw [show up (up (up s73 137 3 0) 137 4 0) 137 5 0 137 2 = 0 from ((up_ne (by omega)).trans ((up_ne (by omega)).trans ((up_ne (by omega)).trans ((k73 137 2 (by decide)).trans ((up_ne (by omega)).trans ((up_ne (by omega)).trans ((up_ne (by omega)).trans (up_eq _ _ _ _)))))))), Int.zero_add]; exact ((up_ne (by omega)).trans ((up_ne (by omega)).trans ((up_ne (by omega)).trans (row k x y))))⟩
        have k7 : ∀ q j, q ≠ 138 → (q ≠ 137 ∨ j < 13 ∨ 16 < j) → (q ≠ 137 ∨ j ≠ 0 ∧ j ≠ 2 ∧ j ≠ 3 ∧ j ≠ 4 ∧ j ≠ 5 ∧ j ≠ 7 ∧ j ≠ 8 ∧ j ≠ 9) → up (up (up s73 137 3 0) 137 4 0) 137 5 0 q j = s q j := fun q j x y z => ((up_ne (by omega)).trans ((up_ne (by omega)).trans ((up_ne (by omega)).trans ((k73 q j x).trans ((up_ne (by omega)).trans ((up_ne (by omega)).trans ((up_ne (by omega)).trans ((up_ne (by omega)).trans (fr q j x y (by omega))))))))))
        refine J.aload_n 0 dX9_load_91 rfl rfl ?_
        refine I.iconst dX9_load_92 ?_
        refine I.callV1i (d' := d - 1) (mi' := mX9_get) dX9_load_93 lX9_46 eX9_get rfl rfl (c_X9_get (d := d - 1) hl (by omega) gv (by decide)) (show d - 1 + 1 ≤ d from by omega) (Nat.le_of_ble_eq_true rfl) ?_
        exact I.iretQ dX9_load_96 rfl (Or.inl ⟨g2.1, rfl, MI.ld (p0.2.2.2.2.1.congr (k7 137 11 (by omega) (by omega) (by omega)) (fun i => k7 140 i (by omega) (by omega) (by omega))) (fun k x y => ((up_ne (by omega)).trans ((up_ne (by omega)).trans ((up_ne (by omega)).trans (row k x y))))) ((up_ne (by omega)).trans ((up_ne (by omega)).trans ((up_ne (by omega)).trans ((k73 137 2 (by decide)).trans ((up_ne (by omega)).trans ((up_ne (by omega)).trans ((up_ne (by omega)).trans (up_eq _ _ _ _)))))))) ((up_ne (by omega)).trans ((up_ne (by omega)).trans (up_eq _ _ _ _))) ((up_ne (by omega)).trans (up_eq _ _ _ _)) (up_eq _ _ _ _) ((up_ne (by omega)).trans ((up_ne (by omega)).trans ((up_ne (by omega)).trans ((k73 137 7 (by decide)).trans ((up_ne (by omega)).trans ((up_ne (by omega)).trans (up_eq _ _ _ _))))))) ((up_ne (by omega)).trans ((up_ne (by omega)).trans ((up_ne (by omega)).trans ((k73 137 8 (by decide)).trans ((up_ne (by omega)).trans (up_eq _ _ _ _)))))) ((up_ne (by omega)).trans ((up_ne (by omega)).trans ((up_ne (by omega)).trans ((k73 137 9 (by decide)).trans (up_eq _ _ _ _))))), ((up_ne (by omega)).trans ((up_ne (by omega)).trans ((up_ne (by omega)).trans ((k73 137 0 (by decide)).trans ((up_ne (by omega)).trans ((up_ne (by omega)).trans ((up_ne (by omega)).trans ((up_ne (by omega)).trans ((o13.1.1 137 0 (by decide) (by omega)).trans ((up_ne (by omega)).trans (up_eq _ _ _ _))))))))))), fun q j x => k7 q j (by omega) (by omega) (by omega)⟩)
      · exact absurd h60 (by omega)
