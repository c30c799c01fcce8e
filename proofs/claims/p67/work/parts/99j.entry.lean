/-! the law from its entry -/
theorem tL_none2 : ∀ {l : List (Nat × Nat × Nat)} {q k : Nat}, (∀ x ∈ l, x.2.1 ≠ k) → tL l q k = none
  | [], _, _, _ => rfl
  | (a, b, r) :: l, q, k, h => by
    show (if q = a ∧ k = b then some r else tL l q k) = none
    rw [if_neg (fun e => h (a, b, r) List.mem_cons_self e.2.symm)]
    exact tL_none2 fun x hx => h x (List.mem_cons_of_mem _ hx)
theorem lA_q : ∀ x ∈ lA, x.1 < 137 := by decide +kernel
theorem lA_k : ∀ x ∈ lA, x.2.1 < 20 := by decide +kernel
theorem jtl_q : ∀ p ∈ jtl, p.1 < 137 := by decide +kernel
theorem jtl_k : ∀ p ∈ jtl, p.2.length < 21 := by decide +kernel
theorem tL_fin0 : ∀ q : Fin 10, ∀ k : Fin 20, tL lA (q.val + 0) k.val = jtau (q.val + 0) k.val := by decide +kernel
theorem tL_fin1 : ∀ q : Fin 10, ∀ k : Fin 20, tL lA (q.val + 10) k.val = jtau (q.val + 10) k.val := by decide +kernel
theorem tL_fin2 : ∀ q : Fin 10, ∀ k : Fin 20, tL lA (q.val + 20) k.val = jtau (q.val + 20) k.val := by decide +kernel
theorem tL_fin3 : ∀ q : Fin 10, ∀ k : Fin 20, tL lA (q.val + 30) k.val = jtau (q.val + 30) k.val := by decide +kernel
theorem tL_fin4 : ∀ q : Fin 10, ∀ k : Fin 20, tL lA (q.val + 40) k.val = jtau (q.val + 40) k.val := by decide +kernel
theorem tL_fin5 : ∀ q : Fin 10, ∀ k : Fin 20, tL lA (q.val + 50) k.val = jtau (q.val + 50) k.val := by decide +kernel
theorem tL_fin6 : ∀ q : Fin 10, ∀ k : Fin 20, tL lA (q.val + 60) k.val = jtau (q.val + 60) k.val := by decide +kernel
theorem tL_fin7 : ∀ q : Fin 10, ∀ k : Fin 20, tL lA (q.val + 70) k.val = jtau (q.val + 70) k.val := by decide +kernel
theorem tL_fin8 : ∀ q : Fin 10, ∀ k : Fin 20, tL lA (q.val + 80) k.val = jtau (q.val + 80) k.val := by decide +kernel
theorem tL_fin9 : ∀ q : Fin 10, ∀ k : Fin 20, tL lA (q.val + 90) k.val = jtau (q.val + 90) k.val := by decide +kernel
theorem tL_fin10 : ∀ q : Fin 10, ∀ k : Fin 20, tL lA (q.val + 100) k.val = jtau (q.val + 100) k.val := by decide +kernel
theorem tL_fin11 : ∀ q : Fin 10, ∀ k : Fin 20, tL lA (q.val + 110) k.val = jtau (q.val + 110) k.val := by decide +kernel
theorem tL_fin12 : ∀ q : Fin 10, ∀ k : Fin 20, tL lA (q.val + 120) k.val = jtau (q.val + 120) k.val := by decide +kernel
theorem tL_fin13 : ∀ q : Fin 10, ∀ k : Fin 20, tL lA (q.val + 130) k.val = jtau (q.val + 130) k.val := by decide +kernel
theorem tL_fin (q : Fin 137) (k : Fin 20) : tL lA q.val k.val = jtau q.val k.val := by
  obtain ⟨q, hq⟩ := q
  by_cases h0 : q < 10
  · have := tL_fin0 ⟨q - 0, by omega⟩ k
    rwa [show (⟨q - 0, by omega⟩ : Fin 10).val + 0 = q from by show q - 0 + 0 = q; omega] at this
  by_cases h1 : q < 20
  · have := tL_fin1 ⟨q - 10, by omega⟩ k
    rwa [show (⟨q - 10, by omega⟩ : Fin 10).val + 10 = q from by show q - 10 + 10 = q; omega] at this
  by_cases h2 : q < 30
  · have := tL_fin2 ⟨q - 20, by omega⟩ k
    rwa [show (⟨q - 20, by omega⟩ : Fin 10).val + 20 = q from by show q - 20 + 20 = q; omega] at this
  by_cases h3 : q < 40
  · have := tL_fin3 ⟨q - 30, by omega⟩ k
    rwa [show (⟨q - 30, by omega⟩ : Fin 10).val + 30 = q from by show q - 30 + 30 = q; omega] at this
  by_cases h4 : q < 50
  · have := tL_fin4 ⟨q - 40, by omega⟩ k
    rwa [show (⟨q - 40, by omega⟩ : Fin 10).val + 40 = q from by show q - 40 + 40 = q; omega] at this
  by_cases h5 : q < 60
  · have := tL_fin5 ⟨q - 50, by omega⟩ k
    rwa [show (⟨q - 50, by omega⟩ : Fin 10).val + 50 = q from by show q - 50 + 50 = q; omega] at this
  by_cases h6 : q < 70
  · have := tL_fin6 ⟨q - 60, by omega⟩ k
    rwa [show (⟨q - 60, by omega⟩ : Fin 10).val + 60 = q from by show q - 60 + 60 = q; omega] at this
  by_cases h7 : q < 80
  · have := tL_fin7 ⟨q - 70, by omega⟩ k
    rwa [show (⟨q - 70, by omega⟩ : Fin 10).val + 70 = q from by show q - 70 + 70 = q; omega] at this
  by_cases h8 : q < 90
  · have := tL_fin8 ⟨q - 80, by omega⟩ k
    rwa [show (⟨q - 80, by omega⟩ : Fin 10).val + 80 = q from by show q - 80 + 80 = q; omega] at this
  by_cases h9 : q < 100
  · have := tL_fin9 ⟨q - 90, by omega⟩ k
    rwa [show (⟨q - 90, by omega⟩ : Fin 10).val + 90 = q from by show q - 90 + 90 = q; omega] at this
  by_cases h10 : q < 110
  · have := tL_fin10 ⟨q - 100, by omega⟩ k
    rwa [show (⟨q - 100, by omega⟩ : Fin 10).val + 100 = q from by show q - 100 + 100 = q; omega] at this
  by_cases h11 : q < 120
  · have := tL_fin11 ⟨q - 110, by omega⟩ k
    rwa [show (⟨q - 110, by omega⟩ : Fin 10).val + 110 = q from by show q - 110 + 110 = q; omega] at this
  by_cases h12 : q < 130
  · have := tL_fin12 ⟨q - 120, by omega⟩ k
    rwa [show (⟨q - 120, by omega⟩ : Fin 10).val + 120 = q from by show q - 120 + 120 = q; omega] at this
  by_cases h13 : q < 140
  · have := tL_fin13 ⟨q - 130, by omega⟩ k
    rwa [show (⟨q - 130, by omega⟩ : Fin 10).val + 130 = q from by show q - 130 + 130 = q; omega] at this
  omega
theorem lookup_in {β : Type} : ∀ {l : List (Nat × β)} {q : Nat} {v : β}, l.lookup q = some v → (q, v) ∈ l
  | [], _, _, h => by cases h
  | (a, b) :: l, q, v, h => by
    rw [List.lookup_cons] at h
    cases e : q == a with
    | true => rw [e] at h; cases h; rw [beq_iff_eq.mp e]; exact List.mem_cons_self
    | false => rw [e] at h; exact List.mem_cons_of_mem _ (lookup_in h)
theorem tL_jtau : tL lA = jtau := by
  funext q k
  by_cases hq : q < 137
  · by_cases hk : k < 20
    · exact tL_fin ⟨q, hq⟩ ⟨k, hk⟩
    · rw [tL_none2 (l := lA) (q := q) (k := k) fun x hx e => hk (by rw [← e]; exact lA_k x hx)]
      unfold jtau
      cases h : jtl.lookup q with
      | none => rfl
      | some v =>
        have h2 := jtl_k _ (lookup_in h)
        show none = (v[k]?).join
        rw [List.getElem?_eq_none (by dsimp only at h2; omega)]
        rfl
  · rw [tL_none (l := lA) (q := q) (k := k) fun x hx e => hq (by rw [← e]; exact lA_q x hx)]
    unfold jtau
    cases h : jtl.lookup q with
    | none => rfl
    | some v => exact absurd (jtl_q _ (lookup_in h)) hq
theorem jmT_join {s : Nat → Int → Int} : jmT 137 lA s = jmem s (fun _ _ => 0, fun _ _ => 0) := by
  unfold jmT jmem
  rw [tL_jtau, show jsh.take 137 = jsh from by decide +kernel]
section Y99j
variable {Γ : jE} {b : Nat × Nat × Nat} {mi : jMI} {pc : Nat} {L : List (Option Value)} {S : List Value} {P : Option Value → jM → Prop} {X : String → jM → Prop}
theorem Y.pub0 {sh : List (Nat × Nat)} {t : Nat → Nat → Option Nat} {s : Nat → Int → Int} (hp : PF sh t) {idx d' : Nat} {mi' : jMI} (As : List Value) {Q : Int → (Nat → Int → Int) → Prop} {X' : String → jM → Prop} (d : decode mi.2.1 pc = .ok (.invokevirtual idx, 3)) (hl : Cond.methodLink mi.1.cls idx mi'.1 ∈ jG) (hs : jVE mi' As.length) (hcl : mi'.1.cls = RX8) (hb : d' + 1 ≤ b.1)
    (hc : Con Γ (d', 0, 0) mi' (.ref 0 :: As) (jmem s e0) (RQ Q e0) X') (hX : ∀ E M', ¬ X' E M') (hAs : ∀ v ∈ As, ∃ x, v = .int x) (hh : ∀ w s', Q w s' → HiE s s') (hcat : (S.map fun v => v.category).sum ≤ 8)
    (k : ∀ w s', Q w s' → J Γ b mi (pc + 3) L (.int (iI w) :: S) (jmx sh t s') P X) : J Γ b mi pc L (As.reverse ++ .ref 0 :: S) (jmx sh t s) P X :=
  Y.pub hp (b' := (d', 0, 0)) As d hl hs hcl ⟨hb, Nat.zero_le _, Nat.zero_le _⟩ hc hX hAs hh hcat fun w s' hq => k w s' hq
end Y99j
theorem i_rc : aF iA0 0 = 1 := by decide +kernel
theorem i_cc : aF iA0 (18 + aF iA0 1) = 2 := by decide +kernel
theorem i_rs : gRemain (aF iA0) = 51 := by decide +kernel
set_option maxHeartbeats 4000000 in
set_option maxRecDepth 100000 in
theorem law_J {Γ : jE} (hl : Γ.1.stackTraces = false) {Ls : Nat} {xs : Nat → Int32} (hsc : Γ.2.2 = some (Ls, xs)) {d : Nat} (hd : 131 ≤ d) (hL : Ls ≤ 3072) :
    J Γ (d, 600086, 7301442) mLw 0 [some (.ref 2000000), none, none, none, none, none, none, none, none, none, none, none, none, none, none, none, none, none, none, none, none, none, none, none, none] [] (jmT 0 [] (fun _ _ => 0)) (fun v _ => v = some (.int (iI 1))) X0 := by
  have h0 : CT 0 [] (fun _ _ => 0) := ⟨by decide, fun x hx => absurd hx List.not_mem_nil, fun _ _ _ => rfl⟩
  refine K.new h0 (N' := 1) rfl dL_law_0 (ci := 8) (n := 12) rfl kL_25 iX8 iniX8 rfl (by decide) (show 1 ≤ 600086 ∧ 12 ≤ 7301442 from ⟨by decide, by decide⟩) fun h1 => ?_
  refine J.dupR dL_law_3 ?_
  refine K.initE (mi' := mX8_init) (b' := (d - 1, 136, 143601)) dL_law_4 lL_209 eX8_init (show d - 1 + 1 ≤ d ∧ 136 ≤ 600086 - 1 ∧ 143601 ≤ 7301442 - 12 from ⟨by omega, by decide, by decide⟩) (c_X8_init (d := d - 1) hl (by omega) h1) (Nat.le_of_ble_eq_true rfl) fun s1 h2 => ?_
  obtain ⟨h2, ci⟩ := h2
  rw [jmT_join]
  have hp : PF jsh jtau := ⟨Nat.le_of_eq jsh_len.symm, fun q _ => ⟨rfl, rfl⟩⟩
  have hx : XB jsh jtau s1 := ⟨by rw [jsh_len]; decide, fun q hq => by
    rw [jsh_len] at hq
    refine ⟨fun i => ?_, fun i => h2.2.2 q i hq⟩
    unfold jtau
    cases h : jtl.lookup q with
    | none => rfl
    | some v => exact absurd (jtl_q _ (lookup_in h)) (by show ¬ q < 137; omega)⟩
  show J Γ _ mLw _ _ _ (jmx jsh jtau s1) _ X0
  refine J.astore_n 1 dL_law_7 rfl (by decide) rfl ?_
  refine J.aload_n 1 dL_law_8 rfl rfl ?_
  refine Y.pub0 hp (d' := 100) (mi' := mX8_roundCount) [] dL_law_9 lL_166 eX8_roundCount rfl (by show 100 + 1 ≤ d; omega) (RI.rq (c_X8_roundCount hl (by decide) ci.m)) (fun _ _ h => h) (fun v h => absurd h List.not_mem_nil) (fun w s' h => by rw [h.2]; exact HiE.refl) (Nat.le_of_ble_eq_true rfl) ?_
  rintro w s' ⟨rfl, ee⟩
  have ee := ee.symm
  subst ee
  rw [i_rc]
  refine I.iconst dL_law_12 ?_
  refine I.icmp_ne 46 dL_law_13 (by decide) (by omega) (by omega) (fun h13 => ?_) (fun h13 => ?_)
  · exact absurd h13 (by omega)
  · skip
    refine J.aload_n 1 dL_law_16 rfl rfl ?_
    refine Y.pub0 hp (d' := 100) (mi' := mX8_chainCount) [] dL_law_17 lL_156 eX8_chainCount rfl (by show 100 + 1 ≤ d; omega) (RI.rq (c_X8_chainCount hl (by decide) ci.m)) (fun _ _ h => h) (fun v h => absurd h List.not_mem_nil) (fun w s' h => by rw [h.2]; exact HiE.refl) (Nat.le_of_ble_eq_true rfl) ?_
    rintro w s' ⟨rfl, ee⟩
    have ee := ee.symm
    subst ee
    rw [i_cc]
    refine I.iconst dL_law_20 ?_
    refine I.icmp_ne 46 dL_law_21 (by decide) (by omega) (by omega) (fun h21 => ?_) (fun h21 => ?_)
    · exact absurd h21 (by omega)
    · skip
      refine J.aload_n 1 dL_law_24 rfl rfl ?_
      refine Y.pub0 hp (d' := 100) (mi' := mX8_remainingScore) [] dL_law_25 lL_210 eX8_remainingScore rfl (by show 100 + 1 ≤ d; omega) (RI.rq (c_X8_remainingScore hl (by decide) ci.m)) (fun _ _ h => h) (fun v h => absurd h List.not_mem_nil) (fun w s' h => by rw [h.2]; exact HiE.refl) (Nat.le_of_ble_eq_true rfl) ?_
      rintro w s' ⟨rfl, ee⟩
      have ee := ee.symm
      subst ee
      rw [i_rs]
      refine I.bipush dL_law_28 (by decide) ?_
      refine I.icmp_ne 46 dL_law_30 (by decide) (by omega) (by omega) (fun h30 => ?_) (fun h30 => ?_)
      · exact absurd h30 (by omega)
      · skip
        refine J.aload_n 1 dL_law_33 rfl rfl ?_
        refine J.aload_n 0 dL_law_34 rfl rfl ?_
        refine I.iconst dL_law_35 ?_
        refine J.callS (b' := (100, 140, 400000)) (mi' := mL_match) [.ref 2000000, .int (iI 5)] dL_law_36 lL_213 eL_match rfl (show 100 + 1 ≤ d ∧ 140 ≤ 600086 - 1 - 136 ∧ 400000 ≤ 7301442 - 12 - 143601 from ⟨by omega, by decide, by decide⟩) (c_match hl hsc hL (by decide) hx (by rw [jsh_len]; decide)) (fun _ _ h => absurd h id) (Nat.le_of_ble_eq_true rfl) ?_
        rintro v M' ⟨q, sh2, t2, s2, T, mm, vv, rfl, rfl, ⟨ext, e2⟩, hk, hx2, hl2, hq, hI7, hI, hm, hall⟩
        rw [jsh_len] at hk hq hI7
        have hp2 : PF sh2 t2 := ⟨by rw [e2, List.length_append, jsh_len]; omega, fun a ha => ⟨by rw [e2, List.getElem?_append_left (by rw [jsh_len]; exact ha)], (hk a ha).1⟩⟩
        have ci2 : CI s2 iA0 := ci.hi (fun a j ha => congrFun (hk a ha).2 j)
        refine J.callSW (b' := (100, 60, 456)) (mi' := mL_loads) [.ref 0, .ref q] dL_law_39 lL_217 eL_loads (show 100 + 1 ≤ d ∧ 60 ≤ 600086 - 1 - 136 - 140 ∧ 456 ≤ 7301442 - 12 - 143601 - 400000 from ⟨by omega, by decide, by decide⟩) (w_loads hl (by decide) hp2 ci2 iA0_ok hI hm hq hI7 hall) (Nat.le_of_ble_eq_true rfl) ?_
        rintro v M' ⟨w, s3, a3, rfl, rfl, w1, w4, ci3, ai3, f4, hh⟩
        refine I.iconst dL_law_42 ?_
        refine I.icmp_ge 48 dL_law_43 (by decide) (by omega) (by omega) (fun h43 => ?_) (fun h43 => ?_)
        · skip
          refine I.iconst dL_law_48 ?_
          refine J.istore_n 2 dL_law_49 rfl (by decide) rfl ?_
          refine I.iconst dL_law_50 ?_
          refine J.istore_n 3 dL_law_51 rfl (by decide) rfl ?_
          refine J.mono (b := (d, 20 + 172 * 5, 200 + 1015 * 5)) ?_ (fun _ _ h => h) (fun _ _ h => h) ⟨Nat.le_refl d, show 20 + 172 * 5 ≤ 600086 - 1 - 136 - 140 - 60 from by decide, show 200 + 1015 * 5 ≤ 7301442 - 12 - 143601 - 400000 - 456 from by decide⟩
          exact k_turns hl (N := 800000) hsc hL (by omega) (by decide) (fun _ => rfl) 5 (tn := 0) (b := 0) (by decide) (by decide) ai3 (by decide) (fun _ => ⟨fun h => absurd h (by decide), fun h => by omega⟩) hp2 (hx2.hi hp2 hh) ci3 (by omega)
        · exact absurd h43 (by omega)
