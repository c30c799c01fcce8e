/-! memories with more cells behind the class's -/
def e0 : jEps := (fun _ _ => 0, fun _ _ => 0)
def jmx (sh : List (Nat × Nat)) (t : Nat → Nat → Option Nat) (s : Nat → Int → Int) : jM := (sh, t, fun q k => iI (s q k), e0)
/-- the class's cells stand first -/
def PF (sh : List (Nat × Nat)) (t : Nat → Nat → Option Nat) : Prop := 137 ≤ sh.length ∧ ∀ q, q < 137 → sh[q]? = jsh[q]? ∧ t q = jtau q
def mix (s' s : Nat → Int → Int) : Nat → Int → Int := fun q => if q < 137 then s' q else s q
theorem mix_lo {s' s : Nat → Int → Int} {q : Nat} (h : q < 137) : mix s' s q = s' q := if_pos h
theorem mix_hi {s' s : Nat → Int → Int} {q : Nat} (h : 137 ≤ q) : mix s' s q = s q := if_neg (by omega)
theorem mix_self {s : Nat → Int → Int} : mix s s = s := by funext q; unfold mix; split <;> rfl
theorem mix_mix {s'' s' s : Nat → Int → Int} : mix s'' (mix s' s) = mix s'' s := by
  funext q
  by_cases h : q < 137
  · rw [mix_lo h, mix_lo h]
  · rw [mix_hi (by omega), mix_hi (by omega), mix_hi (by omega)]
theorem jsh_len : jsh.length = 137 := by decide +kernel
theorem jtl_tau : ∀ p ∈ jtl, ∀ x ∈ p.2, ∀ r ∈ x, r < 137 := by decide +kernel
theorem jtau_lt {q i r : Nat} (h : jtau q i = some r) : r < 137 := by
  unfold jtau at h
  cases hl : jtl.lookup q with
  | none => rw [hl] at h; cases h
  | some l =>
    rw [hl] at h
    have h2 : (l[i]?).join = some r := h
    cases hi : l[i]? with
    | none => rw [hi] at h2; cases h2
    | some x =>
      rw [hi] at h2
      have hm : (q, l) ∈ jtl := by
        clear hi h2 h
        revert hl
        generalize jtl = L
        intro hl
        induction L with
        | nil => cases hl
        | cons a L ih =>
          obtain ⟨a1, a2⟩ := a
          rw [List.lookup_cons] at hl
          cases e : q == a1 with
          | true => rw [e] at hl; cases hl; rw [beq_iff_eq.mp e]; exact List.mem_cons_self
          | false => rw [e] at hl; exact List.mem_cons_of_mem _ (ih hl)
      exact jtl_tau _ hm x (List.mem_of_getElem? hi) r h2
theorem vx_Met.mono {l : Launch} {y : MethodName} {ws : List Cond} {rm : Room} {Pc Pc' : Array Value → State → Prop} {Qc Qc' : Array Value → State → Outcome → State → Prop} {XC XC' : String → State → State → Prop} {mc ms : Nat} {free free' : Addr → Prop} (h : vx_Met l y ws rm Pc Qc XC mc ms free)
    (hp : ∀ a st, Pc' a st → Pc a st) (hq : ∀ a st o t, Pc' a st → st.vm.Alike t.vm → Qc a st o t → Qc' a st o t) (hx : ∀ a E st t, Pc' a st → st.vm.Alike t.vm → XC E st t → XC' E st t) (hf : ∀ q, free q → free' q) : vx_Met l y ws rm Pc' Qc' XC' mc ms free' := by
  intro p e a1 a2 a3 s m args below b1 b2 b3 b4
  obtain ⟨n, o, q1, q2, q3, q4⟩ := h p e a1 a2 a3 s m args below b1 b2 (hp _ _ b3) b4
  refine ⟨n, o, q1, q2, q3, ?_⟩
  rcases q4 with ⟨c1, L, c2, c3⟩ | ⟨q, e1, E, ce, L, c1, c2, c3, c4, c5, c6, c7⟩
  · exact Or.inl ⟨hq _ _ _ _ b3 c2.2.1.alike c1, L, c2, fun z hz => hf _ (c3 z hz)⟩
  · exact Or.inr ⟨q, e1, E, ce, L, hx _ _ _ _ b3 c5.alike c1, c2, c3, c4, c5, c6, fun z hz => hf _ (c7 z hz)⟩
section FR
variable {Γ : jE} {sh : List (Nat × Nat)} {t : Nat → Nat → Option Nat} {s s' : Nat → Int → Int} {ρ ρ' : Nat → Nat} {κ κ' : Nat → ClassId} {sz : Nat}
theorem jcell_lo (hp : PF sh t) (hρ : ∀ r, r < 137 → ρ' r = ρ r) {k : Nat} (hk : k < 137) {z : Nat × Nat} {κ2 : Nat → ClassId} (hκ : κ2 k = κ' k) : jcell ρ κ2 (jmx sh t (mix s' s)) k z = jcell ρ' κ' (jmem s' e0) k z := by
  have e1 : ∀ i, ((jmx sh t (mix s' s)).2.1 k i).map ρ = ((jmem s' e0).2.1 k i).map ρ' := by
    intro i
    show (t k i).map ρ = (jtau k i).map ρ'
    rw [(hp.2 k hk).2]
    cases h : jtau k i with
    | none => rfl
    | some r => show some (ρ r) = some (ρ' r); rw [hρ r (jtau_lt h)]
  have e2 : (jmx sh t (mix s' s)).2.2.1 k = (jmem s' e0).2.2.1 k := by
    funext i
    show iI (mix s' s k i) = iI (s' k i)
    rw [mix_lo hk]
  unfold jcell jfv
  simp only [e1, e2, hκ]
  rfl
theorem jcell_hi {k : Nat} (hk : 137 ≤ k) {z : Nat × Nat} {κ2 : Nat → ClassId} (hκ : κ2 k = κ k) : jcell ρ κ2 (jmx sh t (mix s' s)) k z = jcell ρ κ (jmx sh t s) k z := by
  have e2 : (jmx sh t (mix s' s)).2.2.1 k = (jmx sh t s).2.2.1 k := by
    funext i
    show iI (mix s' s k i) = iI (s k i)
    rw [mix_hi hk]
  unfold jcell jfv
  simp only [e2, hκ]
  rfl
theorem jw_in {M : jM} {k : Nat} {x : Nat × va_E} (h : (jw ρ κ M)[k]? = some x) : ∃ z, M.1[k]? = some z ∧ x = (ρ k, jcell ρ κ M k z) := by
  unfold jw at h
  rw [List.getElem?_mapIdx] at h
  cases hz : M.1[k]? with
  | none => rw [hz] at h; cases h
  | some z => rw [hz] at h; exact ⟨z, rfl, (Option.some.inj h).symm⟩
theorem jw_frame (hp : PF sh t) {k : Nat} {x : Nat × va_E} (h : (jw ρ κ (jmem s e0))[k]? = some x) : (jw ρ κ (jmx sh t s))[k]? = some x ∧ k < 137 := by
  obtain ⟨z, hz, rfl⟩ := jw_in h
  have hk : k < 137 := by have := (List.getElem?_eq_some_iff.mp hz).1; rw [show (jmem s e0).1 = jsh from rfl, jsh_len] at this; exact this
  refine ⟨?_, hk⟩
  have h2 : (jmx sh t s).1[k]? = some z := by rw [show (jmx sh t s).1 = sh from rfl, (hp.2 k hk).1]; exact hz
  rw [jw_at h2]
  have := jcell_lo (s' := s) (s := s) (ρ := ρ) (ρ' := ρ) (κ' := κ) (κ2 := κ) hp (fun _ _ => rfl) hk (z := z) rfl
  rw [mix_self] at this
  rw [this]
theorem jA_frame (hp : PF sh t) {q : Nat} (h : va_A (jw ρ κ (jmem s e0)) sz q) : va_A (jw ρ κ (jmx sh t s)) sz q := by
  rcases h with ⟨k, e, h⟩ | h
  · exact Or.inl ⟨k, e, (jw_frame hp h).1⟩
  · exact Or.inr h
theorem jPre_frame (hp : PF sh t) {U : State} (h : jPre Γ ρ κ (jmx sh t s) sz U) : jPre Γ ρ κ (jmem s e0) sz U := by
  obtain ⟨h0, h1, h2, h3, h4, h5, h6⟩ := h
  refine ⟨h0, ⟨fun k x hk => h1.1 k x (jw_frame hp hk).1, fun q z hq hz => h1.2.1 q z ?_ hz, fun q i r hr => by show r < jsh.length; rw [jsh_len]; exact jtau_lt hr⟩, h2, ⟨fun i j p q hi hj e => h3.1 i j p q (jw_frame hp hi).1 (jw_frame hp hj).1 e, fun _ _ _ => trivial⟩, ?_, h5, h6⟩
  · have hk : q < 137 := by have := (List.getElem?_eq_some_iff.mp hq).1; rw [show (jmem s e0).1 = jsh from rfl, jsh_len] at this; exact this
    show sh[q]? = some z
    rw [(hp.2 q hk).1]; exact hq
  · obtain ⟨g1, g2, g3, g4⟩ := h4
    exact ⟨g1.narrow fun q hq => jA_frame hp hq, g2.narrow fun q hq => jA_frame hp hq, fun L xs hl => by
      obtain ⟨u1, u2, u3⟩ := g3 L xs hl
      exact ⟨u1, u2, fun hq => u3 (jA_frame hp hq)⟩, g4.narrow fun q hq => jA_frame hp hq⟩
theorem frame_core (hp : PF sh t) {st tt : State} (hpre : jPre Γ ρ κ (jmx sh t s) sz st) (hv : st.vm.Alike tt.vm) (hn : ∀ k, k < 137 ∨ 1000000 ≤ k → ρ' k = ρ k) (hI : jInv Γ ρ' κ' (jmem s' e0) tt tt.heap) (hF : va_F (va_A (jw ρ κ (jmem s e0)) sz) st tt) :
    ∃ κ2, jInv Γ ρ κ2 (jmx sh t (mix s' s)) tt tt.heap ∧ va_D (va_A (jw ρ κ (jmx sh t s)) sz) (jw ρ κ2 (jmx sh t (mix s' s))) ∧ va_F (va_A (jw ρ κ (jmx sh t s)) sz) st tt := by
  obtain ⟨h0, h1, h2, h3, -⟩ := hpre
  have hx : ∀ (k : Nat) (x : Nat × va_E), (jw ρ (fun q => if q < 137 then κ' q else κ q) (jmx sh t (mix s' s)))[k]? = some x → ∃ z, sh[k]? = some z ∧ x.1 = ρ k ∧ ((k < 137 ∧ (jw ρ' κ' (jmem s' e0))[k]? = some x) ∨ (137 ≤ k ∧ (jw ρ κ (jmx sh t s))[k]? = some x)) := by
    intro k x hk
    obtain ⟨z, hz, rfl⟩ := jw_in hk
    refine ⟨z, hz, rfl, ?_⟩
    by_cases hlt : k < 137
    · refine Or.inl ⟨hlt, ?_⟩
      have h9 : (jmem s' e0).1[k]? = some z := by show jsh[k]? = some z; rw [← (hp.2 k hlt).1]; exact hz
      rw [jw_at h9, jcell_lo (κ2 := fun q => if q < 137 then κ' q else κ q) (κ' := κ') hp (fun r hr => hn r (Or.inl hr)) hlt (if_pos hlt), hn k (Or.inl hlt)]
    · refine Or.inr ⟨by omega, ?_⟩
      have h9 : (jmx sh t s).1[k]? = some z := hz
      rw [jw_at h9, jcell_hi (κ2 := fun q => if q < 137 then κ' q else κ q) (κ := κ) (by omega) (if_neg hlt)]
  refine ⟨fun q => if q < 137 then κ' q else κ q, ⟨fun k x hk => ?_, fun q z hq hz => ?_, h1.2.2⟩, ⟨fun i j p q hi hj e => ?_, fun k q hk => ?_⟩, hF.1, fun q q1 q2 => hF.2 q q1 fun hq => q2 (jA_frame hp hq)⟩
  · obtain ⟨z, hz, e1, ⟨hlt, h9⟩ | ⟨hge, h9⟩⟩ := hx k x hk
    · exact hI.1 k x h9
    · have hat := h1.1 k x h9
      refine hat.kept (hF.2 _ hat.lt ?_)
      rintro (⟨k2, e2, h8⟩ | h8)
      · obtain ⟨h7, hk2⟩ := jw_frame hp h8
        have := h3.1 k2 k _ _ h7 h9 rfl
        omega
      · have := hat.lt; omega
  · by_cases hlt : q < 137
    · have := hI.2.1 q z (by show jsh[q]? = some z; rw [← (hp.2 q hlt).1]; exact hq) hz
      simp only [if_pos hlt]
      exact this
    · simp only [if_neg hlt]
      exact va_K.moved hv (h1.2.1 q z hq hz)
  · obtain ⟨z1, g1, g2, -⟩ := hx i p hi
    obtain ⟨z2, g3, g4, -⟩ := hx j q hj
    refine h3.1 i j _ _ (jw_at (M := jmx sh t s) g1) (jw_at (M := jmx sh t s) g3) ?_
    show ρ i = ρ j
    rw [← g2, ← g4]; exact e
  · obtain ⟨z1, g1, g2, -⟩ := hx k q hk
    rw [g2]
    exact va_A.in (jw_at (M := jmx sh t s) g1)
theorem jre_int {v : Option Value} (h : v = none ∨ ∃ x, v = some (.int x)) : v.map (jre ρ) = v.map (jre ρ') := by
  rcases h with rfl | ⟨x, rfl⟩ <;> rfl
variable {b : Nat × Nat × Nat} {mi : jMI} {hh : List (Nat × Nat × Nat × Nat)} {av : List Value} {P : Option Value → jM → Prop} {X : String → jM → Prop}
/-- what a framed call gives -/
def FQ (sh : List (Nat × Nat)) (t : Nat → Nat → Option Nat) (s : Nat → Int → Int) (P : Option Value → jM → Prop) : Option Value → jM → Prop := fun v M => ∃ s', P v (jmem s' e0) ∧ M = jmx sh t (mix s' s)
def FX (sh : List (Nat × Nat)) (t : Nat → Nat → Option Nat) (s : Nat → Int → Int) (X : String → jM → Prop) : String → jM → Prop := fun E M => ∃ s', X E (jmem s' e0) ∧ M = jmx sh t (mix s' s)
theorem jQ_frame (hp : PF sh t) (hP : ∀ v M', P v M' → (∃ s', M' = jmem s' e0) ∧ (v = none ∨ ∃ x, v = some (.int x))) {a : Array Value} {st : State} {o : Outcome} {tt : State} (hpre : jPre Γ ρ κ (jmx sh t s) sz st) (hv : st.vm.Alike tt.vm) (h : jQ Γ ρ κ (jmem s e0) sz P a st o tt) : jQ Γ ρ κ (jmx sh t s) sz (FQ sh t s P) a st o tt := by
  obtain ⟨⟨v, M', ρ', κ', h1, h2, h3, h4, h5, h6, h7⟩, h8⟩ := h
  obtain ⟨⟨s', rfl⟩, hvi⟩ := hP v M' h2
  have h5' : ∀ k, k < 137 ∨ 1000000 ≤ k → ρ' k = ρ k := fun k hk => h5 k (hk.imp (fun z => by show k < jsh.length; rw [jsh_len]; exact z) id)
  obtain ⟨κ2, g1, g2, g3⟩ := frame_core hp hpre hv h5' h6 h8
  refine ⟨⟨v, _, ρ, κ2, by rw [h1, jre_int hvi], ⟨s', h2, rfl⟩, fun w hw => ?_, Nat.le_refl _, fun _ _ => rfl, g1, g2⟩, g3⟩
  rcases hvi with rfl | ⟨x, rfl⟩
  · cases hw
  · cases hw; trivial
theorem jXC_frame (hp : PF sh t) (hX : ∀ E M', X E M' → ∃ s', M' = jmem s' e0) {E : String} {st tt : State} (hpre : jPre Γ ρ κ (jmx sh t s) sz st) (hv : st.vm.Alike tt.vm) (h : jXC Γ ρ κ (jmem s e0) sz X E st tt) : jXC Γ ρ κ (jmx sh t s) sz (FX sh t s X) E st tt := by
  obtain ⟨⟨M', ρ', κ', h2, h4, h5, h6, h7⟩, h8⟩ := h
  obtain ⟨s', rfl⟩ := hX E M' h2
  have h5' : ∀ k, k < 137 ∨ 1000000 ≤ k → ρ' k = ρ k := fun k hk => h5 k (hk.imp (fun z => by show k < jsh.length; rw [jsh_len]; exact z) id)
  obtain ⟨κ2, g1, g2, g3⟩ := frame_core hp hpre hv h5' h6 h8
  exact ⟨⟨_, ρ, κ2, ⟨s', h2, rfl⟩, Nat.le_refl _, fun _ _ => rfl, g1, g2⟩, g3⟩
theorem Con.frame (hp : PF sh t) (hok : ∀ v ∈ av, jok 137 v) (hP : ∀ v M', P v M' → (∃ s', M' = jmem s' e0) ∧ (v = none ∨ ∃ x, v = some (.int x))) (hX : ∀ E M', X E M' → ∃ s', M' = jmem s' e0) (h : Con Γ b mi av (jmem s e0) P X) : Con Γ b mi av (jmx sh t s) (FQ sh t s P) (FX sh t s X) := by
  intro ρ κ sz _
  refine (h ρ κ sz (fun v hv => by show jok jsh.length v; rw [jsh_len]; exact hok v hv)).mono (fun a st ha => ⟨ha.1, jPre_frame hp ha.2⟩) (fun a st o tt ha hv hq => jQ_frame hp hP ha.2 hv hq) (fun a E st tt ha hv hx => jXC_frame hp hX ha.2 hv hx) (fun q hq => jA_frame hp hq)
theorem ConW.frame (hp : PF sh t) (hok : ∀ v ∈ av, jok 137 v) (hP : ∀ v M', P v M' → (∃ s', M' = jmem s' e0) ∧ (v = none ∨ ∃ x, v = some (.int x))) (h : ConW Γ b mi hh av (jmem s e0) P) : ConW Γ b mi hh av (jmx sh t s) (FQ sh t s P) := by
  intro ρ κ sz _
  refine (h ρ κ sz (fun v hv => by show jok jsh.length v; rw [jsh_len]; exact hok v hv)).mono (fun a st ha => ⟨ha.1, jPre_frame hp ha.2⟩) (fun a st o tt ha hv hq => jQ_frame hp hP ha.2 hv hq) (fun a E st tt ha hv hx => absurd hx (by rintro ⟨⟨M', ρ', κ', h2, -⟩, -⟩; exact h2)) (fun q hq => jA_frame hp hq)
end FR
