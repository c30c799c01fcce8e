/-- a whole reading's outcome -/
def MF (T : Int → Int) (n : Int) (s s' : Nat → Int → Int) (w : Int) (z : Int × Int × (Int → Int)) : Prop :=
  FrN s s' ∧ (w = 1 ∧ z.1 = 0 ∧ (MV s' z.2.2 ∧ s' 137 2 = 2320) ∧ FL z.2.2 ∧ FS z.2.2 ∨ w = 0 ∧ z.1 ≠ 0 ∧ s' 137 14 = pS T n z.2.1 ∧ s' 137 16 = z.1)
noncomputable def pFin (T : Int → Int) (n : Int) (z : Int × Int × (Int → Int)) : Int × Int × (Int → Int) := if z.1 ≠ 0 then z else pMs T n 500 z.2.1 (gDeal z.2.2 0 0)
section MFs
variable {T : Int → Int} {n q e : Int} {g h : Int → Int} {s s' z : Nat → Int → Int} {r t : Int × Int × (Int → Int)} {ok : Prop}
theorem pFin_e (h : r.1 ≠ 0) : pFin T n r = r := if_pos h
theorem pFin_0 (h : r.1 = 0) : pFin T n r = pMs T n 500 r.2.1 (gDeal r.2.2 0 0) := if_neg (not_not_intro h)
theorem pAll_fin : pAll T n = pFin T n (pLay T n) := pAll_eq
theorem MF.bad (f : FrN s z) (h : MK T n z q) (e1 : r = (e, q, g)) (ne : e ≠ 0) : MF T n s (up z 137 16 e) 0 r := by
  subst e1
  exact ⟨f.trans ⟨fun a j x y => up_ne (by omega), fun j x => up_ne (by omega)⟩, Or.inr ⟨rfl, ne, (up_ne (by omega)).trans h.2.2.2.1, up_eq _ _ _ _⟩⟩
theorem MF.is (f : FrN s z) (h : MK T n z q) (h1 : z 137 16 = 1) (e1 : r = (1, q, g)) : MF T n s z 0 r := by
  subst e1
  exact ⟨f, Or.inr ⟨rfl, by show (1 : Int) ≠ 0; decide, h.2.2.2.1, h1⟩⟩
/-- a part that failed, at no token that the language has not -/
theorem MF.fails {w : Int} (f : FrN s z) (h : MR T n z s' w r ok) (h0 : w = 0) (e1 : r.1 ≠ 0 → t = r) (e2 : r.1 = 0 → pTok T n r.2.1) : MF T n s s' 0 t := by
  obtain ⟨f2, ⟨a, b⟩ | ⟨a, b, c⟩⟩ := h
  · omega
  · rcases c with ⟨c, d⟩ | ⟨c, d, x⟩
    · rw [e1 c]; exact ⟨f.trans f2, Or.inr ⟨rfl, c, b, d⟩⟩
    · exact absurd (e2 c) d
theorem MF.rng {w : Int} (h : MF T n s s' w r) : 0 ≤ w ∧ w ≤ 1 := by
  obtain ⟨f2, ⟨a, b⟩ | ⟨a, b⟩⟩ := h <;> omega
theorem pTok_k4 (h : pK T n q = 4) : pTok T n q := by unfold pTok; omega
theorem pTok_k0 (h : pK T n q = 0) : pTok T n q := by unfold pTok; omega
theorem pK_far (h : n ≤ q) (h2 : q ≤ n) : pK T n q = 0 := by
  have a := pS_le (T := T) h2
  exact if_neg (by omega)
theorem pMs_0 {k : Nat} (h : pK T n q = 0) : pMs T n k q g = (0, q, g) := by
  cases k with
  | zero => rfl
  | succ k => exact if_pos h
theorem pMs_s {k : Nat} (h : pK T n q ≠ 0) (h2 : (pMv T n q g).1 = 0) : pMs T n (k + 1) q g = pMs T n k (pN T n (pMv T n q g).2.1) (pMv T n q g).2.2 := (if_neg h).trans (if_neg (not_not_intro h2))
theorem pMs_e {k : Nat} (h : pK T n q ≠ 0) (h2 : (pMv T n q g).1 ≠ 0) : pMs T n (k + 1) q g = pMv T n q g := (if_neg h).trans (if_pos h2)
theorem pRs_s {k : Nat} (h : pW T n q 0) (h2 : (pRd T n q g).1 = 0) : pRs T n (k + 1) q g = pRs T n k (pN T n (pRd T n q g).2.1) (pRd T n q g).2.2 := (pIf_t h).trans (if_neg (not_not_intro h2))
theorem pRs_e {k : Nat} (h : pW T n q 0) (h2 : (pRd T n q g).1 ≠ 0) : pRs T n (k + 1) q g = pRd T n q g := (pIf_t h).trans (if_pos h2)
theorem pRs_5 (h : pW T n q 0) : pRs T n 0 q g = (5, q, g) := by show (pIf _ _ _, _, _) = _; rw [pIf_t h]
/-- where no round begins, moves do -/
theorem pFin_w {k : Nat} (h : ¬ pW T n q 0) : pFin T n (pRs T n k q g) = pMs T n 500 q (gDeal g 0 0) := by rw [pRs_w h]; exact pFin_0 rfl
theorem MB.at (h : MB T n s) (f : FrM s s') : MB T n s' := ⟨fun i a b => (f.1 _ _ (by omega)).trans (h.1 i a b), (f.1 _ _ (by omega)).trans h.2⟩
end MFs
set_option maxHeartbeats 1000000 in
theorem k_X9_reads_74 {Γ : jE} (hl : Γ.1.stackTraces = false) {s : Nat → Int → Int} {ε : jEps} {d : Nat} {T : Int → Int} {n : Int} (hd : 7 ≤ d) (p0 : PTx T n) (p1 : MB T n s) (p2 : s 137 2 = 2320) : ∀ (k : Nat) {z : Nat → Int → Int} {p : Int} {h : Int → Int} (q0 : n ≤ p + (k : Nat)) (q1 : MM T n z h p) (q2 : FrN s z) (q3 : pTok T n p), J Γ (d, 0, 0) mX9_reads 74 [some (.ref 137)] [] (jmem z ε) (RQ (fun w s' => MF T n s s' w (pMs T n k p h)) ε) X0 := by
  have n0 := p0.1
  intro k
  induction k with
  | zero =>
    intro z p h q0 q1 q2 q3
    have w := q1.1.w p0
    have ks := pSrt_rng _ w.2.1
    have k0 := pSrt_0 (pK T n p)
    refine J.aload_n 0 dX9_reads_74 rfl rfl ?_
    refine I.gI 15 rfl dX9_reads_75 jcls fX9_172 rfl (by decide) rfl ?_
    refine I.sx q1.1.2.2.2.2 ?_
    refine I.if_eq 97 dX9_reads_78 (by decide) (by omega) (fun h78 => ?_) (fun h78 => ?_)
    · skip
      have e9 : pMs T n 0 p h = (0, p, h) := pMs_0 (by omega)
      refine I.iconst dX9_reads_97 ?_
      exact I.zretQ dX9_reads_98 rfl (by first | exact Or.inl rfl | exact Or.inr rfl | exact bI_01 _ | omega) (by rw [e9]; exact ⟨q2, Or.inl ⟨rfl, rfl, q1.2.1, q1.2.2⟩⟩)
    · skip
      have := pK_far (T := T) (n := n) (q := p) (by omega) (by omega)
      omega
  | succ k ih =>
    intro z p h q0 q1 q2 q3
    have w := q1.1.w p0
    have ks := pSrt_rng _ w.2.1
    have k0 := pSrt_0 (pK T n p)
    refine J.aload_n 0 dX9_reads_74 rfl rfl ?_
    refine I.gI 15 rfl dX9_reads_75 jcls fX9_172 rfl (by decide) rfl ?_
    refine I.sx q1.1.2.2.2.2 ?_
    refine I.if_eq 97 dX9_reads_78 (by decide) (by omega) (fun h78 => ?_) (fun h78 => ?_)
    · skip
      have e9 : pMs T n (k + 1) p h = (0, p, h) := pMs_0 (by omega)
      refine I.iconst dX9_reads_97 ?_
      exact I.zretQ dX9_reads_98 rfl (by first | exact Or.inl rfl | exact Or.inr rfl | exact bI_01 _ | omega) (by rw [e9]; exact ⟨q2, Or.inl ⟨rfl, rfl, q1.2.1, q1.2.2⟩⟩)
    · skip
      have kn : pK T n p ≠ 0 := by omega
      refine J.aload_n 0 dX9_reads_81 rfl rfl ?_
      refine I.callV0q (d' := d - 1) (mi' := mX9_readsMove) dX9_reads_82 lX9_195 eX9_readsMove rfl rfl (c_X9_readsMove (d := d - 1) hl (by omega) p0 q1) (show d - 1 + 1 ≤ d from by omega) (Nat.le_of_ble_eq_true rfl) ?_
      rintro w82 s82 o82
      refine I.if_eq 95 dX9_reads_85 (by decide) (by have := o82.rng; omega) (fun h85 => ?_) (fun h85 => ?_)
      · skip
        skip
        refine I.iconst dX9_reads_95 ?_
        exact I.zretQ dX9_reads_96 rfl (by first | exact Or.inl rfl | exact Or.inr rfl | exact bI_01 _ | omega) (MF.fails q2 o82 h85 (fun x => pMs_e kn x) (fun x => pTok_k4 (pMv_pos (by omega) kn x).2.2))
      · skip
        obtain ⟨z82, t82, d82, k82⟩ := o82.went h85
        have w5 := d82.1.w p0
        have pp := pMv_pos (T := T) (n := n) (q := p) (g := h) (by omega) kn z82
        refine J.aload_n 0 dX9_reads_88 rfl rfl ?_
        refine I.callV0q (d' := d - 1) (mi' := mX9_token) dX9_reads_89 lX9_178 eX9_token rfl rfl (c_X9_token (d := d - 1) hl (by omega) p0 d82.1.1 ⟨d82.1.2.2.1, by omega, by omega⟩) (show d - 1 + 1 ≤ d from by omega) (Nat.le_of_ble_eq_true rfl) ?_
        rintro w89 s89 ⟨m89, f89, o89⟩
        refine I.if_ne 74 dX9_reads_92 (by decide) (by rcases o89 with x | x <;> omega) (fun h92 => ?_) (fun h92 => ?_)
        · skip
          have yes : pTok T n (pN T n (pMv T n p h).2.1) := by rcases o89 with x | x; exact x.2; omega
          rw [pMs_s kn z82]
          exact J.fgt (by exact ⟨Or.inr rfl, trivial⟩) (ih (by omega) (d82.ft m89 f89) ((q2.trans o82.1).trans (FrN.ft f89)) yes)
        · skip
          have no : ¬ pTok T n (pN T n (pMv T n p h).2.1) ∧ s89 137 16 = 1 := by rcases o89 with x | x; omega; exact x.2
          have e9 : pMs T n (k + 1) p h = (1, pN T n (pMv T n p h).2.1, (pMv T n p h).2.2) := by
            rw [pMs_s kn z82]
            cases k with
            | zero => exact absurd (pTok_k0 (pK_far (by omega) (by omega))) no.1
            | succ k => exact pMs_bad no.1
          refine I.iconst dX9_reads_95 ?_
          exact I.zretQ dX9_reads_96 rfl (by first | exact Or.inl rfl | exact Or.inr rfl | exact bI_01 _ | omega) (MF.is ((q2.trans o82.1).trans (FrN.ft f89)) m89 no.2 e9)
set_option maxHeartbeats 1000000 in
theorem k_X9_reads_31 {Γ : jE} (hl : Γ.1.stackTraces = false) {s : Nat → Int → Int} {ε : jEps} {d : Nat} {T : Int → Int} {n : Int} (hd : 7 ≤ d) (p0 : PTx T n) (p1 : MB T n s) (p2 : s 137 2 = 2320) : ∀ (k : Nat) {z : Nat → Int → Int} {p : Int} {h : Int → Int} (q0 : ((k : Nat) : Int) = 4 - h 0) (q1 : MD T n z h p) (q2 : FrN s z) (q3 : pTok T n p) (q4 : FF h (h 0)) (q5 : pW T n p 0 ∨ 1 ≤ h 0), J Γ (d, 0, 0) mX9_reads 31 [some (.ref 137)] [] (jmem z ε) (RQ (fun w s' => MF T n s s' w (pFin T n (pRs T n k p h))) ε) X0 := by
  have n0 := p0.1
  intro k
  induction k with
  | zero =>
    intro z p h q0 q1 q2 q3 q4 q5
    have w := q1.1.w p0
    have a0 := q1.2.2.1
    refine J.aload_n 0 dX9_reads_31 rfl rfl ?_
    refine I.callV0i (d' := d - 1) (mi' := mX9_isRoundWord) dX9_reads_32 lX9_189 eX9_isRoundWord rfl rfl (c_X9_isRoundWord (d := d - 1) hl (by omega) p0 q1.1) (show d - 1 + 1 ≤ d from by omega) (Nat.le_of_ble_eq_true rfl) ?_
    refine I.if_eqB 69 dX9_reads_35 (by decide) (fun h35 => ?_) (fun h35 => ?_)
    · skip
      rw [pFin_w h35]
      have hL : FL h := q1.2.2.full (by rcases q5 with x | x; exact absurd x h35; exact x) q4
      have h1 : h 1 = 0 := q1.2.2.2.2.2.2 1 (by omega) (by omega)
      refine J.aload_n 0 dX9_reads_69 rfl rfl ?_
      refine I.iconst dX9_reads_70 ?_
      refine I.callV1w (d' := d - 1) (mi' := mX9_deals) dX9_reads_71 lX9_36 eX9_deals rfl rfl (c_X9_deals (d := d - 1) hl (by omega) q1.2.1.1 (by omega)) (show d - 1 + 1 ≤ d from by omega) (Nat.le_of_ble_eq_true rfl) ?_
      rintro s71 ⟨m71, f71⟩
      rw [h1] at m71
      have d71 : MM T n s71 (gDeal h 0 0) p := ⟨q1.1.fm f71, ⟨m71, MV.at0 q1.2.1 f71⟩, hL.lay gDeal_lay, gDeal_FS hL (FD_0 q1.2.2 hL) (by decide)⟩
      have f72 : FrN s s71 := q2.trans (FrN.fm f71 q1.2.1.2)
      exact J.fgt (by exact ⟨Or.inr rfl, trivial⟩) (k_X9_reads_74 hl (by omega) p0 p1 p2 (500) (by omega) d71 f72 q3)
    · skip
      refine J.aload_n 0 dX9_reads_38 rfl rfl ?_
      refine I.iconst dX9_reads_39 ?_
      refine I.callV1i (d' := d - 1) (mi' := mX9_get) dX9_reads_40 lX9_46 eX9_get rfl rfl (c_X9_get (d := d - 1) hl (by omega) q1.2.1.1 (by omega)) (show d - 1 + 1 ≤ d from by omega) (Nat.le_of_ble_eq_true rfl) ?_
      refine I.iconst dX9_reads_43 ?_
      refine I.icmp_ne 53 dX9_reads_44 (by decide) (by omega) (by omega) (fun h44 => ?_) (fun h44 => ?_)
      · exact absurd h44 (by omega)
      · skip
        have e9 : pFin T n (pRs T n 0 p h) = (5, p, h) := by rw [pRs_5 h35]; exact pFin_e (by exact (by decide : (5 : Int) ≠ 0))
        refine J.aload_n 0 dX9_reads_47 rfl rfl ?_
        refine I.iconst dX9_reads_48 ?_
        refine I.callV1i (d' := d - 1) (mi' := mX9_faults) dX9_reads_49 lX9_175 eX9_faults rfl rfl (c_X9_faults (d := d - 1) hl (by omega) ) (show d - 1 + 1 ≤ d from by omega) (Nat.le_of_ble_eq_true rfl) ?_
        exact I.zretQ dX9_reads_52 rfl (by first | exact Or.inl rfl | exact Or.inr rfl | exact bI_01 _ | omega) (MF.bad q2 q1.1 e9 (by decide))
  | succ k ih =>
    intro z p h q0 q1 q2 q3 q4 q5
    have w := q1.1.w p0
    have a0 := q1.2.2.1
    refine J.aload_n 0 dX9_reads_31 rfl rfl ?_
    refine I.callV0i (d' := d - 1) (mi' := mX9_isRoundWord) dX9_reads_32 lX9_189 eX9_isRoundWord rfl rfl (c_X9_isRoundWord (d := d - 1) hl (by omega) p0 q1.1) (show d - 1 + 1 ≤ d from by omega) (Nat.le_of_ble_eq_true rfl) ?_
    refine I.if_eqB 69 dX9_reads_35 (by decide) (fun h35 => ?_) (fun h35 => ?_)
    · skip
      rw [pFin_w h35]
      have hL : FL h := q1.2.2.full (by rcases q5 with x | x; exact absurd x h35; exact x) q4
      have h1 : h 1 = 0 := q1.2.2.2.2.2.2 1 (by omega) (by omega)
      refine J.aload_n 0 dX9_reads_69 rfl rfl ?_
      refine I.iconst dX9_reads_70 ?_
      refine I.callV1w (d' := d - 1) (mi' := mX9_deals) dX9_reads_71 lX9_36 eX9_deals rfl rfl (c_X9_deals (d := d - 1) hl (by omega) q1.2.1.1 (by omega)) (show d - 1 + 1 ≤ d from by omega) (Nat.le_of_ble_eq_true rfl) ?_
      rintro s71 ⟨m71, f71⟩
      rw [h1] at m71
      have d71 : MM T n s71 (gDeal h 0 0) p := ⟨q1.1.fm f71, ⟨m71, MV.at0 q1.2.1 f71⟩, hL.lay gDeal_lay, gDeal_FS hL (FD_0 q1.2.2 hL) (by decide)⟩
      have f72 : FrN s s71 := q2.trans (FrN.fm f71 q1.2.1.2)
      exact J.fgt (by exact ⟨Or.inr rfl, trivial⟩) (k_X9_reads_74 hl (by omega) p0 p1 p2 (500) (by omega) d71 f72 q3)
    · skip
      refine J.aload_n 0 dX9_reads_38 rfl rfl ?_
      refine I.iconst dX9_reads_39 ?_
      refine I.callV1i (d' := d - 1) (mi' := mX9_get) dX9_reads_40 lX9_46 eX9_get rfl rfl (c_X9_get (d := d - 1) hl (by omega) q1.2.1.1 (by omega)) (show d - 1 + 1 ≤ d from by omega) (Nat.le_of_ble_eq_true rfl) ?_
      refine I.iconst dX9_reads_43 ?_
      refine I.icmp_ne 53 dX9_reads_44 (by decide) (by omega) (by omega) (fun h44 => ?_) (fun h44 => ?_)
      · skip
        refine J.aload_n 0 dX9_reads_53 rfl rfl ?_
        refine I.callV0q (d' := d - 1) (mi' := mX9_readsRound) dX9_reads_54 lX9_192 eX9_readsRound rfl rfl (c_X9_readsRound (d := d - 1) hl (r := h 0) (by omega) p0 q1 ⟨rfl, by omega⟩) (show d - 1 + 1 ≤ d from by omega) (Nat.le_of_ble_eq_true rfl) ?_
        rintro w54 s54 o54
        refine I.if_eq 67 dX9_reads_57 (by decide) (by have := o54.rng; omega) (fun h57 => ?_) (fun h57 => ?_)
        · skip
          skip
          refine I.iconst dX9_reads_67 ?_
          exact I.zretQ dX9_reads_68 rfl (by first | exact Or.inl rfl | exact Or.inr rfl | exact bI_01 _ | omega) (MF.fails q2 o54 h57 (fun x => by rw [pRs_e h35 x]; exact pFin_e x) (fun x => pTok_k4 (pRd_inv (T := T) (by omega) q1.2.2 (by omega) q4 x).2.2.2.2.2))
        · skip
          obtain ⟨z54, t54, d54, k54⟩ := o54.went h57
          have iv := pRd_inv (T := T) (by omega) q1.2.2 (by omega) q4 z54
          have w5 := d54.1.w p0
          refine J.aload_n 0 dX9_reads_60 rfl rfl ?_
          refine I.callV0q (d' := d - 1) (mi' := mX9_token) dX9_reads_61 lX9_178 eX9_token rfl rfl (c_X9_token (d := d - 1) hl (by omega) p0 d54.1.1 ⟨d54.1.2.2.1, by omega, by omega⟩) (show d - 1 + 1 ≤ d from by omega) (Nat.le_of_ble_eq_true rfl) ?_
          rintro w61 s61 ⟨m61, f61, o61⟩
          refine I.if_ne 31 dX9_reads_64 (by decide) (by rcases o61 with x | x <;> omega) (fun h64 => ?_) (fun h64 => ?_)
          · skip
            have yes : pTok T n (pN T n (pRd T n p h).2.1) := by rcases o61 with x | x; exact x.2; omega
            rw [pRs_s h35 z54]
            exact J.fgt (by exact ⟨Or.inr rfl, trivial⟩) (ih (by rw [iv.2.1]; omega) ⟨m61, MV.ft d54.2.1 f61, d54.2.2⟩ ((q2.trans o54.1).trans (FrN.ft f61)) yes (by rw [iv.2.1]; exact iv.2.2.1) (Or.inr (by rw [iv.2.1]; omega)))
          · skip
            have no : ¬ pTok T n (pN T n (pRd T n p h).2.1) ∧ s61 137 16 = 1 := by rcases o61 with x | x; omega; exact x.2
            have e9 : pFin T n (pRs T n (k + 1) p h) = (1, pN T n (pRd T n p h).2.1, gDeal (pRd T n p h).2.2 0 0) := by rw [pRs_s h35 z54, pFin_w (pTok_w (by decide) no.1)]; exact pMs_bad no.1
            refine I.iconst dX9_reads_67 ?_
            exact I.zretQ dX9_reads_68 rfl (by first | exact Or.inl rfl | exact Or.inr rfl | exact bI_01 _ | omega) (MF.is ((q2.trans o54.1).trans (FrN.ft f61)) m61 no.2 e9)
      · exact absurd h44 (by omega)
set_option maxHeartbeats 1000000 in
theorem c_X9_reads {Γ : jE} (hl : Γ.1.stackTraces = false) {s : Nat → Int → Int} {ε : jEps} {d : Nat} {T : Int → Int} {n : Int} (hd : 7 ≤ d) (p0 : PTx T n) (p1 : MB T n s) (p2 : s 137 2 = 2320) : Con Γ (d, 0, 0) mX9_reads [.ref 137] (jmem s ε) (RQ (fun w s' => MF T n s s' w (pAll T n)) ε) X0 := by
  refine Con.ofJ (by decide +kernel) (by simp [Value.category]) (Nat.le_of_ble_eq_true rfl) ?_ hl
  have n0 := p0.1
  refine J.aload_n 0 dX9_reads_0 rfl rfl ?_
  refine I.callV0w (d' := d - 1) (mi' := mX9_begins) dX9_reads_1 lX9_29 eX9_begins rfl rfl (c_X9_begins (d := d - 1) hl (by omega) (Or.inr (Or.inl p2))) (show d - 1 + 1 ≤ d from by omega) (Nat.le_of_ble_eq_true rfl) ?_
  rintro s1 ⟨m1, f1⟩
  refine J.aload_n 0 dX9_reads_4 rfl rfl ?_
  refine I.iconst dX9_reads_5 ?_
  refine I.pI 13 rfl dX9_reads_6 jcls fX9_162 rfl (by decide) rfl ?_
  have mb : MB T n (up s1 137 13 0) := ⟨fun i a b => (up_ne (by omega)).trans ((p1.at f1).1 i a b), (up_ne (by omega)).trans (p1.at f1).2⟩
  have f3 : FrN s (up s1 137 13 0) := (FrN.fm f1 p2).trans ⟨fun a j x y => up_ne (by omega), fun j x => up_ne (by omega)⟩
  refine J.aload_n 0 dX9_reads_9 rfl rfl ?_
  refine I.callV0q (d' := d - 1) (mi' := mX9_token) dX9_reads_10 lX9_178 eX9_token rfl rfl (c_X9_token (d := d - 1) hl (p := 0) (by omega) p0 mb ⟨up_eq _ _ _ _, by omega, by omega⟩) (show d - 1 + 1 ≤ d from by omega) (Nat.le_of_ble_eq_true rfl) ?_
  rintro w10 s10 ⟨m10, f10, o10⟩
  refine I.if_ne 18 dX9_reads_13 (by decide) (by rcases o10 with x | x <;> omega) (fun h13 => ?_) (fun h13 => ?_)
  · skip
    have yes : pTok T n 0 := by rcases o10 with x | x; exact x.2; omega
    have m2 : MV (up s1 137 13 0) (fun _ => 0) ∧ up s1 137 13 0 137 2 = 2320 := ⟨⟨by rw [up_ne (by omega)]; exact m1.1, fun j a b => by rw [up_ne (by omega), up_ne (by omega)]; exact m1.2 j a b⟩, (up_ne (by omega)).trans ((f1.1 137 2 (by omega)).trans p2)⟩
    have d10 : MD T n s10 (fun _ => 0) 0 := ⟨m10, MV.ft m2 f10, FP.zero⟩
    have f11 : FrN s s10 := f3.trans (FrN.ft f10)
    refine J.aload_n 0 dX9_reads_18 rfl rfl ?_
    refine I.callV0i (d' := d - 1) (mi' := mX9_isRoundWord) dX9_reads_19 lX9_189 eX9_isRoundWord rfl rfl (c_X9_isRoundWord (d := d - 1) hl (by omega) p0 m10) (show d - 1 + 1 ≤ d from by omega) (Nat.le_of_ble_eq_true rfl) ?_
    refine I.if_neB 31 dX9_reads_22 (by decide) (fun h22 => ?_) (fun h22 => ?_)
    · skip
      have e8 : pAll T n = pFin T n (pRs T n 4 0 fun _ => 0) := by rw [pAll_fin]; unfold pLay; rw [pIf_t h22]
      rw [e8]
      exact J.fgt (by exact ⟨Or.inr rfl, trivial⟩) (k_X9_reads_31 hl (by omega) p0 p1 p2 (4) (by decide) d10 f11 yes (fun r a (b : r < 0) => by omega) (Or.inl h22))
    · skip
      have e9 : pAll T n = (1, 0, fun _ => 0) := by unfold pAll; exact pIf_f h22
      refine J.aload_n 0 dX9_reads_25 rfl rfl ?_
      refine I.iconst dX9_reads_26 ?_
      refine I.callV1i (d' := d - 1) (mi' := mX9_faults) dX9_reads_27 lX9_175 eX9_faults rfl rfl (c_X9_faults (d := d - 1) hl (by omega) ) (show d - 1 + 1 ≤ d from by omega) (Nat.le_of_ble_eq_true rfl) ?_
      exact I.zretQ dX9_reads_30 rfl (by first | exact Or.inl rfl | exact Or.inr rfl | exact bI_01 _ | omega) (MF.bad f11 m10 e9 (by decide))
  · skip
    have no : ¬ pTok T n 0 ∧ s10 137 16 = 1 := by rcases o10 with x | x; omega; exact x.2
    have e9 : pAll T n = (1, 0, fun _ => 0) := by unfold pAll; exact pIf_f (pTok_w (by decide) no.1)
    refine I.iconst dX9_reads_16 ?_
    exact I.zretQ dX9_reads_17 rfl (by first | exact Or.inl rfl | exact Or.inr rfl | exact bI_01 _ | omega) (MF.is (f3.trans (FrN.ft f10)) m10 no.2 e9)
