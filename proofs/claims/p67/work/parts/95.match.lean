/-! the law's texts -/
theorem and31 (x : Int32) : ∃ k : Int, (0 ≤ k ∧ k < 2147483648) ∧ x &&& iI 2147483647 = iI k := by
  have e1 : (x &&& iI 2147483647).toBitVec = x.toBitVec &&& 2147483647#32 := rfl
  have e2 : (x.toBitVec &&& 2147483647#32).toNat ≤ 2147483647 := by rw [BitVec.toNat_and]; exact Nat.and_le_right
  have e3 : (x &&& iI 2147483647).toInt = ((x.toBitVec &&& 2147483647#32).toNat : Int) := by
    show (x &&& iI 2147483647).toBitVec.toInt = _
    rw [e1, BitVec.toInt_eq_toNat_cond, if_pos (by omega)]
  exact ⟨(x &&& iI 2147483647).toInt, by omega, (iI_of _).symm⟩
set_option maxHeartbeats 1000000 in
theorem c_part {Γ : jE} (hl : Γ.1.stackTraces = false) {M : jM} {d : Nat} {x : Int32} {n : Int} (hn : 1 ≤ n ∧ n ≤ 1000) : Con Γ (d, 0, 0) mL_part [.int x, .int (iI n)] (M) (fun w M' => (∃ z, w = some (.int (iI z)) ∧ 0 ≤ z ∧ z < n) ∧ M' = M) X0 := by
  refine Con.ofJ (by decide +kernel) (by simp [Value.category]) (Nat.le_of_ble_eq_true rfl) ?_ hl
  refine J.iload_n 0 dL_part_0 rfl rfl ?_
  refine J.ldc (iI (2147483647)) dL_part_1 qL_7 ?_
  refine J.iand dL_part_3 ?_
  obtain ⟨k, hk, ek⟩ := and31 x
  rw [ek]
  refine J.iload_n 1 dL_part_4 rfl rfl ?_
  refine I.rem dL_part_5 (by omega) (by omega) ?_
  exact J.iret rfl dL_part_6 ⟨⟨k % n, rfl, by have := Int.emod_nonneg k (show n ≠ 0 by omega); omega, by have := Int.emod_lt_of_pos k (show 0 < n by omega); omega⟩, rfl⟩
set_option maxHeartbeats 1000000 in
theorem c_cell {Γ : jE} (hl : Γ.1.stackTraces = false) {M : jM} {d : Nat} {Ls : Nat} {xs : Nat → Int32} (hsc : Γ.2.2 = some (Ls, xs)) (hL : Ls ≤ 3072) {j : Int} (hj : 0 ≤ j ∧ j ≤ 1000) : Con Γ (d, 0, 0) mL_cell [.ref 2000000, .int (iI j)] (M) (fun w M' => (∃ z : Int32, w = some (.int z)) ∧ M' = M) X0 := by
  refine Con.ofJ (by decide +kernel) (by simp [Value.category]) (Nat.le_of_ble_eq_true rfl) ?_ hl
  refine J.iload_n 1 dL_cell_0 rfl rfl ?_
  refine J.aload_n 0 dL_cell_1 rfl rfl ?_
  refine I.slen hsc dL_cell_2 ?_
  refine I.icmp_ge 12 dL_cell_3 (by decide) (by omega) (by omega) (fun h3 => ?_) (fun h3 => ?_)
  · skip
    refine I.iconst dL_cell_12 ?_
    exact J.iret rfl dL_cell_13 ⟨⟨_, rfl⟩, rfl⟩
  · skip
    refine J.aload_n 0 dL_cell_6 rfl rfl ?_
    refine J.iload_n 1 dL_cell_7 rfl rfl ?_
    refine I.sld (j := j.toNat) hsc (by omega) (by omega) hL dL_cell_8 ?_
    refine J.goto 13 dL_cell_9 (by decide) ?_
    exact J.iret rfl dL_cell_13 ⟨⟨_, rfl⟩, rfl⟩
/-- the memory of a text being made -/
def MTX (sh0 : List (Nat × Nat)) (t0 : Nat → Nat → Option Nat) (s0 : Nat → Int → Int) (q B : Nat) (W : Int) (sh : List (Nat × Nat)) (t : Nat → Nat → Option Nat) (s : Nat → Int → Int) (T : Int → Int) (m : Int) : Prop :=
  ∃ v cap, SBI sh t s q T m v cap ∧ XB sh t s ∧ sh.length + B ≤ 700000 ∧ (∃ ext, sh = sh0 ++ ext) ∧ sh0.length ≤ q ∧ sh0.length ≤ v ∧ (∀ a, a < sh0.length → t a = t0 a ∧ s a = s0 a) ∧ (0 ≤ m ∧ m + B ≤ W ∧ W ≤ 300) ∧ ∀ i, 0 ≤ i → i < m → 0 ≤ T i ∧ T i < 128
/-- rows of flags are kept -/
def KPX (sh : List (Nat × Nat)) (s : Nat → Int → Int) (sh2 : List (Nat × Nat)) (s2 : Nat → Int → Int) : Prop := ∀ u : Nat, sh[u]? = some (107, 49) → sh2[u]? = some (107, 49) ∧ s2 u = s u
theorem KPX.trans {sh sh2 sh3 : List (Nat × Nat)} {s s2 s3 : Nat → Int → Int} (h : KPX sh s sh2 s2) (g : KPX sh2 s2 sh3 s3) : KPX sh s sh3 s3 := fun u hu => ⟨(g u (h u hu).1).1, ((g u (h u hu).1).2).trans (h u hu).2⟩
section M95
variable {sh0 sh sh2 : List (Nat × Nat)} {t0 t t2 : Nat → Nat → Option Nat} {s0 s s2 : Nat → Int → Int} {q B v cap v2 cap2 : Nat} {W W' m m' : Int} {T T' : Int → Int}
theorem MTX.step (hI : SBI sh t s q T m v cap) (hlen : sh.length + (B + 1) ≤ 700000) (he : ∃ ext, sh = sh0 ++ ext) (hq : sh0.length ≤ q) (hv : sh0.length ≤ v) (hk : ∀ a, a < sh0.length → t a = t0 a ∧ s a = s0 a)
    (F2 : SBF q v sh t s sh2 t2 s2) (I2 : SBI sh2 t2 s2 q T' m' v2 cap2) (hv2 : v2 = v ∨ sh.length ≤ v2) (hm : 0 ≤ m' ∧ m' + B ≤ W' ∧ W' ≤ 300) (hT : ∀ i, 0 ≤ i → i < m' → 0 ≤ T' i ∧ T' i < 128) : MTX sh0 t0 s0 q B W' sh2 t2 s2 T' m' ∧ KPX sh s sh2 s2 := by
  obtain ⟨⟨ext2, e2, l2⟩, x2, f3, f4⟩ := F2
  obtain ⟨ext, rfl⟩ := he
  have l0 : sh0.length ≤ (sh0 ++ ext).length := by rw [List.length_append]; omega
  have ls : sh2.length = (sh0 ++ ext).length + ext2.length := by rw [e2, List.length_append]
  refine ⟨⟨v2, cap2, I2, x2, by omega, ⟨ext ++ ext2, by rw [e2, List.append_assoc]⟩, hq, by omega, fun a ha => ?_, hm, hT⟩, fun u hu => ?_⟩
  · rw [f3 a (by omega) (by omega), f4 a (by omega) (by omega) (by omega)]; exact hk a ha
  · have n1 : u ≠ q := fun e => by rw [e, hI.1] at hu; cases hu
    have n2 : u ≠ v := fun e => by rw [e, hI.2.2.1] at hu; cases hu
    exact ⟨by rw [e2]; exact get_app hu, f4 u (get_lt hu) n1 n2⟩
theorem MTX.le {B' : Nat} (h : MTX sh0 t0 s0 q B W sh t s T m) (hb : B' ≤ B) : MTX sh0 t0 s0 q B' W sh t s T m := by
  obtain ⟨v, cap, h1, h2, h3, h4, h5, h6, h7, h8, h9⟩ := h
  exact ⟨v, cap, h1, h2, by omega, h4, h5, h6, h7, by omega, h9⟩
theorem MTX.wid (h : MTX sh0 t0 s0 q B W sh t s T m) (hb : W ≤ W' ∧ W' ≤ 300) : MTX sh0 t0 s0 q B W' sh t s T m := by
  obtain ⟨v, cap, h1, h2, h3, h4, h5, h6, h7, h8, h9⟩ := h
  exact ⟨v, cap, h1, h2, h3, h4, h5, h6, h7, by omega, h9⟩
theorem MTX.newZ (h : MTX sh0 t0 s0 q (B + 1) W sh t s T m) : MTX sh0 t0 s0 q B W (sh ++ [(107, 49)]) t s T m := by
  obtain ⟨v, cap, ⟨i1, i2, i3, i4⟩, h2, h3, ⟨ext, h4⟩, h5, h6, h7, h8, h9⟩ := h
  have l : (sh ++ [((107, 49) : Nat × Nat)]).length = sh.length + 1 := by rw [List.length_append]; rfl
  exact ⟨v, cap, ⟨get_app i1, i2, get_app i3, i4⟩, h2.app (by omega), by rw [l]; omega, ⟨ext ++ [(107, 49)], by rw [h4, List.append_assoc]⟩, h5, h6, h7, by omega, h9⟩
theorem MTX.flag {u : Nat} {i x : Int} (h : MTX sh0 t0 s0 q B W sh t s T m) (hu : sh[u]? = some (107, 49)) (h0 : sh0.length ≤ u) : MTX sh0 t0 s0 q B W sh t (up s u i x) T m := by
  obtain ⟨v, cap, ⟨i1, i2, i3, i4, i5, i6, i7, i8, i9⟩, h2, h3, h4, h5, h6, h7, h8, h9⟩ := h
  have n1 : q ≠ u := fun e => by rw [← e, i1] at hu; cases hu
  have n2 : v ≠ u := fun e => by rw [← e, i3] at hu; cases hu
  have e : ∀ a, a ≠ u → up s u i x a = s a := fun a ha => by funext j; exact up_ne (Or.inl ha)
  exact ⟨v, cap, ⟨i1, i2, i3, i4, by rw [e q n1]; exact i5, by rw [e q n1]; exact i6, i7, by rw [e v n2]; exact i8, by rw [e v n2]; exact i9⟩, h2.up (get_lt hu), h3, h4, h5, h6, fun a ha => ⟨(h7 a ha).1, by rw [e a (by omega)]; exact (h7 a ha).2⟩, h8, h9⟩
theorem txA_ok {x : Int} (h : ∀ i, 0 ≤ i → i < m → 0 ≤ T i ∧ T i < 128) (hx : 0 ≤ x ∧ x < 128) : ∀ i, 0 ≤ i → i < m + 1 → 0 ≤ txA T m x i ∧ txA T m x i < 128 := fun i a b => by
  unfold txA; split
  · exact hx
  · exact h i a (by omega)
theorem txS_ok (h : ∀ i, 0 ≤ i → i < m → 0 ≤ T i ∧ T i < 128) : ∀ i, 0 ≤ i → i < m + 6 → 0 ≤ txS T m i ∧ txS T m i < 128 := fun i a b => by
  unfold txS; split
  · obtain ⟨k, hk⟩ := Int.eq_ofNat_of_zero_le (show (0 : Int) ≤ i - m by omega)
    rw [hk]; have := jwd5 k (by omega); omega
  · exact h i a (by omega)
section Z95
variable {Γ : jE} {mi : jMI} {pc : Nat} {L : List (Option Value)} {S : List Value} {P : Option Value → jM → Prop} {X : String → jM → Prop} {dd C : Nat}
theorem Z.appC (hΓ : Γ.1.stackTraces = false) (h : MTX sh0 t0 s0 q (B + 1) W sh t s T m) (hd : 5 ≤ dd) {x : Int} (hx2 : 0 ≤ x ∧ x < 128) {idx : Nat} (d : decode mi.2.1 pc = .ok (.invokevirtual idx, 3)) (hl : Cond.methodLink mi.1.cls idx yJ4_append_cf468 ∈ jG) (hcat : (S.map fun v => v.category).sum ≤ 8)
    (k : ∀ sh2 t2 s2, MTX sh0 t0 s0 q B W sh2 t2 s2 (txA T m x) (m + 1) → KPX sh s sh2 s2 → J Γ (dd, B, C) mi (pc + 3) L (.ref q :: S) (jmx sh2 t2 s2) P X) : J Γ (dd, B + 1, C + 3000) mi pc L (.int (iI x) :: .ref q :: S) (jmx sh t s) P X := by
  obtain ⟨v, cap, hI, hx, hlen, he, hq, hv, hk, hm, hT⟩ := h
  refine J.callV (b' := (4, 1, 3000)) (mi' := mJ4_append_cf468) [.int (iI x)] d hl eJ4_append_cf468 hI.1 rfl ⟨hd, by show 1 ≤ B + 1; omega, by show 3000 ≤ C + 3000; omega⟩ (s_appendC hΓ hI hx (by omega) (by omega) (by omega) hx2) (fun _ _ h => absurd h id) hcat ?_
  rintro w M' ⟨sh2, t2, s2, v2, cap2, rfl, rfl, F2, I2, hv2, -⟩
  obtain ⟨g1, g2⟩ := MTX.step (W' := W) hI hlen he hq hv hk F2 I2 hv2 (by omega) (txA_ok hT hx2)
  have := k sh2 t2 s2 g1 g2
  show J Γ (dd, B + 1 - 1, C + 3000 - 3000) mi (pc + 3) L (.ref q :: S) (jmx sh2 t2 s2) P X
  rw [Nat.add_sub_cancel, Nat.add_sub_cancel]
  exact this
theorem Z.appI (hΓ : Γ.1.stackTraces = false) (h : MTX sh0 t0 s0 q (B + 1) W sh t s T m) (hd : 5 ≤ dd) {x : Int} (hx2 : 0 ≤ x ∧ x < 10) {idx : Nat} (d : decode mi.2.1 pc = .ok (.invokevirtual idx, 3)) (hl : Cond.methodLink mi.1.cls idx yJ4_append_bf812 ∈ jG) (hcat : (S.map fun v => v.category).sum ≤ 8)
    (k : ∀ sh2 t2 s2, MTX sh0 t0 s0 q B W sh2 t2 s2 (txA T m (48 + x)) (m + 1) → KPX sh s sh2 s2 → J Γ (dd, B, C) mi (pc + 3) L (.ref q :: S) (jmx sh2 t2 s2) P X) : J Γ (dd, B + 1, C + 3000) mi pc L (.int (iI x) :: .ref q :: S) (jmx sh t s) P X := by
  obtain ⟨v, cap, hI, hx, hlen, he, hq, hv, hk, hm, hT⟩ := h
  refine J.callV (b' := (4, 1, 3000)) (mi' := mJ4_append_bf812) [.int (iI x)] d hl eJ4_append_bf812 hI.1 rfl ⟨hd, by show 1 ≤ B + 1; omega, by show 3000 ≤ C + 3000; omega⟩ (s_appendI hΓ hI hx (by omega) (by omega) (by omega) hx2) (fun _ _ h => absurd h id) hcat ?_
  rintro w M' ⟨sh2, t2, s2, v2, cap2, rfl, rfl, F2, I2, hv2, -⟩
  obtain ⟨g1, g2⟩ := MTX.step (W' := W) hI hlen he hq hv hk F2 I2 hv2 (by omega) (txA_ok hT (by omega))
  have := k sh2 t2 s2 g1 g2
  show J Γ (dd, B + 1 - 1, C + 3000 - 3000) mi (pc + 3) L (.ref q :: S) (jmx sh2 t2 s2) P X
  rw [Nat.add_sub_cancel, Nat.add_sub_cancel]
  exact this
theorem Z.appS (hΓ : Γ.1.stackTraces = false) (h : MTX sh0 t0 s0 q (B + 1) W sh t s T m) (hd : 5 ≤ dd) (hW : W ≤ 290) {idx : Nat} (d : decode mi.2.1 pc = .ok (.invokevirtual idx, 3)) (hl : Cond.methodLink mi.1.cls idx yJ4_append_15ec4 ∈ jG) (hcat : (S.map fun v => v.category).sum ≤ 8)
    (k : ∀ sh2 t2 s2, MTX sh0 t0 s0 q B (W + 5) sh2 t2 s2 (txS T m) (m + 6) → KPX sh s sh2 s2 → J Γ (dd, B, C) mi (pc + 3) L (.ref q :: S) (jmx sh2 t2 s2) P X) : J Γ (dd, B + 1, C + 3000) mi pc L (.ref 1000005 :: .ref q :: S) (jmx sh t s) P X := by
  obtain ⟨v, cap, hI, hx, hlen, he, hq, hv, hk, hm, hT⟩ := h
  refine J.callV (b' := (4, 1, 3000)) (mi' := mJ4_append_15ec4) [.ref 1000005] d hl eJ4_append_15ec4 hI.1 rfl ⟨hd, by show 1 ≤ B + 1; omega, by show 3000 ≤ C + 3000; omega⟩ (s_appendS hΓ hI hx (by omega) (by omega) (by omega)) (fun _ _ h => absurd h id) hcat ?_
  rintro w M' ⟨sh2, t2, s2, v2, cap2, rfl, rfl, F2, I2, hv2, -⟩
  obtain ⟨g1, g2⟩ := MTX.step (W' := (W + 5)) hI hlen he hq hv hk F2 I2 hv2 (by omega) (txS_ok hT)
  have := k sh2 t2 s2 g1 g2
  show J Γ (dd, B + 1 - 1, C + 3000 - 3000) mi (pc + 3) L (.ref q :: S) (jmx sh2 t2 s2) P X
  rw [Nat.add_sub_cancel, Nat.add_sub_cancel]
  exact this
end Z95
end M95
/-- in a chain: nothing yet, or behind tiles -/
def PSX (T : Int → Int) (m : Int) (g : Int → Int) (r n t p : Int) : Prop := (t = 0 ∧ ∃ e, StD T m r n e g) ∨ (1 ≤ t ∧ StC T m r n t g ∧ p = g (gTp r n (t - 1)) % 10)
def TSX (T : Int → Int) (m : Int) (g : Int → Int) (r n t p : Int) : Prop := (t = 0 ∧ n = 0 ∧ ∃ e, StD T m r 0 e g) ∨ (t = 0 ∧ 1 ≤ n ∧ ∃ t', StC T m r (n - 1) t' g) ∨ (1 ≤ t ∧ StC T m r n t g ∧ p = g (gTp r n (t - 1)) % 10)
def CSX (T : Int → Int) (m : Int) (g : Int → Int) (r n k : Int) : Prop := (k = 0 ∧ n = 0 ∧ ∃ e, StD T m r 0 e g) ∨ (1 ≤ k ∧ 1 ≤ n ∧ n ≤ k ∧ ∃ t', StC T m r (n - 1) t' g)
section S95
variable {T : Int → Int} {m r n t p x k : Int} {g : Int → Int}
theorem PSX.go (h : PSX T m g r n t p) (t5 : t < 5) (hp : 0 ≤ p ∧ p ≤ 6) (hx : 0 ≤ x ∧ x ≤ 6) {u u' : Int → Int} (hH : Had u g r) (h1 : u (7 * p + x) ≠ 1) (hu : ∀ i, u' i = if i = 7 * x + p then 1 else if i = 7 * p + x then 1 else u i) :
    ∃ g', StC (txA (txA (txA T m 32) (m + 1) (48 + p)) (m + 1 + 1) (48 + x)) (m + 1 + 1 + 1) r n (t + 1) g' ∧ x = g' (gTp r n (t + 1 - 1)) % 10 ∧ Had u' g' r := by
  have hno := hH.no hp hx h1
  rcases h with ⟨rfl, e, h⟩ | ⟨t1, h, e⟩
  · obtain ⟨h0, hr, hc, hg0, hgc, hf, h4⟩ := id h
    have gc : gOCh g r (18 + r) = n + 1 := by unfold gOCh; rw [upr_eqq rfl, hgc]
    have g0 : gOCh g r 0 = r + 1 := by unfold gOCh; rw [upr_ne (by omega)]; exact hg0
    have gl : gOCh g r (22 + 3 * r + n) = 0 := by unfold gOCh; rw [upr_ne (by omega)]; exact (hf.2.2.1 r n hr.1 (by omega) hc.1 (by omega)).2.2 (by omega)
    have f2 : FP (gOCh g r) := hf.och hr.1 (by omega) (by omega)
    refine ⟨_, h.tile hp hx hno, ?_, (hH.och hf hr.1 (by omega) (by omega)).add f2 hr.1 (by omega) (by omega) gl.symm (by decide) hp hx hu⟩
    show x = gAdd (gOCh g r) r n 0 (10 * p + x) (gTp r n 0) % 10
    rw [gAdd_t (by omega) (by omega) (by omega)]; omega
  · obtain ⟨h0, hr, hc, ht1, hg0, hgc, hgl, hf, h4⟩ := id h
    refine ⟨_, h.tile (by omega) hp hx e hno, ?_, hH.add hf hr.1 (by omega) (by omega) hgl.symm (by omega) hp hx hu⟩
    rw [show t + 1 - 1 = t by omega, gAdd_t (by omega) (by omega) (by omega)]; omega
theorem TSX.plain (h : TSX T m g r n t p) (hn : t ≠ 0 ∨ n ≤ 0) : PSX T m g r n t p := by
  rcases h with ⟨h1, rfl, h3⟩ | ⟨h1, h2, h3⟩ | h
  · exact Or.inl ⟨h1, h3⟩
  · omega
  · exact Or.inr h
theorem TSX.comma (h : TSX T m g r n t p) (ht : t = 0) (hn : 0 < n ∧ n ≤ 2) : PSX (txA T m 44) (m + 1) g r n t p := by
  rcases h with ⟨h1, h2, h3⟩ | ⟨h1, h2, t', h3⟩ | ⟨h1, h2⟩
  · omega
  · have := h3.comma (by omega)
    rw [show n - 1 + 1 = n by omega] at this
    exact Or.inl ⟨h1, _, this⟩
  · omega
theorem CSX.start (h : CSX T m g r n k) : TSX T m g r n 0 p := by
  rcases h with ⟨h1, h2, h3⟩ | ⟨h1, h2, h3, h4⟩
  · exact Or.inl ⟨rfl, h2, h3⟩
  · exact Or.inr (Or.inl ⟨rfl, h2, h4⟩)
theorem TSX.some (h : TSX T m g r n t p) (ht : 0 < t) (hk : 0 ≤ n ∧ n ≤ k) : CSX T m g r (n + 1) (k + 1) := by
  rcases h with ⟨h1, h2, h3⟩ | ⟨h1, h2, t', h3⟩ | ⟨h1, h2, h3⟩
  · omega
  · omega
  · exact Or.inr ⟨by omega, by omega, by omega, t, by rw [show n + 1 - 1 = n by omega]; exact h2⟩
theorem TSX.none (h : TSX T m g r n t p) (ht : t ≤ 0) (hn : ¬ (t = 0 ∧ n = 0)) (hk : 0 ≤ n ∧ n ≤ k) : CSX T m g r n (k + 1) := by
  rcases h with ⟨h1, h2, h3⟩ | ⟨h1, h2, h3⟩ | ⟨h1, h2, h3⟩
  · exact absurd ⟨h1, h2⟩ hn
  · exact Or.inr ⟨by omega, h2, by omega, h3⟩
  · omega
end S95
set_option maxHeartbeats 2000000 in
theorem k_search {Γ : jE} (hl : Γ.1.stackTraces = false) {q u : Nat} {r n c : Int} {z3 x8 : Int32} {P : Option Value → jM → Prop} {b : Nat × Nat × Nat} {sh : List (Nat × Nat)} {τ : Nat → Nat → Option Nat} {s : Nat → Int → Int} {p t : Int} (hu : sh[u]? = some (107, 49)) (h01 : ∀ i : Int, 0 ≤ i → i < 49 → s u i = 0 ∨ s u i = 1) (hp : 0 ≤ p ∧ p ≤ 6) :
    ∀ (k : Nat) {j x : Int}, (k : Int) = 7 - j → 0 ≤ j → 0 ≤ x ∧ x ≤ 6 → (∀ x', 0 ≤ x' ∧ x' ≤ 6 → J Γ b mL_match 168 [some (.ref 2000000), some (.int (iI 5)), some (.ref q), some (.int z3), some (.int (iI r)), some (.ref u), some (.int (iI n)), some (.int (iI c)), some (.int x8), some (.int (iI p)), some (.int (iI t)), some (.int (iI t)), some (.int (iI x')), none] [] (jmx sh τ s) P X0) →
    J Γ b mL_match 132 [some (.ref 2000000), some (.int (iI 5)), some (.ref q), some (.int z3), some (.int (iI r)), some (.ref u), some (.int (iI n)), some (.int (iI c)), some (.int x8), some (.int (iI p)), some (.int (iI t)), some (.int (iI t)), some (.int (iI x)), some (.int (iI j))] [] (jmx sh τ s) P X0 := by
  intro k
  induction k with
  | zero =>
    intro j x hk hj hx kx
    refine J.iload dL_match_132 rfl ?_
    refine I.bipush dL_match_134 (by decide) ?_
    refine I.icmp_ge 168 dL_match_136 (by decide) (by omega) (by omega) (fun h136 => ?_) (fun h136 => ?_)
    · skip
      exact J.fgt (by exact ⟨Or.inr rfl, Or.inr rfl, Or.inr rfl, Or.inr rfl, Or.inr rfl, Or.inr rfl, Or.inr rfl, Or.inr rfl, Or.inr rfl, Or.inr rfl, Or.inr rfl, Or.inr rfl, Or.inr rfl, Or.inl rfl, trivial⟩) (kx x hx)
    · exact absurd h136 (by omega)
  | succ k ih =>
    intro j x hk hj hx kx
    refine J.iload dL_match_132 rfl ?_
    refine I.bipush dL_match_134 (by decide) ?_
    refine I.icmp_ge 168 dL_match_136 (by decide) (by omega) (by omega) (fun h136 => ?_) (fun h136 => ?_)
    · exact absurd h136 (by omega)
    · skip
      refine J.aload dL_match_139 rfl ?_
      refine I.bipush dL_match_141 (by decide) ?_
      refine J.iload dL_match_143 rfl ?_
      refine I.mul dL_match_145 ?_
      refine J.iload dL_match_146 rfl ?_
      refine I.add dL_match_148 ?_
      have h0 := h01 (7 * p + x) (by omega) (by omega)
      refine Y.zald dL_match_149 hu (by omega) (by omega) ?_
      refine I.if_eq 168 dL_match_150 (by decide) (by omega) (fun h150 => ?_) (fun h150 => ?_)
      · skip
        exact J.fgt (by exact ⟨Or.inr rfl, Or.inr rfl, Or.inr rfl, Or.inr rfl, Or.inr rfl, Or.inr rfl, Or.inr rfl, Or.inr rfl, Or.inr rfl, Or.inr rfl, Or.inr rfl, Or.inr rfl, Or.inr rfl, Or.inl rfl, trivial⟩) (kx x hx)
      · skip
        refine J.iload dL_match_153 rfl ?_
        refine I.iconst dL_match_155 ?_
        refine I.add dL_match_156 ?_
        refine I.bipush dL_match_157 (by decide) ?_
        refine I.rem dL_match_159 (by omega) (by omega) ?_
        refine J.istore dL_match_160 (by decide) rfl ?_
        refine I.iinc dL_match_162 rfl rfl ?_
        refine J.goto 132 dL_match_165 (by decide) ?_
        refine ih (j := j + 1) (x := (x + 1) % 7) (by omega) (by omega) (by omega) kx
set_option maxHeartbeats 2000000 in
theorem k_pair {Γ : jE} (hl : Γ.1.stackTraces = false) {sh0 : List (Nat × Nat)} {t0 : Nat → Nat → Option Nat} {s0 : Nat → Int → Int} {q u dd B C : Nat} {W r n c : Int} {z3 x8 : Int32} {P : Option Value → jM → Prop} {sh : List (Nat × Nat)} {τ : Nat → Nat → Option Nat} {s : Nat → Int → Int} {p t x m : Int} {T : Int → Int} (hp : 0 ≤ p ∧ p ≤ 6) (hx : 0 ≤ x ∧ x ≤ 6) (ht : 0 ≤ t ∧ t ≤ 5) (hd : 5 ≤ dd) (h : MTX sh0 t0 s0 q (B + 1 + 1 + 1) W sh τ s T m)
    (kx : ∀ sh2 t2 s2, MTX sh0 t0 s0 q B W sh2 t2 s2 (txA (txA (txA T m 32) (m + 1) (48 + p)) (m + 1 + 1) (48 + x)) (m + 1 + 1 + 1) → KPX sh s sh2 s2 → J Γ (dd, B, C) mL_match 97 [some (.ref 2000000), some (.int (iI 5)), some (.ref q), some (.int z3), some (.int (iI r)), some (.ref u), some (.int (iI n)), some (.int (iI c)), some (.int x8), some (.int (iI x)), some (.int (iI (t + 1))), some (.int (iI (t + 1))), none, none] [] (jmx sh2 t2 s2) P X0) :
    J Γ (dd, B + 1 + 1 + 1, C + 3000 + 3000 + 3000) mL_match 226 [some (.ref 2000000), some (.int (iI 5)), some (.ref q), some (.int z3), some (.int (iI r)), some (.ref u), some (.int (iI n)), some (.int (iI c)), some (.int x8), some (.int (iI p)), some (.int (iI t)), some (.int (iI t)), some (.int (iI x)), none] [] (jmx sh τ s) P X0 := by
  refine J.aload_n 2 dL_match_226 rfl rfl ?_
  refine I.bipush dL_match_227 (by decide) ?_
  refine Z.appC hl h hd (x := 32) (by decide) dL_match_229 lL_128 (Nat.le_of_ble_eq_true rfl) fun sh1 t1 s1 h1 k1 => ?_
  refine J.iload dL_match_232 rfl ?_
  refine Z.appI hl h1 hd (x := p) (by omega) dL_match_234 lL_131 (Nat.le_of_ble_eq_true rfl) fun sh2 t2 s2 h2 k2 => ?_
  refine J.iload dL_match_237 rfl ?_
  refine Z.appI hl h2 hd (x := x) (by omega) dL_match_239 lL_131 (Nat.le_of_ble_eq_true rfl) fun sh3 t3 s3 h3 k3 => ?_
  refine J.popR dL_match_242 ?_
  refine J.iload dL_match_243 rfl ?_
  refine J.istore dL_match_245 (by decide) rfl ?_
  refine I.iinc dL_match_247 rfl rfl ?_
  refine I.iinc dL_match_250 rfl rfl ?_
  refine J.goto 97 dL_match_253 (by decide) ?_
  exact J.fgt (by exact ⟨Or.inr rfl, Or.inr rfl, Or.inr rfl, Or.inr rfl, Or.inr rfl, Or.inr rfl, Or.inr rfl, Or.inr rfl, Or.inr rfl, Or.inr rfl, Or.inr rfl, Or.inr rfl, Or.inl rfl, Or.inl rfl, trivial⟩) (kx sh3 t3 s3 h3 ((k1.trans k2).trans k3))
