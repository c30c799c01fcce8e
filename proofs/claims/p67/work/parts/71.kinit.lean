/-! memories as the constructors make them: the first N cells, the references that are set, the ints -/
def tL : List (Nat × Nat × Nat) → Nat → Nat → Option Nat
  | [], _, _ => none
  | (q, k, r) :: l, a, b => if a = q ∧ b = k then some r else tL l a b
theorem tL_c (l : List (Nat × Nat × Nat)) (q k r : Nat) : jup2 (tL l) q k (some r) = tL ((q, k, r) :: l) := rfl
def jmT (N : Nat) (l : List (Nat × Nat × Nat)) (s : Nat → Int → Int) : jM := (jsh.take N, tL l, fun q k => iI (s q k), (fun _ _ => 0), (fun _ _ => 0))
def CT (N : Nat) (l : List (Nat × Nat × Nat)) (s : Nat → Int → Int) : Prop := N ≤ 137 ∧ (∀ x ∈ l, x.1 < N) ∧ ∀ q i, N ≤ q → s q i = 0
theorem tL_none : ∀ {l : List (Nat × Nat × Nat)} {q k : Nat}, (∀ x ∈ l, x.1 ≠ q) → tL l q k = none
  | [], _, _, _ => rfl
  | (a, b, r) :: l, q, k, h => by
    show (if q = a ∧ k = b then some r else tL l q k) = none
    rw [if_neg (fun e => h (a, b, r) List.mem_cons_self e.1.symm)]
    exact tL_none fun x hx => h x (List.mem_cons_of_mem _ hx)
theorem jmT_len {N : Nat} {l : List (Nat × Nat × Nat)} {s : Nat → Int → Int} (h : N ≤ 137) : (jmT N l s).1.length = N := by
  show (jsh.take N).length = N
  rw [List.length_take]
  exact Nat.min_eq_left (Nat.le_trans h (by decide +kernel : 137 ≤ jsh.length))
theorem CT.fr {N : Nat} {l : List (Nat × Nat × Nat)} {s : Nat → Int → Int} (h : CT N l s) : jFr (jmT N l s) := by
  unfold jFr
  rw [jmT_len h.1]
  refine ⟨by have := h.1; omega, fun q hq => ⟨fun i => tL_none fun x hx e => ?_, fun i => ?_, fun _ => rfl, fun _ => rfl⟩⟩
  · have := h.2.1 x hx; omega
  · show iI (s q i) = 0
    rw [h.2.2 q i hq]; rfl
theorem jmT_at {N : Nat} {l : List (Nat × Nat × Nat)} {s : Nat → Int → Int} {q : Nat} (h : q < N) : (jmT N l s).1[q]? = jsh[q]? := List.getElem?_take_of_lt h
theorem jmT_one {N : Nat} {l : List (Nat × Nat × Nat)} {s : Nat → Int → Int} {z : Nat × Nat} (h : jsh[N]? = some z) : ((jmT N l s).1 ++ [z], (jmT N l s).2) = jmT (N + 1) l s := by
  show ((jsh.take N) ++ [z], _) = (jsh.take (N + 1), _)
  rw [List.take_add_one, h]
  rfl
section JT
variable {Γ : jE} {b : Nat × Nat × Nat} {mi : jMI} {pc : Nat} {L : List (Option Value)} {S : List Value} {P : Option Value → jM → Prop} {X : String → jM → Prop} {N N' : Nat} {l : List (Nat × Nat × Nat)} {s : Nat → Int → Int}
theorem K.new (h : CT N l s) (e : N' = N + 1) {idx ci n : Nat} {Cn : String} {T : u_T} (d : decode mi.2.1 pc = .ok (.new idx, 3)) (hc : vwCl[ci]? = some (Cn, T, n)) (hl : Cond.classLink mi.1.cls idx Cn ∈ jG) (hi : Cond.instantiable Cn n ∈ jG) (hini : Cond.initialized Cn ∈ jG) (hs : jsh[N]? = some (ci, n)) (hN : N < 137) (hb : 1 ≤ b.2.1 ∧ n ≤ b.2.2)
    (k : CT N' l s → J Γ (b.1, b.2.1 - 1, b.2.2 - n) mi (pc + 3) L (.ref N :: S) (jmT N' l s) P X) : J Γ b mi pc L S (jmT N l s) P X := by
  subst e
  have k2 := k ⟨hN, fun x hx => Nat.lt_succ_of_lt (h.2.1 x hx), fun q i hq => h.2.2 q i (by omega)⟩
  refine J.new jdef d hc hl hi hini h.fr hb ?_
  rw [jmT_len h.1, jmT_one hs]
  exact k2
theorem K.newI (h : CT N l s) (e : N' = N + 1) {x : Int} (n : Nat) (d : decode mi.2.1 pc = .ok (.newarray .int, 2)) (hs : jsh[N]? = some (100, n)) (hx : iI x = Int32.ofNat n) (hn : n < 1000000) (hN : N < 137) (hb : 1 ≤ b.2.1 ∧ n ≤ b.2.2)
    (k : CT N' l s → J Γ (b.1, b.2.1 - 1, b.2.2 - n) mi (pc + 2) L (.ref N :: S) (jmT N' l s) P X) : J Γ b mi pc L (.int (iI x) :: S) (jmT N l s) P X := by
  subst e
  have k2 := k ⟨hN, fun x hx => Nat.lt_succ_of_lt (h.2.1 x hx), fun q i hq => h.2.2 q i (by omega)⟩
  refine J.newaI n d a_int hx hn h.fr hb ?_
  rw [jmT_len h.1, jmT_one hs]
  exact k2
theorem K.newB (h : CT N l s) (e : N' = N + 1) {x : Int} (n : Nat) (d : decode mi.2.1 pc = .ok (.newarray .byte, 2)) (hs : jsh[N]? = some (101, n)) (hx : iI x = Int32.ofNat n) (hn : n < 1000000) (hN : N < 137) (hb : 1 ≤ b.2.1 ∧ n ≤ b.2.2)
    (k : CT N' l s → J Γ (b.1, b.2.1 - 1, b.2.2 - n) mi (pc + 2) L (.ref N :: S) (jmT N' l s) P X) : J Γ b mi pc L (.int (iI x) :: S) (jmT N l s) P X := by
  subst e
  have k2 := k ⟨hN, fun x hx => Nat.lt_succ_of_lt (h.2.1 x hx), fun q i hq => h.2.2 q i (by omega)⟩
  refine J.newaB n d a_byte hx hn h.fr hb ?_
  rw [jmT_len h.1, jmT_one hs]
  exact k2
theorem K.newA (h : CT N l s) (e : N' = N + 1) {x : Int} {idx : Nat} (n : Nat) (d : decode mi.2.1 pc = .ok (.anewarray idx, 3)) (hl : Cond.classLink mi.1.cls idx "DominoChains$State" ∈ jG) (hs : jsh[N]? = some (105, n)) (hx : iI x = Int32.ofNat n) (hn : n < 1000000) (hN : N < 137) (hb : 1 ≤ b.2.1 ∧ n ≤ b.2.2)
    (k : CT N' l s → J Γ (b.1, b.2.1 - 1, b.2.2 - n) mi (pc + 3) L (.ref N :: S) (jmT N' l s) P X) : J Γ b mi pc L (.int (iI x) :: S) (jmT N l s) P X := by
  subst e
  have k2 := k ⟨hN, fun x hx => Nat.lt_succ_of_lt (h.2.1 x hx), fun q i hq => h.2.2 q i (by omega)⟩
  refine J.anew n d hl hx hn h.fr hb ?_
  rw [jmT_len h.1, jmT_one hs]
  exact k2
theorem K.putR (h : CT N l s) {q idx ci k n r : Nat} {ty : FieldType} (d : decode mi.2.1 pc = .ok (.putfield idx, 3)) (f : jFld mi.1.cls idx ci k ty true) (hs : jsh[q]? = some (ci, n)) (hq : q < N) (hn : k < n) (hr : jrf ci k = true) (hin2 : mi.1.name = "<init>") (hown : (vwCl.getD ci (RX0, TX0, 3)).1 = mi.1.cls) (hx : ∀ a : Nat, narrow ty (.ref a) = .ref a ∧ fits ty (.ref a) = true) (hrn : r < N)
    (kk : CT N ((q, k, r) :: l) s → J Γ b mi (pc + 3) L S (jmT N ((q, k, r) :: l) s) P X) : J Γ b mi pc L (.ref r :: .ref q :: S) (jmT N l s) P X := by
  have k2 := kk ⟨h.1, fun x hx => (List.mem_cons.mp hx).elim (fun e => by rw [e]; exact hq) (h.2.1 x), h.2.2⟩
  refine J.putFR jcls d f ((jmT_at hq).trans hs) hn hr hin2 hown hx (by rw [jmT_len h.1]; exact hrn) ?_
  show J Γ b mi (pc + 3) L S (jsh.take N, jup2 (tL l) q k (some r), _) P X
  rw [tL_c]
  exact k2
theorem K.pI (h : CT N l s) {q idx ci k n : Nat} {x : Int} (d : decode mi.2.1 pc = .ok (.putfield idx, 3)) (f : jFld mi.1.cls idx ci k .int false) (hs : jsh[q]? = some (ci, n)) (hq : q < N) (hn : k < n) (hr : jrf ci k = false) (j : Int) (hj : (k : Int) = j)
    (kk : CT N l (up s q j x) → J Γ b mi (pc + 3) L S (jmT N l (up s q j x)) P X) : J Γ b mi pc L (.int (iI x) :: .ref q :: S) (jmT N l s) P X := by
  subst hj
  have k2 := kk ⟨h.1, h.2.1, fun a i ha => (up_ne (by omega)).trans (h.2.2 a i ha)⟩
  refine J.putI jcls d f ((jmT_at hq).trans hs) hn hr rfl rfl ?_
  have e : jup2 (fun q k => iI (s q (k : Int))) q k (iI x) = fun a (i : Nat) => iI (up s q k x a i) := by
    funext a i
    unfold jup2 up
    by_cases c : a = q ∧ i = k
    · rw [if_pos c, if_pos (by omega)]
    · rw [if_neg c, if_neg (by omega)]
  show J Γ b mi (pc + 3) L S (jsh.take N, tL l, jup2 (fun q (k : Nat) => iI (s q k)) q k (iI x), _) P X
  rw [e]
  exact k2
theorem K.gR {q idx ci k n r : Nat} {ty : FieldType} {fin : Bool} (d : decode mi.2.1 pc = .ok (.getfield idx, 3)) (f : jFld mi.1.cls idx ci k ty fin) (hs : jsh[q]? = some (ci, n)) (hq : q < N) (hn : k < n) (hr : jrf ci k = true) (hv : tL l q k = some r) (kk : J Γ b mi (pc + 3) L (.ref r :: S) (jmT N l s) P X) : J Γ b mi pc L (.ref q :: S) (jmT N l s) P X :=
  J.getR jcls d f ((jmT_at hq).trans hs) hn hr hv kk
theorem K.alen {q t n : Nat} (d : decode mi.2.1 pc = .ok (.arraylength, 1)) (hs : jsh[q]? = some (t, n)) (hq : q < N) (ht : 100 ≤ t) (kk : J Γ b mi (pc + 1) L (.int (iI (n : Nat)) :: S) (jmT N l s) P X) : J Γ b mi pc L (.ref q :: S) (jmT N l s) P X :=
  J.alen d ((jmT_at hq).trans hs) ht kk
theorem K.aast (h : CT N l s) {q n r n6 : Nat} {i : Int} (d : decode mi.2.1 pc = .ok (.aastore, 1)) (hs : jsh[q]? = some (105, n)) (hq : q < N) (hn : n < 1000000) (j : Nat) (hi : i = (j : Int)) (hj : j < n) (hr : jsh[r]? = some (6, n6)) (hrn : r < N)
    (kk : CT N ((q, j, r) :: l) s → J Γ b mi (pc + 1) L S (jmT N ((q, j, r) :: l) s) P X) : J Γ b mi pc L (.ref r :: .int (iI i) :: .ref q :: S) (jmT N l s) P X := by
  subst hi
  have k2 := kk ⟨h.1, fun x hx => (List.mem_cons.mp hx).elim (fun e => by rw [e]; exact hq) (h.2.1 x), h.2.2⟩
  refine J.aast jcls d ((jmT_at hq).trans hs) (iI_in (z := (j : Int)) (by omega) (by omega)) ((jmT_at hrn).trans hr) ?_
  rw [show (iI (j : Int)).toNatClampNeg = j from (iI_clamp (by omega)).trans (by omega)]
  show J Γ b mi (pc + 1) L S (jsh.take N, jup2 (tL l) q j (some r), _) P X
  rw [tL_c]
  exact k2
/-- a constructor is called -/
theorem K.init {q idx : Nat} {b' : Nat × Nat × Nat} {mi' : jMI} {M M1 : jM} {R : Prop} (d : decode mi.2.1 pc = .ok (.invokespecial idx, 3)) (hl : Cond.methodLink mi.1.cls idx mi'.1 ∈ jG) (hs : jIE mi' 0) (hb : b'.1 + 1 ≤ b.1 ∧ b'.2.1 ≤ b.2.1 ∧ b'.2.2 ≤ b.2.2) (hc : Con Γ b' mi' [.ref q] M (fun v M' => v = none ∧ M' = M1 ∧ R) X0) (hcat : (S.map fun v => v.category).sum ≤ 8)
    (k : R → J Γ (b.1, b.2.1 - b'.2.1, b.2.2 - b'.2.2) mi (pc + 3) L S M1 P X) : J Γ b mi pc L (.ref q :: S) M P X :=
  J.callI [] d hl hs hb hc (fun _ _ h => h) (fun _ _ h => absurd h id) hcat (fun v M' h => by obtain ⟨rfl, rfl, r⟩ := h; exact k r)
theorem K.initN {q idx : Nat} {host : String} {b' : Nat × Nat × Nat} {mi' : jMI} {M M1 : jM} {R : Prop} (d : decode mi.2.1 pc = .ok (.invokespecial idx, 3)) (hl : Cond.methodLinkNest mi.1.cls idx mi'.1 host ∈ lw_tbl) (hs : jIE mi' 0) (hb : b'.1 + 1 ≤ b.1 ∧ b'.2.1 ≤ b.2.1 ∧ b'.2.2 ≤ b.2.2) (hc : Con Γ b' mi' [.ref q] M (fun v M' => v = none ∧ M' = M1 ∧ R) X0) (hcat : (S.map fun v => v.category).sum ≤ 8)
    (k : R → J Γ (b.1, b.2.1 - b'.2.1, b.2.2 - b'.2.2) mi (pc + 3) L S M1 P X) : J Γ b mi pc L (.ref q :: S) M P X :=
  J.callIN [] d hl hs hb hc (fun _ _ h => h) (fun _ _ h => absurd h id) hcat (fun v M' h => by obtain ⟨rfl, rfl, r⟩ := h; exact k r)
end JT
