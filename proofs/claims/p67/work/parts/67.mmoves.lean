/-- the model, reading the moves -/
def MM (T : Int → Int) (n : Int) (s : Nat → Int → Int) (g : Int → Int) (q : Int) : Prop := MK T n s q ∧ (MV s g ∧ s 137 2 = 2320) ∧ FL g ∧ FS g
section MMs
variable {T : Int → Int} {n q e : Int} {g h : Int → Int} {s s' z : Nat → Int → Int} {r t : Int × Int × (Int → Int)} {ok ok2 : Prop}
theorem MM.w (h : MM T n s g q) : MW s g := ⟨h.2.1.1, h.2.2⟩
end MMs
