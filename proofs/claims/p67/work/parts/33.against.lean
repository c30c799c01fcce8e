noncomputable def gDag (f : Int → Int) : Int := if bI (gOver f) = 1 then 0 else gAg (if f 4 = 1 then 1 else 0) f
noncomputable def gGab (f : Int → Int) : Int := if bI (gOver f) = 1 then 0 else -gBhf f
theorem gDag_o {f : Int → Int} (h : gOver f) : gDag f = 0 := if_pos (bI_t h)
theorem gGab_o {f : Int → Int} (h : gOver f) : gGab f = 0 := if_pos (bI_t h)
theorem gDag_n1 {f : Int → Int} (h : ¬ gOver f) (g : f 4 = 1) : gDag f = gAg 1 f := (if_neg (by rw [bI_f h]; decide)).trans (by rw [if_pos g])
theorem gDag_n0 {f : Int → Int} (h : ¬ gOver f) (g : f 4 ≠ 1) : gDag f = gAg 0 f := (if_neg (by rw [bI_f h]; decide)).trans (by rw [if_neg g])
theorem gGab_n {f : Int → Int} (h : ¬ gOver f) : gGab f = -gBhf f := if_neg (by rw [bI_f h]; decide)
