theorem iIt0 : (iI 0).toInt = 0 := rfl
theorem iIt1 : (iI 1).toInt = 1 := rfl
/-- the sign at a place of the reference's text -/
def sgX (M : gM) (x : Int) : Int := if x < gN M 0 8 then gA M 5 x else 0
theorem sS_c (M : gM) (x y : Int32) : sS (sS M 0 10 x) 0 9 y = sS (sS M 0 9 y) 0 10 x := by
  refine Prod.ext rfl ?_
  funext c f
  simp only [sS]
  by_cases h1 : c = 0 ∧ f = 9
  · rw [if_pos h1, if_neg (by omega), if_pos h1]
  · rw [if_neg h1]
    by_cases h2 : c = 0 ∧ f = 10
    · rw [if_pos h2, if_pos h2]
    · rw [if_neg h2, if_neg h2, if_neg h1]
def num9 (M : gM) (a b : Int) : gM := sS (sS M 0 9 (iI a)) 0 10 (iI b)
def grp9 (M : gM) (a b wt v g : Int) : gM := sS (num9 (sF M 6 (st (st (M.1 6) (2 * gN M 0 12) (iI wt)) (2 * gN M 0 12 + 1) (iI v))) a b) 0 12 (iI g)
