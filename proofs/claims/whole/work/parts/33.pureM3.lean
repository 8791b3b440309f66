theorem iIt0 : (iI 0).toInt = 0 := rfl
theorem iIt1 : (iI 1).toInt = 1 := rfl
/-- the sign at a place of the reference's text -/
def sgX (M : gM) (x : Int) : Int := if x < gN M 0 8 then gA M 5 x else 0
theorem sS_c (M : gM) (x y : Int32) : sS (sS M 0 10 x) 0 9 y = sS (sS M 0 9 y) 0 10 x := by
  refine Prod.ext rfl ?_
  funext c f
  simp only [sS]
  by_cases h1 : c = 0 ∧ f = 9
  · rw [if_pos h1, if_neg (by omega), if_pos h1]
  · rw [if_neg h1]
    by_cases h2 : c = 0 ∧ f = 10
    · rw [if_pos h2, if_pos h2]
    · rw [if_neg h2, if_neg h2, if_neg h1]
def num9 (M : gM) (a b : Int) : gM := sS (sS M 0 9 (iI a)) 0 10 (iI b)
def grp9 (M : gM) (a b wt v g : Int) : gM := sS (num9 (sF M 6 (st (st (M.1 6) (2 * gN M 0 12) (iI wt)) (2 * gN M 0 12 + 1) (iI v))) a b) 0 12 (iI g)
theorem sgX_9 (M : gM) (v : Int32) (x : Int) : sgX (sS M 0 9 v) x = sgX M x := rfl
theorem sgX_10 (M : gM) (v : Int32) (x : Int) : sgX (sS M 0 10 v) x = sgX M x := rfl
theorem sgX_12 (M : gM) (v : Int32) (x : Int) : sgX (sS M 0 12 v) x = sgX M x := rfl
theorem sgX_0 (M : gM) (v : Int32) (x : Int) : sgX (sS M 0 0 v) x = sgX M x := rfl
theorem sgX_F (M : gM) (A : Int → Int32) (x : Int) : sgX (sF M 6 A) x = sgX M x := rfl
theorem sgX_lt {M : gM} {x : Int} (h : ¬ sgX M x = 0) : x < gN M 0 8 := by
  unfold sgX at h
  split at h
  · assumption
  · exact absurd rfl h
theorem sgX_r (M : gM) (x : Int) : inR (sgX M x) := by
  unfold sgX
  split
  · exact gA_r _ _ _
  · exact ⟨by decide, by decide⟩
/-- one group of the reference's reader -/
def isD3 (c : Int) : Prop := c = 115 ∨ c = 99 ∨ c = 114
def stG (N M' : gM) : Prop :=
  (¬ isD3 (sgX N (gN N 0 9)) ∧ M' = grp9 N (gN N 0 9) 0 (wOf (sgX N (gN N 0 9))) 0 (gN N 0 12)) ∨
  (isD3 (sgX N (gN N 0 9)) ∧ ¬ (48 ≤ sgX N (gN N 0 9 + 1) ∧ sgX N (gN N 0 9 + 1) ≤ 57) ∧ M' = grp9 N (gN N 0 9 + 1) 1 (wOf (sgX N (gN N 0 9))) 1 (gN N 0 12 + 1)) ∨
  (isD3 (sgX N (gN N 0 9)) ∧ sgX N (gN N 0 9 + 1) = 48 ∧ M' = grp9 N (gN N 0 9 + 1) 0 (wOf (sgX N (gN N 0 9))) 0 (gN N 0 12)) ∨
  (isD3 (sgX N (gN N 0 9)) ∧ (49 ≤ sgX N (gN N 0 9 + 1) ∧ sgX N (gN N 0 9 + 1) ≤ 57) ∧ ((48 ≤ sgX N (gN N 0 9 + 1 + 1) ∧ sgX N (gN N 0 9 + 1 + 1) ≤ 57) ∧ 10 * (sgX N (gN N 0 9 + 1) - 48) + sgX N (gN N 0 9 + 1 + 1) - 48 ≤ 60) ∧ M' = grp9 N (gN N 0 9 + 1 + 1 + 1) 1 (wOf (sgX N (gN N 0 9))) (10 * (sgX N (gN N 0 9 + 1) - 48) + sgX N (gN N 0 9 + 1 + 1) - 48) (gN N 0 12 + 1)) ∨
  (isD3 (sgX N (gN N 0 9)) ∧ sgX N (gN N 0 9 + 1) = 49 ∧ ¬ ((48 ≤ sgX N (gN N 0 9 + 1 + 1) ∧ sgX N (gN N 0 9 + 1 + 1) ≤ 57) ∧ 10 * (sgX N (gN N 0 9 + 1) - 48) + sgX N (gN N 0 9 + 1 + 1) - 48 ≤ 60) ∧ M' = grp9 N (gN N 0 9 + 1 + 1) 0 (wOf (sgX N (gN N 0 9))) 1 (gN N 0 12)) ∨
  (isD3 (sgX N (gN N 0 9)) ∧ (50 ≤ sgX N (gN N 0 9 + 1) ∧ sgX N (gN N 0 9 + 1) ≤ 57) ∧ ¬ ((48 ≤ sgX N (gN N 0 9 + 1 + 1) ∧ sgX N (gN N 0 9 + 1 + 1) ≤ 57) ∧ 10 * (sgX N (gN N 0 9 + 1) - 48) + sgX N (gN N 0 9 + 1 + 1) - 48 ≤ 60) ∧ M' = grp9 N (gN N 0 9 + 1 + 1) 1 (wOf (sgX N (gN N 0 9))) (sgX N (gN N 0 9 + 1) - 48) (gN N 0 12 + 1))
