/-! the reference: one row of numbers -/
def aI (A : Int → Int32) (i : Int) : Int := (A i).toInt
def st (A : Int → Int32) (i : Int) (v : Int32) : Int → Int32 := fun i' => if i' = i then v else A i'
theorem aI_r (A : Int → Int32) (i : Int) : inR (aI A i) := inR_o _
theorem aI_i (A : Int → Int32) (i : Int) : iI (aI A i) = A i := iI_o _
theorem st_aI (A : Int → Int32) (i : Int) (v : Int32) (x : Int) : aI (st A i v) x = if x = i then v.toInt else aI A x := by
  unfold aI st
  split <;> rfl
theorem st_n (A : Int → Int32) {i : Int} (v : Int32) {x : Int} (h : ¬ x = i) : st A i v x = A x := if_neg h
theorem st_e (A : Int → Int32) (i : Int) (v : Int32) : st A i v i = v := if_pos rfl
theorem aI_n (A : Int → Int32) {i : Int} (v : Int32) {x : Int} (h : ¬ x = i) : aI (st A i v) x = aI A x := congrArg Int32.toInt (st_n A v h)
theorem aI_e (A : Int → Int32) (i : Int) (v : Int32) : aI (st A i v) i = v.toInt := congrArg Int32.toInt (st_e A i v)
/-- B within lo to hi, else A -/
def selG (A B : Int → Int32) (lo hi : Int) : Int → Int32 := fun i => if lo ≤ i ∧ i < hi then B i else A i
theorem selG_0 (A B : Int → Int32) {lo hi : Int} (h : hi ≤ lo) : selG A B lo hi = A := by
  funext i
  unfold selG
  rw [if_neg (by omega)]
theorem selG_s (A B : Int → Int32) {lo x : Int} (h : lo ≤ x) : selG A B lo (x + 1) = st (selG A B lo x) x (B x) := by
  funext i
  show (if lo ≤ i ∧ i < x + 1 then B i else A i) = if i = x then B x else if lo ≤ i ∧ i < x then B i else A i
  by_cases hi : i = x
  · rw [if_pos hi, if_pos (by omega), hi]
  · rw [if_neg hi]
    by_cases hq : lo ≤ i ∧ i < x
    · rw [if_pos hq, if_pos (by omega)]
    · rw [if_neg hq, if_neg (by omega)]
theorem selG_o (A B : Int → Int32) {lo hi x : Int} (h : x < lo ∨ hi ≤ x) : selG A B lo hi x = A x := if_neg (by omega)
theorem selG_i (A B : Int → Int32) {lo hi x : Int} (h : lo ≤ x ∧ x < hi) : selG A B lo hi x = B x := if_pos h
theorem aI_so (A B : Int → Int32) {lo hi x : Int} (h : x < lo ∨ hi ≤ x) : aI (selG A B lo hi) x = aI A x := congrArg Int32.toInt (selG_o A B h)
theorem aI_si (A B : Int → Int32) {lo hi x : Int} (h : lo ≤ x ∧ x < hi) : aI (selG A B lo hi) x = aI B x := congrArg Int32.toInt (selG_i A B h)
