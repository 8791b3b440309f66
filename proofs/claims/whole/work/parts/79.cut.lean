theorem sum_up {f g : Int → Int} {x d : Int} (hx : 0 ≤ x) (he : g x = f x + d) (ho : ∀ r, ¬ r = x → g r = f r) : ∀ n : Nat, sumX g n = sumX f n + if x < n then d else 0
  | 0 => by
    rw [if_neg (by omega)]; rfl
  | n + 1 => by
    have ih := sum_up hx he ho n
    rw [show ((n + 1 : Nat) : Int) = (n : Int) + 1 by omega, sumX_s _ (by omega), sumX_s _ (by omega), ih]
    by_cases q : (n : Int) = x
    · rw [q, he, if_neg (by omega), if_pos (by omega)]; omega
    · rw [ho _ q]
      by_cases t : x < n
      · rw [if_pos t, if_pos (by omega)]; omega
      · rw [if_neg t, if_neg (by omega)]; omega
/-- what a cut row does to the cells -/
theorem tk_A (C : gM) (co pl : Int) (c : Nat) (r : Int) : gA (takM0 C co pl) c r = if c = 13 ∧ r = gN C 7 6 then 1 else if c = 12 ∧ r = gN C 7 6 then 0 else if c = 11 ∧ r = gN C 7 6 then 0 else if c = 10 ∧ r = gN C 7 6 then 50 else if c = 9 ∧ r = gN C 7 6 then (iI pl).toInt else if c = 8 ∧ r = gN C 7 6 then (iI co).toInt else if c = 5 ∧ r = co then (iI (gA C 5 co + 1)).toInt else if c = 1 ∧ r = pl then (iI (gA C 1 pl - 1)).toInt else gA C c r := by
  unfold takM0 layM
  simp only [gA_sS, gA_sA, gN_sA]
  rfl
theorem tk_N (C : gM) (co pl : Int) (c f : Nat) : gN (takM0 C co pl) c f = if c = 7 ∧ f = 6 then (iI (gN C 7 6 + 1)).toInt else gN C c f := by
  unfold takM0 layM
  simp only [gN_sS, gN_sA]
/-- what it does to the reference's numbers -/
theorem ct_A {A : Int → Int32} {co pl : Int} (hc : 0 ≤ co ∧ co ≤ 9) (hp : 0 ≤ pl ∧ pl ≤ 19) (h4 : 0 ≤ aI A 4 ∧ aI A 4 < 60) (x : Int) : aI (ctA A co pl) x = if x = 5 then (iI (aI A 5 + 1)).toInt else if x = 4 then (iI (aI A 4 + 1)).toInt else if x = 101 + 6 * aI A 4 + 5 then 0 else if x = 101 + 6 * aI A 4 + 4 then 0 else if x = 101 + 6 * aI A 4 + 3 then 50 else if x = 101 + 6 * aI A 4 + 2 then (iI pl).toInt else if x = 101 + 6 * aI A 4 + 1 then (iI co).toInt else if x = 101 + 6 * aI A 4 + 0 then (iI (aI A 5)).toInt else if x = 41 + 3 * pl + 0 then (iI (aI A (41 + 3 * pl + 0) - 1)).toInt else if x = 11 + 3 * co + 1 then (iI (aI A (11 + 3 * co + 1) + 1)).toInt else aI A x := by
  unfold ctA
  simp only [st_aI]
  rfl
