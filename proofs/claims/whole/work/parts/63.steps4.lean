theorem rs_eq {C : gM} {A : Int → Int32} (r : rl C A) {co pl : Int} (hc : 0 ≤ co ∧ co ≤ 9) (hp : 0 ≤ pl ∧ pl ≤ 19) (z : Int) : rsn C co pl z ↔ rsA A co pl z := by
  obtain ⟨t1, t2, -⟩ := r.2.2.2.1 co hc.1 hc.2
  have g : ∀ x : Int, (0 ≤ x ∧ x ≤ 19) → aI A (41 + 3 * x + 2) = gA C 3 x := fun x hx => (r.2.2.2.2.1 x hx.1 hx.2).2.2
  have p0 := (r.2.2.2.2.1 pl hp.1 hp.2).1
  have p1 := (r.2.1.2.1 pl hp.1 hp.2).1
  have c1 := r.2.1.1.1
  have c2 := r.2.2.1.2.1.1
  have ea : ∀ x, pRA A co x ↔ pR C co x := by
    intro x
    unfold pRA pR
    constructor
    · rintro ⟨u, v⟩; exact ⟨u, by rw [← g x u]; exact v⟩
    · rintro ⟨u, v⟩; exact ⟨u, by rw [g x u]; exact v⟩
  unfold rsn rsA
  rw [ea, ea, ea, t1, t2, p0, c2]
  have hD : pD C co ↔ gA C 5 co < gA C 4 co := by unfold pD; first | exact Iff.rfl | omega
  rw [hD]
  generalize pR C co pl = P1
  generalize pR C co (pl - 1) = P2
  generalize pR C co (pl + 1) = P3
  by_cases q1 : gA C 5 co < gA C 4 co
  · have n1 : ¬ gA C 4 co ≤ gA C 5 co := by omega
    by_cases q2 : gA C 1 pl = 0
    · have n2 : gA C 1 pl ≤ 0 := by omega
      have n3 : ¬ 0 < gA C 1 pl := by omega
      simp [q1, n1, q2, hp.1, hp.2]
    · have n2 : ¬ gA C 1 pl ≤ 0 := by omega
      have n3 : 0 < gA C 1 pl := by omega
      by_cases q3 : cntI (pLy C) (gN C 7 6) = 60
      · simp [q1, n1, q2, n2, n3, hp.1, hp.2, q3]
      · have n4 : ¬ 60 ≤ cntI (pLy C) (gN C 7 6) := by omega
        have n5 : cntI (pLy C) (gN C 7 6) < 60 := by omega
        simp [q1, n1, q2, n2, n3, hp.1, hp.2, q3, n4, n5]
  · have n1 : gA C 4 co ≤ gA C 5 co := by omega
    simp [q1, n1]
theorem rsA_u {A : Int → Int32} {co pl z1 z2 : Int} (h1 : rsA A co pl z1) (h2 : rsA A co pl z2) : z1 = z2 := by
  unfold rsA at h1 h2
  by_cases a1 : pRA A co pl <;> by_cases a2 : pRA A co (pl - 1) <;> by_cases a3 : pRA A co (pl + 1) <;> simp only [a1, a2, a3, or_true, true_or, or_false, false_or, not_true, not_false_iff, and_true, and_false, false_and, true_and] at h1 h2 <;> omega
theorem st_why {w w1 w2 : gW} {b0 b1 b2 b3 : Nat} {co pl z1 z2 : Int} (h : Rel w b0 b1 b2 b3) (h1 : po_X5_why w b0 b1 b2 b3 co pl z1 w1) (h2 : po_X6_why w1 co pl z2 w2) : Fin z1 z2 w2 := by
  have r := h.2.1
  unfold po_X5_why at h1
  unfold po_X6_why at h2
  rcases h1 with ⟨c1, e1, rfl⟩ | ⟨c1, c2, e1, rfl⟩
  · rcases h2 with ⟨d1, f1, fw⟩ | ⟨d1, d2, f1, fw⟩
    · exact Fin_no h (by omega) fw
    · exact absurd ⟨d1, d2⟩ c1
  · rcases h2 with ⟨d1, f1, fw⟩ | ⟨d1, d2, f1, fw⟩
    · exact absurd ⟨c1, c2⟩ d1
    · exact Fin_no h (rsA_u ((rs_eq r c1 c2 _).1 e1) f1) fw
