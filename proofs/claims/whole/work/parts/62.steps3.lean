theorem st_cart {w w1 w2 : gW} {b0 b1 b2 b3 : Nat} {v z1 z2 : Int} (h : Rel w b0 b1 b2 b3) (h1 : po_X5_cart w b0 b1 b2 b3 v z1 w1) (h2 : po_X6_cart w1 v z2 w2) : Fin z1 z2 w2 := by
  have r := h.2.1
  obtain ⟨t1, t2⟩ := r.2.2.1.2.2.2
  have hr := r.1.2.2.2.2.2.2.1
  unfold po_X5_cart at h1
  unfold po_X6_cart at h2
  rcases h1 with ⟨c1, e1, rfl⟩ | ⟨c1, e1, rfl⟩
  · rcases h2 with ⟨d1, f1, fw⟩ | ⟨d1, f1, fw⟩
    · exact Fin_no h (by omega) fw
    · exact absurd d1 c1
  · rcases h2 with ⟨d1, f1, fw⟩ | ⟨d1, f1, fw⟩
    · exact absurd c1 d1
    · refine Fin_no h ?_ fw
      rcases (show v = 0 ∨ v = 1 by omega) with rfl | rfl
      · have f1 : z2 = aI ((w1 10).1 1) 9 := f1
        omega
      · have f1 : z2 = aI ((w1 10).1 1) 10 := f1
        omega
theorem st_plot {w w1 w2 : gW} {b0 b1 b2 b3 : Nat} {pl q z1 z2 : Int} (h : Rel w b0 b1 b2 b3) (h1 : po_X5_plot w b0 b1 b2 b3 pl q z1 w1) (h2 : po_X6_plot w1 pl q z2 w2) : Fin z1 z2 w2 := by
  have r := h.2.1
  unfold po_X5_plot at h1
  unfold po_X6_plot at h2
  have ew : w1 = w := by rcases h1 with h1 | h1 | h1 | h1 | h1 | h1 | h1 <;> (first | exact h1.2.2 | exact h1.2.2.2 | exact h1.2.2.2.2)
  subst ew
  have fw : w2 = up w1 10 (sS (w1 10) 0 0 (iI 0)) := by rcases h2 with h2 | h2 | h2 | h2 | h2 <;> (first | exact h2.2.2 | exact h2.2.2.2 | exact h2.2.2.2.2)
  refine Fin_no h ?_ fw
  by_cases hp : 0 ≤ pl ∧ pl ≤ 19
  · obtain ⟨t1, t2, t3⟩ := r.2.2.2.2.1 pl hp.1 hp.2
    have m : (0 ≤ q ∧ q ≤ 2) → aI ((w1 10).1 1) (41 + 3 * pl + q) = if q = 0 then gA (w1 1) 1 pl else if q = 1 then gA (w1 1) 2 pl else gA (w1 1) 3 pl := by
      intro hq
      rcases (show q = 0 ∨ q = 1 ∨ q = 2 by omega) with rfl | rfl | rfl
      · exact t1
      · exact t2
      · exact t3
    rw [t2, t3] at h2
    rcases h2 with ⟨d1, f1, -⟩ | ⟨d1, d2, f1, -⟩ | ⟨d1, d2, f1, -⟩ | ⟨d1, d2, d3, f1, -⟩ | ⟨d1, d2, d3, f1, -⟩
    · exact absurd hp d1
    · rcases h1 with ⟨c1, e1, -⟩ | ⟨c1, c2, e1, -⟩ | ⟨c1, c2, e1, -⟩ | ⟨c1, c2, e1, -⟩ | ⟨c1, c2, e1, -⟩ | ⟨c1, c2, c3, e1, -⟩ | ⟨c1, c2, c3, e1, -⟩ <;> first | exact absurd hp c1 | omega
    · rw [m d2] at f1
      rcases h1 with ⟨c1, e1, -⟩ | ⟨c1, c2, e1, -⟩ | ⟨c1, c2, e1, -⟩ | ⟨c1, c2, e1, -⟩ | ⟨c1, c2, e1, -⟩ | ⟨c1, c2, c3, e1, -⟩ | ⟨c1, c2, c3, e1, -⟩ <;> first | exact absurd hp c1 | omega | (subst c2; simp at f1; omega)
    · rcases h1 with ⟨c1, e1, -⟩ | ⟨c1, c2, e1, -⟩ | ⟨c1, c2, e1, -⟩ | ⟨c1, c2, e1, -⟩ | ⟨c1, c2, e1, -⟩ | ⟨c1, c2, c3, e1, -⟩ | ⟨c1, c2, c3, e1, -⟩ <;> first | exact absurd hp c1 | omega
    · rcases h1 with ⟨c1, e1, -⟩ | ⟨c1, c2, e1, -⟩ | ⟨c1, c2, e1, -⟩ | ⟨c1, c2, e1, -⟩ | ⟨c1, c2, e1, -⟩ | ⟨c1, c2, c3, e1, -⟩ | ⟨c1, c2, c3, e1, -⟩ <;> first | exact absurd hp c1 | omega
  · rcases h2 with ⟨d1, f1, -⟩ | ⟨d1, d2, f1, -⟩ | ⟨d1, d2, f1, -⟩ | ⟨d1, d2, d3, f1, -⟩ | ⟨d1, d2, d3, f1, -⟩ <;> first | exact absurd d1 hp | skip
    rcases h1 with ⟨c1, e1, -⟩ | ⟨c1, c2, e1, -⟩ | ⟨c1, c2, e1, -⟩ | ⟨c1, c2, e1, -⟩ | ⟨c1, c2, e1, -⟩ | ⟨c1, c2, c3, e1, -⟩ | ⟨c1, c2, c3, e1, -⟩ <;> first | exact absurd c1 hp | omega
theorem st_restore {w w1 w2 : gW} {b0 b1 b2 b3 : Nat} {z1 z2 : Int} (h : Rel w b0 b1 b2 b3) (h1 : po_X5_restore w b0 b1 b2 b3 z1 w1) (h2 : po_X6_restore w1 z2 w2) : Fin z1 z2 w2 := by
  have hk := h.2.2.2.2.1
  unfold po_X5_restore at h1
  unfold po_X6_restore at h2
  rcases h1 with ⟨c1, e1, rfl⟩ | ⟨c1, e1, ew⟩
  · rcases h2 with ⟨d1, f1, fw⟩ | ⟨d1, f1, fw⟩
    · exact Fin_no h (by omega) fw
    · exact absurd (hk.1.symm.trans c1) d1
  · have e10 : w1 10 = w 10 := by rw [ew]; exact rec10 h _
    rw [e10] at h2
    have r2 := hk.2 c1
    rcases h2 with ⟨d1, f1, fw⟩ | ⟨d1, f1, fw⟩
    · exact absurd (hk.1.trans d1) c1
    · exact Fin_act h (by rw [e1, f1, r2.2.2.1.2.1.1]) ew fw (rl_c r2 (fun i i0 i1 => aI_si _ _ ⟨i0, i1⟩))
theorem st_type {w w1 w2 : gW} {b0 b1 b2 b3 : Nat} {v z1 z2 : Int} (h : Rel w b0 b1 b2 b3) (hv : 0 ≤ v ∧ v ≤ 65535) (h1 : po_X5_type w b0 b1 b2 b3 v z1 w1) (h2 : po_X6_type w1 v z2 w2) : z1 = z2 := by
  obtain ⟨t1, t2⟩ := h.2.2.2.2.2
  unfold po_X5_type at h1
  unfold po_X6_type at h2
  rcases h1 with ⟨c1, e1, ew⟩ | ⟨c1, e1, ew⟩
  · have e10 : w1 10 = w 10 := by rw [ew]
    rw [e10] at h2
    rcases h2 with ⟨d1, f1, -⟩ | ⟨d1, f1, -⟩ <;> omega
  · have e10 : w1 10 = w 10 := by rw [ew]; rfl
    rw [e10] at h2
    rcases h2 with ⟨d1, f1, -⟩ | ⟨d1, f1, -⟩ <;> omega
