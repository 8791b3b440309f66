theorem st_count {w w1 w2 : gW} {b0 b1 b2 b3 : Nat} {q z1 z2 : Int} (h : Rel w b0 b1 b2 b3) (h1 : po_X5_count w b0 b1 b2 b3 q z1 w1) (h2 : po_X6_count w1 q z2 w2) : Fin z1 z2 w2 := by
  have r := h.2.1
  have e4 := h.2.2.1
  have ht := h.2.2.2.2.2.1
  obtain ⟨⟨s0, s1, s2, s3⟩, ⟨s4, s5, s6⟩, ⟨s7, s8⟩, -⟩ := r.2.2.1
  unfold po_X5_count at h1
  unfold po_X6_count at h2
  have ew : w1 = w := by rcases h1 with h1 | h1 | h1 | h1 | h1 | h1 | h1 | h1 | h1 | h1 | h1 | h1 | h1 | h1 | h1 | h1 <;> exact h1.2.2
  subst ew
  have fw : w2 = up w1 10 (sS (w1 10) 0 0 (iI 0)) := by rcases h2 with h2 | h2 | h2 | h2 | h2 | h2 | h2 | h2 | h2 | h2 | h2 <;> exact h2.2.2
  refine Fin_noI h ?_ fw
  rw [show (((20 : Nat) : Int)) = 20 from rfl, show (((10 : Nat) : Int)) = 10 from rfl, cnt_St r, cnt_Dr r, sum_H r, sum_L r] at h1
  have m : (0 ≤ q ∧ q ≤ 3) → aI ((w1 10).1 1) (2 + q) = if q = 0 then gN (w1 1) 0 11 else if q = 1 then gN (w1 1) 0 12 else if q = 2 then cntI (pLy (w1 1)) (gN (w1 1) 7 6) else gN (w1 1) 7 6 := by
    intro hq
    rcases (show q = 0 ∨ q = 1 ∨ q = 2 ∨ q = 3 by omega) with rfl | rfl | rfl | rfl
    · exact s2
    · exact s3
    · exact s4
    · exact s5
  have m2 : (q = 9 ∨ q = 10) → aI ((w1 10).1 1) (7 + q - 9) = if q = 9 then gN (w1 1) 14 5 - gN (w1 1) 14 4 else gN (w1 1) 14 5 := by
    rintro (rfl | rfl)
    · exact s7
    · exact s8
  have m3 : (q = 11 ∨ q = 12) → aI ((w1 10).1 1) (q - 11) = if q = 11 then gN (w1 1) 0 8 else gN (w1 1) 0 9 := by
    rintro (rfl | rfl)
    · exact s0
    · exact s1
  rcases h2 with ⟨d1, f1, -⟩ | ⟨d1, f1, -⟩ | ⟨d1, f1, -⟩ | ⟨d1, f1, -⟩ | ⟨d1, f1, -⟩ | ⟨d1, f1, -⟩ | ⟨d1, f1, -⟩ | ⟨d1, f1, -⟩ | ⟨d1, f1, -⟩ | ⟨d1, f1, -⟩ | ⟨d1, f1, -⟩
  all_goals (try rw [m d1] at f1)
  all_goals (try rw [m2 d1] at f1)
  all_goals (try rw [m3 d1] at f1)
  all_goals (rcases h1 with ⟨c1, e1, -⟩ | ⟨c1, e1, -⟩ | ⟨c1, e1, -⟩ | ⟨c1, e1, -⟩ | ⟨c1, e1, -⟩ | ⟨c1, e1, -⟩ | ⟨c1, e1, -⟩ | ⟨c1, e1, -⟩ | ⟨c1, e1, -⟩ | ⟨c1, e1, -⟩ | ⟨c1, e1, -⟩ | ⟨c1, e1, -⟩ | ⟨c1, e1, -⟩ | ⟨c1, e1, -⟩ | ⟨c1, e1, -⟩ | ⟨c1, e1, -⟩ <;> first | (exfalso; omega) | exact e1.trans f1.symm | (congr 1; omega) | (subst c1; simp at f1; congr 1; omega))
theorem st_row {w w1 w2 : gW} {b0 b1 b2 b3 : Nat} {x q z1 z2 : Int} (h : Rel w b0 b1 b2 b3) (h1 : po_X5_row w b0 b1 b2 b3 x q z1 w1) (h2 : po_X6_row w1 x q z2 w2) : Fin z1 z2 w2 := by
  have r := h.2.1
  unfold po_X5_row at h1
  unfold po_X6_row at h2
  have ew : w1 = w := by rcases h1 with h1 | h1 | h1 | h1 | h1 | h1 | h1 | h1 | h1 <;> (first | exact h1.2.2 | exact h1.2.2.2)
  subst ew
  have fw : w2 = up w1 10 (sS (w1 10) 0 0 (iI 0)) := by rcases h2 with h2 | h2 | h2 | h2 | h2 <;> exact h2.2.2
  refine Fin_no h ?_ fw
  by_cases hl : lyi (w1 1) x
  · have p := rl_row r hl.1 hl.2.1 hl.2.2
    obtain ⟨⟨g0, g1, g2⟩, g3, g4, g5⟩ := r.2.2.2.2.2.1.1 x hl.1 hl.2.1 hl.2.2
    have b11 := bz 11 (r.1.2.2.2.1 x)
    have b12 := bz 12 (r.1.2.2.2.2.1 x)
    have hd : pDr (w1 1) x ↔ gA (w1 1) 10 x ≤ 20 := ⟨fun t => t.2, fun t => ⟨hl, t⟩⟩
    rw [hd] at h1
    rcases h2 with ⟨d1, f1, -⟩ | ⟨d1, ⟨pa, hp, f1⟩, -⟩ | ⟨d1, ⟨pa, hp, f1⟩, -⟩ | ⟨d1, ⟨pa, hp, f1⟩, -⟩ | ⟨d1, ⟨pa, hp, f1⟩, -⟩
    · exact absurd hl ((rl_nop r).1 d1)
    all_goals (have ea := plc_u hp p; try rw [ea] at f1)
    · rcases h1 with ⟨c1, e1, -⟩ | ⟨c1, c2, e1, -⟩ | ⟨c1, c2, e1, -⟩ | ⟨c1, c2, e1, -⟩ | ⟨c1, c2, e1, -⟩ | ⟨c1, c2, e1, -⟩ | ⟨c1, c2, e1, -⟩ | ⟨c1, c2, e1, -⟩ | ⟨c1, c2, e1, -⟩ <;> first | exact absurd hl c1 | omega
    · rcases h1 with ⟨c1, e1, -⟩ | ⟨c1, c2, e1, -⟩ | ⟨c1, c2, e1, -⟩ | ⟨c1, c2, e1, -⟩ | ⟨c1, c2, e1, -⟩ | ⟨c1, c2, e1, -⟩ | ⟨c1, c2, e1, -⟩ | ⟨c1, c2, e1, -⟩ | ⟨c1, c2, e1, -⟩ <;> first | exact absurd hl c1 | (exfalso; omega) | (subst c2; have f2 := f1.trans g1; omega) | (subst c2; have f2 := f1.trans g2; omega) | (subst c2; have f2 := f1.trans g3; omega) | (subst c2; have f2 := f1.trans g4; omega) | (subst c2; have f2 := f1.trans g5; omega)
    · rw [g3] at f1
      rcases h1 with ⟨c1, e1, -⟩ | ⟨c1, c2, e1, -⟩ | ⟨c1, c2, e1, -⟩ | ⟨c1, c2, e1, -⟩ | ⟨c1, c2, e1, -⟩ | ⟨c1, c2, e1, -⟩ | ⟨c1, c2, e1, -⟩ | ⟨c1, c2, e1, -⟩ | ⟨c1, c2, e1, -⟩ <;> first | exact absurd hl c1 | omega
    · rw [g3] at f1
      rcases h1 with ⟨c1, e1, -⟩ | ⟨c1, c2, e1, -⟩ | ⟨c1, c2, e1, -⟩ | ⟨c1, c2, e1, -⟩ | ⟨c1, c2, e1, -⟩ | ⟨c1, c2, e1, -⟩ | ⟨c1, c2, e1, -⟩ | ⟨c1, c2, e1, -⟩ | ⟨c1, c2, e1, -⟩ <;> first | exact absurd hl c1 | omega
  · have np := (rl_nop r).2 hl
    have no : ∀ pa, ¬ plc ((w1 10).1 1) x pa := fun pa hp => np pa hp.1.1 hp.1.2 hp.2.1
    rcases h2 with ⟨d1, f1, -⟩ | ⟨d1, ⟨pa, hp, f1⟩, -⟩ | ⟨d1, ⟨pa, hp, f1⟩, -⟩ | ⟨d1, ⟨pa, hp, f1⟩, -⟩ | ⟨d1, ⟨pa, hp, f1⟩, -⟩ <;> first | exact absurd hp (no pa) | skip
    rcases h1 with ⟨c1, e1, -⟩ | ⟨c1, c2, e1, -⟩ | ⟨c1, c2, e1, -⟩ | ⟨c1, c2, e1, -⟩ | ⟨c1, c2, e1, -⟩ | ⟨c1, c2, e1, -⟩ | ⟨c1, c2, e1, -⟩ | ⟨c1, c2, e1, -⟩ | ⟨c1, c2, e1, -⟩ <;> first | exact absurd c1 hl | omega
