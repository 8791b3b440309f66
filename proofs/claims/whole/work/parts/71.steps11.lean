theorem st_stack {w w1 w2 : gW} {b0 b1 b2 b3 : Nat} {x z1 z2 : Int} (h : Rel w b0 b1 b2 b3) (h1 : po_X5_stack w b0 b1 b2 b3 x z1 w1) (h2 : po_X6_stack w1 x z2 w2) : Fin z1 z2 w2 := by
  have r := h.2.1
  unfold po_X5_stack at h1
  unfold po_X6_stack at h2
  have e10 : w1 10 = w 10 := by
    rcases h1 with ⟨-, -, ew⟩ | ⟨-, -, -, ew⟩ | ⟨-, -, -, -, ew⟩ | ⟨-, -, -, -, ew⟩ <;> rw [ew]
    exact rec10 h _
  rw [e10] at h2
  have b12 := bz 12 (r.1.2.2.2.2.1 x)
  by_cases hl : lyi (w 1) x
  · have p := rl_row r hl.1 hl.2.1 hl.2.2
    obtain ⟨⟨g0, g1, g2⟩, g3, g4, g5⟩ := r.2.2.2.2.2.1.1 x hl.1 hl.2.1 hl.2.2
    have hd : pDr (w 1) x ↔ gA (w 1) 10 x ≤ 20 := ⟨fun t => t.2, fun t => ⟨hl, t⟩⟩
    rw [hd] at h1
    rcases h2 with ⟨d1, f1, fw⟩ | ⟨⟨pa, hp, d1, f1, fw⟩, -⟩ | ⟨⟨pa, hp, d1, d2, f1, fw⟩, -⟩ | ⟨⟨pa, hp, d1, d2, f1, fw⟩, -⟩
    · exact absurd hl ((rl_nop r).1 d1)
    all_goals (have ea := plc_u hp p; subst ea)
    · rw [g3] at d1
      rcases h1 with ⟨c1, e1, ew⟩ | ⟨c1, c2, e1, ew⟩ | ⟨c1, c2, c3, e1, ew⟩ | ⟨c1, c2, c3, e1, ew⟩
      · exact absurd hl c1
      · rw [ew] at fw; exact Fin_no h (by omega) fw
      · omega
      · omega
    · rw [g3] at d1
      rw [g5] at d2
      rcases h1 with ⟨c1, e1, ew⟩ | ⟨c1, c2, e1, ew⟩ | ⟨c1, c2, c3, e1, ew⟩ | ⟨c1, c2, c3, e1, ew⟩
      · exact absurd hl c1
      · omega
      · rw [ew] at fw; exact Fin_no h (by omega) fw
      · omega
    · rw [g3] at d1
      rw [g5] at d2
      rcases h1 with ⟨c1, e1, ew⟩ | ⟨c1, c2, e1, ew⟩ | ⟨c1, c2, c3, e1, ew⟩ | ⟨c1, c2, c3, e1, ew⟩
      · exact absurd hl c1
      · omega
      · omega
      · have rn := rl_flag r (Or.inr ⟨rfl, rfl⟩) hl (wf_st x r.1)
        have ec := cnt_SO rn (gA (w 1) 8 x)
        rw [show aI (st ((w 10).1 1) (101 + 6 * cntI (pLy (w 1)) x + 5) (iI 1)) 4 = aI ((w 10).1 1) 4 from aI_n _ _ (by have := p.1; omega)] at ec
        have ec : cntI (pSO (sA (w 1) 12 x (iI 1)) (gA (w 1) 8 x)) (gN (w 1) 7 6) = _ := ec
        refine Fin_act h ?_ ew fw rn
        rw [e1, f1, g1, ec]
  · have np := (rl_nop r).2 hl
    have no : ∀ pa, ¬ plc ((w 10).1 1) x pa := fun pa hp => np pa hp.1.1 hp.1.2 hp.2.1
    rcases h2 with ⟨d1, f1, fw⟩ | ⟨⟨pa, hp, d1, f1, fw⟩, -⟩ | ⟨⟨pa, hp, d1, d2, f1, fw⟩, -⟩ | ⟨⟨pa, hp, d1, d2, f1, fw⟩, -⟩ <;> first | exact absurd hp (no pa) | skip
    rcases h1 with ⟨c1, e1, ew⟩ | ⟨c1, c2, e1, ew⟩ | ⟨c1, c2, c3, e1, ew⟩ | ⟨c1, c2, c3, e1, ew⟩ <;> first | exact absurd c1 hl | (rw [ew] at fw; exact Fin_no h (by omega) fw)
