theorem rl_flag {C : gM} {A : Int → Int32} (h : rl C A) {x k : Int} {c : Nat} (hck : (c = 11 ∧ k = 4) ∨ (c = 12 ∧ k = 5)) (hl : lyi C x) (hw : wf (sA C c x (iI 1))) : rl (sA C c x (iI 1)) (st A (101 + 6 * cntI (pLy C) x + k) (iI 1)) := by
  have p := rl_row h hl.1 hl.2.1 hl.2.2
  obtain ⟨w, i, a1, a2, a3, a4, a5⟩ := h
  have c2 := a1.2.1.1
  have i1 := i.1.1
  have k0 := p.1
  have e : ∀ d : Nat, ¬ d = c → ∀ r, gA (sA C c x (iI 1)) d r = gA C d r := fun d q r => by rw [gA_sA, if_neg (fun t => q t.1)]
  have hpl : pLy (sA C c x (iI 1)) = pLy C := by
    funext r
    unfold pLy
    rw [e 13 (by omega)]
  refine ⟨hw, ?_, rlS_c a1 (e 13 (by omega)) (fun _ _ => rfl) (fun i _ _ => aI_n _ _ (by omega)), rlC_c a2 (fun d _ _ => e d (by omega)) (fun i _ _ => aI_n _ _ (by omega)), rlP_c a3 (fun d _ _ => e d (by omega)) (fun i _ _ => aI_n _ _ (by omega)), ⟨fun r r0 r1 hr => ?_, fun q q0 q1 => ?_, fun q q0 q1 => ?_⟩, rlD_c a5 w (fun d _ _ => e d (by omega)) rfl rfl (fun i _ _ => aI_n _ _ (by omega))⟩
  · obtain ⟨b1, b2, b3, b4, b5⟩ := i
    refine ⟨by rw [hpl]; exact b1, fun p p0 p1 => ?_, ?_, fun d d0 d1 => ?_, fun d d0 d1 => ?_⟩
    · rw [e 1 (by omega), e 2 (by omega), e 3 (by omega)]; exact b2 p p0 p1
    · rw [show gA (sA C c x (iI 1)) 1 = gA C 1 from funext fun r => e 1 (by omega) r]; exact b3
    · rw [e 4 (by omega)]; exact b4 d d0 d1
    · rw [e 15 (by omega), e 16 (by omega)]; exact b5 d d0 d1
  · rw [hpl] at hr ⊢
    have r1 : r < gN C 7 6 := r1
    obtain ⟨⟨g0, g1, g2⟩, g3, g4, g5⟩ := a4.1 r r0 r1 hr
    by_cases q : r = x
    · subst q
      rw [aI_n _ _ (by omega), aI_n _ _ (by omega), aI_n _ _ (by omega), aI_n _ _ (by omega), e 8 (by omega), e 9 (by omega), e 10 (by omega), st_aI, st_aI, gA_sA, gA_sA]
      refine ⟨⟨g0, g1, g2⟩, g3, ?_, ?_⟩
      · by_cases t : c = 11
        · rw [if_pos (by omega), if_pos ⟨t.symm, rfl⟩]
        · rw [if_neg (by omega), if_neg (fun s => t s.1.symm)]; exact g4
      · by_cases t : c = 12
        · rw [if_pos (by omega), if_pos ⟨t.symm, rfl⟩]
        · rw [if_neg (by omega), if_neg (fun s => t s.1.symm)]; exact g5
    · have hne : ¬ cntI (pLy C) r = cntI (pLy C) x := fun t => q (rank_inj r0 hl.1 hr hl.2.2 t)
      have e2 : ∀ d : Nat, gA (sA C c x (iI 1)) d r = gA C d r := fun d => by rw [gA_sA, if_neg (fun t => q t.2)]
      rw [e2, e2, e2, e2, e2, aI_n _ _ (by omega), aI_n _ _ (by omega), aI_n _ _ (by omega), aI_n _ _ (by omega), aI_n _ _ (by omega), aI_n _ _ (by omega)]
      exact ⟨⟨g0, g1, g2⟩, g3, g4, g5⟩
  · have g := a4.2.1 q q0 q1
    rw [aI_n _ _ (by omega), st_aI]
    refine ⟨g.1, ?_⟩
    split
    · decide
    · exact g.2
  · have g := a4.2.2 q q0 q1
    rw [st_aI]
    split
    · decide
    · exact g
theorem st_turn {w w1 w2 : gW} {b0 b1 b2 b3 : Nat} {x z1 z2 : Int} (h : Rel w b0 b1 b2 b3) (h1 : po_X5_turn w b0 b1 b2 b3 x z1 w1) (h2 : po_X6_turn w1 x z2 w2) : Fin z1 z2 w2 := by
  have r := h.2.1
  unfold po_X5_turn at h1
  unfold po_X6_turn at h2
  have e10 : w1 10 = w 10 := by
    rcases h1 with ⟨-, -, ew⟩ | ⟨-, -, -, ew⟩ | ⟨-, -, -, -, ew⟩ | ⟨-, -, -, -, ew⟩ <;> rw [ew]
    exact rec10 h _
  rw [e10] at h2
  have b11 := bz 11 (r.1.2.2.2.1 x)
  have b12 := bz 12 (r.1.2.2.2.2.1 x)
  by_cases hl : lyi (w 1) x
  · have p := rl_row r hl.1 hl.2.1 hl.2.2
    obtain ⟨⟨g0, g1, g2⟩, g3, g4, g5⟩ := r.2.2.2.2.2.1.1 x hl.1 hl.2.1 hl.2.2
    rcases h2 with ⟨d1, f1, fw⟩ | ⟨⟨pa, hp, d1, f1, fw⟩, -⟩ | ⟨⟨pa, hp, d1, d2, f1, fw⟩, -⟩ | ⟨⟨pa, hp, d1, d2, f1, fw⟩, -⟩
    · exact absurd hl ((rl_nop r).1 d1)
    all_goals (have ea := plc_u hp p; subst ea)
    · rw [g5] at d1
      rcases h1 with ⟨c1, e1, ew⟩ | ⟨c1, c2, e1, ew⟩ | ⟨c1, c2, c3, e1, ew⟩ | ⟨c1, c2, c3, e1, ew⟩
      · exact absurd hl c1
      · rw [ew] at fw; exact Fin_no h (by omega) fw
      · omega
      · omega
    · rw [g5] at d1
      rw [g4] at d2
      rcases h1 with ⟨c1, e1, ew⟩ | ⟨c1, c2, e1, ew⟩ | ⟨c1, c2, c3, e1, ew⟩ | ⟨c1, c2, c3, e1, ew⟩
      · exact absurd hl c1
      · omega
      · rw [ew] at fw; exact Fin_no h (by omega) fw
      · omega
    · rw [g5] at d1
      rw [g4] at d2
      rcases h1 with ⟨c1, e1, ew⟩ | ⟨c1, c2, e1, ew⟩ | ⟨c1, c2, c3, e1, ew⟩ | ⟨c1, c2, c3, e1, ew⟩
      · exact absurd hl c1
      · omega
      · omega
      · exact Fin_act h (by rw [e1, f1, g3]) ew fw (rl_flag r (Or.inl ⟨rfl, rfl⟩) hl (wf_tu x r.1))
  · have np := (rl_nop r).2 hl
    have no : ∀ pa, ¬ plc ((w 10).1 1) x pa := fun pa hp => np pa hp.1.1 hp.1.2 hp.2.1
    rcases h2 with ⟨d1, f1, fw⟩ | ⟨⟨pa, hp, d1, f1, fw⟩, -⟩ | ⟨⟨pa, hp, d1, d2, f1, fw⟩, -⟩ | ⟨⟨pa, hp, d1, d2, f1, fw⟩, -⟩ <;> first | exact absurd hp (no pa) | skip
    rcases h1 with ⟨c1, e1, ew⟩ | ⟨c1, c2, e1, ew⟩ | ⟨c1, c2, c3, e1, ew⟩ | ⟨c1, c2, c3, e1, ew⟩ <;> first | exact absurd c1 hl | (rw [ew] at fw; exact Fin_no h (by omega) fw)
