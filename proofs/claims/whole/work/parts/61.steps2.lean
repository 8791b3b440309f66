theorem rl_P {C C' : gM} {A A' : Int → Int32} (h : rl C A) (hw : wf C') (e : ∀ c : Nat, ¬ c = 2 → ¬ c = 3 → ∀ r, gA C' c r = gA C c r) (eN : ∀ c f : Nat, gN C' c f = gN C c f) (eA : ∀ i : Int, 0 ≤ i → i < 941 → (i < 41 ∨ 101 ≤ i) → aI A' i = aI A i) (hP : rlP C' A') (hb : ∀ p : Int, 0 ≤ p → p ≤ 19 → (0 ≤ gA C' 2 p ∧ gA C' 2 p ≤ 9) ∧ 0 ≤ gA C' 3 p ∧ gA C' 3 p ≤ 9) : rl C' A' := by
  obtain ⟨w, i, a1, a2, a3, a4, a5⟩ := h
  have hpl : pLy C' = pLy C := by
    funext r
    unfold pLy
    rw [e 13 (by decide) (by decide)]
  refine ⟨hw, ?_, rlS_c a1 (e 13 (by decide) (by decide)) eN (fun i _ _ => eA i (by omega) (by omega) (by omega)), rlC_c a2 (fun c _ _ => e c (by omega) (by omega)) (fun i _ _ => eA i (by omega) (by omega) (by omega)), hP, rlR_c a4 i.1.1 (fun c _ _ => e c (by omega) (by omega)) (eN _ _) (fun i _ _ => eA i (by omega) (by omega) (by omega)), rlD_c a5 w (fun c _ _ => e c (by omega) (by omega)) (eN _ _) (eN _ _) (fun i _ _ => eA i (by omega) (by omega) (by omega))⟩
  obtain ⟨b1, b2, b3, b4, b5⟩ := i
  refine ⟨?_, fun p p0 p1 => ?_, ?_, fun c c0 c1 => ?_, fun d d0 d1 => ?_⟩
  · rw [hpl, eN]; exact ⟨b1.1, b1.2⟩
  · rw [e 1 (by decide) (by decide)]
    exact ⟨(b2 p p0 p1).1, hb p p0 p1⟩
  · rw [show gA C' 1 = gA C 1 from funext fun r => e 1 (by decide) (by decide) r, eN]; exact b3
  · rw [e 4 (by decide) (by decide)]; exact b4 c c0 c1
  · rw [eN] at d0 d1
    rw [e 15 (by decide) (by decide), e 16 (by decide) (by decide)]; exact b5 d d0 d1
theorem rl_C {C C' : gM} {A A' : Int → Int32} (h : rl C A) (hw : wf C') (e : ∀ c : Nat, (c < 4 ∨ 6 < c) → ∀ r, gA C' c r = gA C c r) (eN : ∀ c f : Nat, gN C' c f = gN C c f) (eA : ∀ i : Int, 0 ≤ i → i < 941 → (i < 11 ∨ 41 ≤ i) → aI A' i = aI A i) (hC : rlC C' A') (hb : ∀ c : Int, 0 ≤ c → c ≤ 9 → 0 ≤ gA C' 4 c ∧ gA C' 4 c ≤ 20) : rl C' A' := by
  obtain ⟨w, i, a1, a2, a3, a4, a5⟩ := h
  have hpl : pLy C' = pLy C := by
    funext r
    unfold pLy
    rw [e 13 (by decide)]
  refine ⟨hw, ?_, rlS_c a1 (e 13 (by decide)) eN (fun i _ _ => eA i (by omega) (by omega) (by omega)), hC, rlP_c a3 (fun c _ _ => e c (by omega)) (fun i _ _ => eA i (by omega) (by omega) (by omega)), rlR_c a4 i.1.1 (fun c _ _ => e c (by omega)) (eN _ _) (fun i _ _ => eA i (by omega) (by omega) (by omega)), rlD_c a5 w (fun c _ _ => e c (by omega)) (eN _ _) (eN _ _) (fun i _ _ => eA i (by omega) (by omega) (by omega))⟩
  obtain ⟨b1, b2, b3, b4, b5⟩ := i
  refine ⟨?_, fun p p0 p1 => ?_, ?_, hb, fun d d0 d1 => ?_⟩
  · rw [hpl, eN]; exact ⟨b1.1, b1.2⟩
  · rw [e 1 (by decide), e 2 (by decide), e 3 (by decide)]
    exact b2 p p0 p1
  · rw [show gA C' 1 = gA C 1 from funext fun r => e 1 (by decide) r, eN]; exact b3
  · rw [eN] at d0 d1
    rw [e 15 (by decide), e 16 (by decide)]; exact b5 d d0 d1
theorem st_handOver {w w1 w2 : gW} {b0 b1 b2 b3 : Nat} {pl co z1 z2 : Int} (h : Rel w b0 b1 b2 b3) (h1 : po_X5_handOver w b0 b1 b2 b3 pl co z1 w1) (h2 : po_X6_handOver w1 pl co z2 w2) : Fin z1 z2 w2 := by
  have r := h.2.1
  unfold po_X5_handOver at h1
  unfold po_X6_handOver at h2
  rcases h1 with ⟨c1, e1, rfl⟩ | ⟨c1, c2, c3, e1, rfl⟩ | ⟨c1, c2, c3, e1, ew⟩
  · rcases h2 with ⟨d1, f1, fw⟩ | ⟨d1, d2, d3, f1, fw⟩ | ⟨d1, d2, d3, f1, fw⟩
    · exact Fin_no h (by omega) fw
    · exact absurd ⟨d1, d2⟩ c1
    · exact absurd ⟨d1, d2⟩ c1
  · have e := (r.2.2.2.2.1 pl c1.1 c1.2).2.1
    rcases h2 with ⟨d1, f1, fw⟩ | ⟨d1, d2, d3, f1, fw⟩ | ⟨d1, d2, d3, f1, fw⟩
    · exact absurd ⟨c1, c2⟩ d1
    · exact Fin_no h (by omega) fw
    · exact absurd (e.trans c3) d3
  · have e := (r.2.2.2.2.1 pl c1.1 c1.2).2.1
    have e10 : w1 10 = w 10 := by rw [ew]; exact rec10 h _
    rw [e10] at h2
    rcases h2 with ⟨d1, f1, fw⟩ | ⟨d1, d2, d3, f1, fw⟩ | ⟨d1, d2, d3, f1, fw⟩
    · exact absurd ⟨c1, c2⟩ d1
    · exact absurd (e.symm.trans d3) c3
    · have hv : (iI co).toInt = co := iI_t ⟨by omega, by omega⟩
      refine Fin_act h (by congr 1; omega) ew fw (rl_P r (id r.1) (fun c q1 q2 x => by rw [gA_sA, if_neg (by rintro ⟨t, -⟩; exact q2 t), gA_sA, if_neg (by rintro ⟨t, -⟩; exact q1 t)]) (fun _ _ => rfl) (fun i _ _ _ => by rw [aI_n _ _ (by omega), aI_n _ _ (by omega)]) (fun p p0 p1 => ?_) (fun p p0 p1 => ?_))
      · obtain ⟨t1, t2, t3⟩ := r.2.2.2.2.1 p p0 p1
        simp only [gA_sA, st_aI, hv]
        simp (decide := true) only [true_and, false_and, if_false]
        by_cases q : p = pl
        · subst q
          repeat (first | rw [if_pos rfl] | rw [if_neg (by omega)])
          exact ⟨t1, rfl, rfl⟩
        · repeat (first | rw [if_neg q] | rw [if_neg (by omega)])
          exact ⟨t1, t2, t3⟩
      · obtain ⟨-, t2, t3⟩ := r.2.1.2.1 p p0 p1
        simp only [gA_sA, hv]
        simp (decide := true) only [true_and, false_and, if_false]
        by_cases q : p = pl
        · rw [if_pos q, if_pos q]; omega
        · rw [if_neg q, if_neg q]; exact ⟨t2, t3⟩
theorem st_setDays {w w1 w2 : gW} {b0 b1 b2 b3 : Nat} {co dy z1 z2 : Int} (h : Rel w b0 b1 b2 b3) (h1 : po_X5_setDays w b0 b1 b2 b3 co dy z1 w1) (h2 : po_X6_setDays w1 co dy z2 w2) : Fin z1 z2 w2 := by
  have r := h.2.1
  unfold po_X5_setDays at h1
  unfold po_X6_setDays at h2
  have e10 : w1 10 = w 10 := by
    rcases h1 with ⟨-, -, ew⟩ | ⟨-, -, -, ew⟩ | ⟨-, -, -, -, ew⟩ | ⟨-, -, -, -, ew⟩ <;> rw [ew]
    exact rec10 h _
  rw [e10] at h2
  by_cases c1 : 0 ≤ co ∧ co ≤ 9
  · obtain ⟨t1, t2, t3⟩ := r.2.2.2.1 co c1.1 c1.2
    rw [t1] at h2
    rcases h1 with ⟨q1, e1, ew⟩ | ⟨q1, q2, e1, ew⟩ | ⟨q1, q2, q3, e1, ew⟩ | ⟨q1, q2, q3, e1, ew⟩
    · exact absurd c1 q1
    · rw [ew] at h2
      rcases h2 with ⟨d1, f1, fw⟩ | ⟨d1, d2, f1, fw⟩ | ⟨d1, d2, d3, f1, fw⟩ | ⟨d1, d2, d3, f1, fw⟩
      · exact absurd c1 d1
      · exact Fin_no h (by omega) fw
      · exact absurd d2 q2
      · exact absurd d2 q2
    · rw [ew] at h2
      rcases h2 with ⟨d1, f1, fw⟩ | ⟨d1, d2, f1, fw⟩ | ⟨d1, d2, d3, f1, fw⟩ | ⟨d1, d2, d3, f1, fw⟩
      · exact absurd c1 d1
      · exact absurd q2 d2
      · exact Fin_no h (by omega) fw
      · exact absurd q3 d3
    · rcases h2 with ⟨d1, f1, fw⟩ | ⟨d1, d2, f1, fw⟩ | ⟨d1, d2, d3, f1, fw⟩ | ⟨d1, d2, d3, f1, fw⟩
      · exact absurd c1 d1
      · exact absurd q2 d2
      · exact absurd d3 q3
      · have hv : (iI dy).toInt = dy := iI_t ⟨by omega, by omega⟩
        rw [show gA (w 1) 4 co + (dy - gA (w 1) 4 co) = dy by omega] at fw
        refine Fin_act h (by congr 1; omega) ew fw (rl_C r (id r.1) (fun c q x => by rw [gA_sA, if_neg (by omega)]) (fun _ _ => rfl) (fun i _ _ _ => aI_n _ _ (by omega)) (fun c c0 c9 => ?_) (fun c c0 c9 => ?_))
        · obtain ⟨u1, u2, u3⟩ := r.2.2.2.1 c c0 c9
          simp only [gA_sA, st_aI, hv]
          simp (decide := true) only [true_and, false_and, if_false]
          by_cases q : c = co
          · subst q
            rw [if_pos rfl, if_pos rfl, if_neg (by omega), if_neg (by omega)]
            exact ⟨rfl, u2, u3⟩
          · rw [if_neg (by omega), if_neg q, if_neg (by omega), if_neg (by omega)]
            exact ⟨u1, u2, u3⟩
        · have u := r.2.1.2.2.2.1 c c0 c9
          rw [gA_sA, hv]
          split
          · exact q2
          · exact u
  · rcases h1 with ⟨q1, e1, ew⟩ | ⟨q1, q2, e1, ew⟩ | ⟨q1, q2, q3, e1, ew⟩ | ⟨q1, q2, q3, e1, ew⟩
    · rw [ew] at h2
      rcases h2 with ⟨d1, f1, fw⟩ | ⟨d1, d2, f1, fw⟩ | ⟨d1, d2, d3, f1, fw⟩ | ⟨d1, d2, d3, f1, fw⟩
      · exact Fin_no h (by omega) fw
      · exact absurd d1 c1
      · exact absurd d1 c1
      · exact absurd d1 c1
    · exact absurd q1 c1
    · exact absurd q1 c1
    · exact absurd q1 c1
