/-- a step that leaves all but the text -/
theorem Rel_tx {w : gW} {b0 b1 b2 b3 : Nat} (h : Rel w b0 b1 b2 b3) {T R : gM} (hT : 0 ≤ gN T 0 1 ∧ gN T 0 1 ≤ 60) (r1 : R.1 1 = (w 10).1 1) (r3 : R.1 3 = (w 10).1 3) (r4 : R.1 4 = (w 10).1 4) (s4 : gN R 0 4 = gN (w 10) 0 4) (s6 : gN R 0 6 = gN (w 10) 0 6) (s8 : gN R 0 8 = gN T 0 1) (hx : ∀ i : Int, 0 ≤ i → i < gN T 0 1 → gA R 5 i = gA T 1 i) : Rel (up (up w 9 T) 10 R) b0 b1 b2 b3 := by
  obtain ⟨⟨o1, o2, o3, o4, o5⟩, r, e4, hs, hk, ht⟩ := h
  obtain ⟨w2, fw⟩ : ∃ w2 : gW, w2 = up (up w 9 T) 10 R := ⟨_, rfl⟩
  have qb : ∀ j, j ≤ 8 → w2 j = w j := by
    intro j j1
    rw [fw]
    show (if j = 10 then _ else if j = 9 then _ else w j) = w j
    rw [if_neg (by omega), if_neg (by omega)]
  have q9 : w2 9 = T := by rw [fw]; rfl
  have q10 : w2 10 = R := by rw [fw]; rfl
  rw [← fw]
  refine ⟨⟨o1, ?_, ?_, by rw [qb 4 (by decide)]; exact o4, by rw [q9]; exact hT⟩, ?_, ?_, ?_, ?_, ?_⟩
  · unfold hst at *; rw [qb 4 (by decide)]; exact o2
  · intro j hj
    rw [qb j (by rcases hj with rfl | rfl | rfl | rfl | rfl | rfl | rfl <;> decide)]
    exact o3 j hj
  · rw [qb 1 (by decide), q10, r1]; exact r
  · rw [qb 4 (by decide), q10, s4]; exact e4
  · intro m hm
    rw [qb 4 (by decide)] at hm ⊢
    rw [qb _ (bb_le o1 m).2, q10, r3]
    exact hs m hm
  · rw [qb 0 (by decide), qb 2 (by decide), q10, s6, r4]; exact hk
  · rw [q9, q10]; exact ⟨s8, hx⟩
theorem st_clearText {w w1 w2 : gW} {b0 b1 b2 b3 : Nat} {z1 z2 : Int} (h : Rel w b0 b1 b2 b3) (h1 : po_X5_clearText w b0 b1 b2 b3 z1 w1) (h2 : po_X6_clearText w1 z2 w2) : Fin z1 z2 w2 := by
  unfold po_X5_clearText at h1
  unfold po_X6_clearText at h2
  obtain ⟨-, e1, ew⟩ := h1
  obtain ⟨-, f1, fw⟩ := h2
  have e10 : w1 10 = w 10 := by rw [ew]; rfl
  rw [e10] at f1 fw
  have ht := h.2.2.2.2.2
  refine ⟨by rw [e1, f1, ht.1], b0, b1, b2, b3, ?_⟩
  rw [fw, ew]
  refine Rel_tx h (by show 0 ≤ (iI 0).toInt ∧ (iI 0).toInt ≤ 60; decide) rfl rfl rfl rfl rfl rfl (fun i i0 i1 => ?_)
  have i1 : i < 0 := i1
  omega
theorem st_type2 {w w1 w2 : gW} {b0 b1 b2 b3 : Nat} {v z1 z2 : Int} (h : Rel w b0 b1 b2 b3) (h1 : po_X5_type w b0 b1 b2 b3 v z1 w1) (h2 : po_X6_type w1 v z2 w2) : Fin z1 z2 w2 := by
  have ht := h.2.2.2.2.2
  have o5 := h.1.2.2.2.2
  unfold po_X5_type at h1
  unfold po_X6_type at h2
  have e10 : w1 10 = w 10 := by
    rcases h1 with ⟨-, -, ew⟩ | ⟨-, -, ew⟩ <;> rw [ew]
    rfl
  rw [e10] at h2
  rcases h1 with ⟨c1, e1, ew⟩ | ⟨c1, e1, ew⟩
  · rcases h2 with ⟨d1, f1, fw⟩ | ⟨d1, f1, fw⟩
    · rw [ew] at fw
      exact Fin_no h (by omega) fw
    · omega
  · rcases h2 with ⟨d1, f1, fw⟩ | ⟨d1, f1, fw⟩
    · omega
    · refine ⟨by rw [e1, f1, ht.1], b0, b1, b2, b3, ?_⟩
      have hn : gN (appM (w 9) v) 0 1 = gN (w 9) 0 1 + 1 := by
        unfold appM
        rw [gN_sS, if_pos ⟨rfl, rfl⟩, iI_t ⟨by omega, by omega⟩]
      rw [fw, ew]
      refine Rel_tx h (by omega) rfl rfl rfl rfl rfl ?_ (fun i i0 i1 => ?_)
      · rw [hn, gN_sS, if_pos ⟨rfl, rfl⟩, ht.1, iI_t ⟨by omega, by omega⟩]
      · show aI (st ((w 10).1 5) (gN (w 10) 0 8) (iI v)) i = gA (appM (w 9) v) 1 i
        unfold appM
        rw [gA_sS, gA_sA, st_aI, ht.1]
        by_cases q : i = gN (w 9) 0 1
        · rw [if_pos q, if_pos ⟨rfl, q⟩]
        · rw [if_neg q, if_neg (fun t => q t.2)]
          exact ht.2 i i0 (by omega)
theorem st_dispute {w w1 w2 : gW} {b0 b1 b2 b3 : Nat} {k q z1 z2 : Int} (h : Rel w b0 b1 b2 b3) (h1 : po_X5_dispute w b0 b1 b2 b3 k q z1 w1) (h2 : po_X6_dispute w1 k q z2 w2) : Fin z1 z2 w2 := by
  have r := h.2.1
  unfold po_X5_dispute at h1
  unfold po_X6_dispute at h2
  have ew : w1 = w := by rcases h1 with h1 | h1 | h1 | h1 | h1 | h1 <;> (first | exact h1.2.2 | exact h1.2.2.2 | exact h1.2.2.2.2)
  subst ew
  have fw : w2 = up w1 10 (sS (w1 10) 0 0 (iI 0)) := by rcases h2 with h2 | h2 | h2 <;> (first | exact h2.2.2 | exact h2.2.2.2 | exact h2.2.2.2.2)
  refine Fin_no h ?_ fw
  have s7 := r.2.2.1.2.2.1.1
  rw [s7] at h2
  rcases h2 with ⟨d1, f1, -⟩ | ⟨d1, d2, d3, f1, -⟩ | ⟨d1, d2, f1, -⟩
  · rcases h1 with ⟨c1, e1, -⟩ | ⟨c1, c2, c3, e1, -⟩ | ⟨c1, c2, c3, e1, -⟩ | ⟨c1, c2, c3, e1, -⟩ | ⟨c1, c2, c3, e1, -⟩ | ⟨c1, c2, c3, e1, -⟩ <;> omega
  · rcases h1 with ⟨c1, e1, -⟩ | ⟨c1, c2, c3, e1, -⟩ | ⟨c1, c2, c3, e1, -⟩ | ⟨c1, c2, c3, e1, -⟩ | ⟨c1, c2, c3, e1, -⟩ | ⟨c1, c2, c3, e1, -⟩ <;> omega
  · obtain ⟨t0, t1, t2, t3⟩ := r.2.2.2.2.2.2 k d1.1 d1.2
    rcases h1 with ⟨c1, e1, -⟩ | ⟨c1, c2, c3, e1, -⟩ | ⟨c1, c2, c3, e1, -⟩ | ⟨c1, c2, c3, e1, -⟩ | ⟨c1, c2, c3, e1, -⟩ | ⟨c1, c2, c3, e1, -⟩
    · omega
    · omega
    · subst c3; rw [e1, f1, t0]
    · subst c3; rw [e1, f1, t1]
    · subst c3; rw [e1, f1, t2]
    · subst c3; rw [e1, f1, t3]
