theorem bb_le {b0 b1 b2 b3 : Nat} (h : p4 b0 b1 b2 b3) (m : Nat) : 5 ≤ bb b0 b1 b2 b3 m ∧ bb b0 b1 b2 b3 m ≤ 8 := by
  obtain ⟨q1, q2, q3, q4, -⟩ := h
  match m with
  | 0 => exact q1
  | 1 => exact q2
  | 2 => exact q3
  | n + 3 => exact q4
theorem st_keep {w w1 w2 : gW} {b0 b1 b2 b3 : Nat} {z1 z2 : Int} (h : Rel w b0 b1 b2 b3) (h1 : po_X5_keep w b0 b1 b2 b3 z1 w1) (h2 : po_X6_keep w1 z2 w2) : Fin z1 z2 w2 := by
  unfold po_X5_keep at h1
  unfold po_X6_keep at h2
  obtain ⟨-, e1, ew⟩ := h1
  obtain ⟨-, f1, fw⟩ := h2
  have e10 : w1 10 = w 10 := by rw [ew]; rfl
  rw [e10] at f1 fw
  obtain ⟨⟨o1, o2, o3, o4, o5⟩, r, e4, hs, hk, ht⟩ := h
  have qb : ∀ j, 5 ≤ j → j ≤ 8 → w2 j = w j := by
    intro j j0 j1
    rw [fw, ew]
    show (if j = 10 then _ else if j = 0 then _ else if j = 2 then _ else w j) = w j
    rw [if_neg (by omega), if_neg (by omega), if_neg (by omega)]
  have q1 : w2 1 = w 1 := by rw [fw, ew]; rfl
  have q2 : w2 2 = w 1 := by rw [fw, ew]; rfl
  have q3 : w2 3 = w 3 := by rw [fw, ew]; rfl
  have q4 : w2 4 = w 4 := by rw [fw, ew]; rfl
  have q9 : w2 9 = w 9 := by rw [fw, ew]; rfl
  have q0 : w2 0 = sS (w 0) 0 5 (iI 1) := by rw [fw, ew]; rfl
  have q10 : w2 10 = sS (sS (sF (w 10) 4 (selG ((w 10).1 4) ((w 10).1 1) 0 941)) 0 0 (iI 0)) 0 6 (iI 1) := by rw [fw, up_s]
  refine ⟨by rw [e1, f1, r.2.2.1.2.1.1], b0, b1, b2, b3, ⟨o1, ?_, ?_, by rw [q4]; exact o4, by rw [q9]; exact o5⟩, ?_, ?_, ?_, ?_, ?_⟩
  · unfold hst at *; rw [q4]; exact o2
  · intro j hj
    have hb : 5 ≤ j → j ≤ 8 → wf (w2 j) := fun a b => by rw [qb j a b]; exact o3 j hj
    rcases hj with rfl | rfl | rfl | rfl | rfl | rfl | rfl
    · rw [q1]; exact r.1
    · rw [q2]; exact r.1
    · rw [q3]; exact o3 3 ms_3
    · exact hb (by decide) (by decide)
    · exact hb (by decide) (by decide)
    · exact hb (by decide) (by decide)
    · exact hb (by decide) (by decide)
  · rw [q1, q10]; exact r
  · rw [q4, q10]; exact e4
  · intro m hm
    rw [q4] at hm ⊢
    rw [qb _ (bb_le o1 m).1 (bb_le o1 m).2, q10]
    exact hs m hm
  · rw [q0, q2, q10]
    refine ⟨rfl, fun _ => ?_⟩
    exact rl_c r (fun i i0 i1 => aI_si _ _ ⟨i0, i1⟩)
  · rw [q9, q10]; exact ht
theorem st_undo {w w1 w2 : gW} {b0 b1 b2 b3 : Nat} {z1 z2 : Int} (h : Rel w b0 b1 b2 b3) (h1 : po_X5_undo w b0 b1 b2 b3 z1 w1) (h2 : po_X6_undo w1 z2 w2) : Fin z1 z2 w2 := by
  unfold po_X5_undo at h1
  unfold po_X6_undo at h2
  have e10 : w1 10 = w 10 := by
    rcases h1 with ⟨-, -, ew⟩ | ⟨-, -, ew⟩ <;> rw [ew]
    rfl
  rw [e10] at h2
  have e4 := h.2.2.1
  rw [e4] at h2
  rcases h1 with ⟨c1, e1, ew⟩ | ⟨c1, e1, ew⟩
  · rcases h2 with ⟨d1, f1, fw⟩ | ⟨d1, f1, fw⟩
    · rw [ew] at fw
      exact Fin_no h (by omega) fw
    · omega
  · rcases h2 with ⟨d1, f1, fw⟩ | ⟨d1, f1, fw⟩
    · omega
    · obtain ⟨⟨o1, o2, o3, o4, o5⟩, r, e4, hs, hk, ht⟩ := h
      have p4b := o1
      obtain ⟨⟨p1, p2⟩, ⟨p3, p4⟩, ⟨p5, p6⟩, ⟨p7, p8⟩, p9⟩ := o1
      have qb : ∀ j, 5 ≤ j → j ≤ 8 → w2 j = w j := by
        intro j j0 j1
        rw [fw, ew]
        show (if j = 10 then _ else if j = 4 then _ else if j = 1 then _ else w j) = w j
        rw [if_neg (by omega), if_neg (by omega), if_neg (by omega)]
      have q0 : w2 0 = w 0 := by rw [fw, ew]; rfl
      have q1 : w2 1 = w b0 := by rw [fw, ew]; rfl
      have q2 : w2 2 = w 2 := by rw [fw, ew]; rfl
      have q3 : w2 3 = w 3 := by rw [fw, ew]; rfl
      have q4 : w2 4 = tbM (w 4) b0 b1 b2 b3 := by rw [fw, ew]; rfl
      have q9 : w2 9 = w 9 := by rw [fw, ew]; rfl
      have n4 : gN (w2 4) 0 4 = gN (w 4) 0 4 - 1 := by
        rw [q4]; unfold tbM
        rw [gN_sS, if_pos ⟨rfl, rfl⟩, iI_t ⟨by omega, by omega⟩]
      have q10 := congrFun fw 10
      rw [up_s] at q10
      have m4 : gN (w2 10) 0 4 = gN (w 4) 0 4 - 1 := by
        rw [q10, gN_sS, if_pos ⟨rfl, rfl⟩, iI_t ⟨by omega, by omega⟩]
      have hb0 := hs 0 (by omega)
      refine ⟨by rw [e1, f1], b1, b2, b3, b0, ⟨⟨⟨p3, p4⟩, ⟨p5, p6⟩, ⟨p7, p8⟩, ⟨p1, p2⟩, by omega, by omega, by omega, by omega, by omega, by omega⟩, ?_, ?_, by rw [n4]; omega, by rw [q9]; exact o5⟩, ?_, by rw [m4, n4], ?_, ?_, ?_⟩
      · refine ⟨?_, ?_, ?_, ?_⟩ <;> (rw [q4]; unfold tbM; simp (decide := true) only [gN_sS, if_true, if_false, true_and, and_true, and_false, false_and]; exact iI_nat (by omega))
      · intro j hj
        have hb : 5 ≤ j → j ≤ 8 → wf (w2 j) := fun a b => by rw [qb j a b]; exact o3 j hj
        rcases hj with rfl | rfl | rfl | rfl | rfl | rfl | rfl
        · rw [q1]; exact hb0.1
        · rw [q2]; exact o3 2 ms_2
        · rw [q3]; exact o3 3 ms_3
        · exact hb (by decide) (by decide)
        · exact hb (by decide) (by decide)
        · exact hb (by decide) (by decide)
        · exact hb (by decide) (by decide)
      · rw [q1, q10]
        refine rl_c hb0 (fun i i0 i1 => ?_)
        show aI (selG _ _ 0 941) i = _
        rw [aI_si _ _ ⟨i0, i1⟩]
        show aI ((w 10).1 3) (941 * (gN (w 4) 0 4 - 1) + i) = aI ((w 10).1 3) (941 * (gN (w 4) 0 4 - 1 - ((0 : Nat) : Int)) + i)
        congr 1
        omega
      · intro m hm
        rw [n4] at hm ⊢
        have hb : bb b1 b2 b3 b0 m = bb b0 b1 b2 b3 (m + 1) := by
          match m with
          | 0 => rfl
          | 1 => rfl
          | 2 => rfl
          | n + 3 => exfalso; omega
        rw [hb, qb _ (bb_le p4b (m + 1)).1 (bb_le p4b (m + 1)).2, q10]
        refine rl_c (hs (m + 1) (by omega)) (fun i i0 i1 => ?_)
        show aI ((w 10).1 3) (941 * (gN (w 4) 0 4 - 1 - 1 - m) + i) = aI ((w 10).1 3) (941 * (gN (w 4) 0 4 - 1 - ((m + 1 : Nat) : Int)) + i)
        congr 1
        omega
      · rw [q0, q2, q10]; exact hk
      · rw [q9, q10]; exact ht
