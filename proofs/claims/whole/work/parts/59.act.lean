/-- an act: both sides record, both come to a new state -/
theorem Rel_act {w : gW} {b0 b1 b2 b3 : Nat} (h : Rel w b0 b1 b2 b3) {C : gM} {A : Int → Int32} (hC : rl C A) : Rel (up (up (recW w b0 b1 b2 b3) 1 C) 10 (sF (recS (sS (w 10) 0 0 (iI 0))) 1 A)) b3 b0 b1 b2 := by
  obtain ⟨⟨o1, o2, o3, o4, o5⟩, r, e4, hs, hk, ht⟩ := h
  obtain ⟨⟨p1, p2⟩, ⟨p3, p4⟩, ⟨p5, p6⟩, ⟨p7, p8⟩, p9⟩ := o1
  obtain ⟨w', ew⟩ : ∃ w' : gW, w' = up (up (recW w b0 b1 b2 b3) 1 C) 10 (sF (recS (sS (w 10) 0 0 (iI 0))) 1 A) := ⟨_, rfl⟩
  have q1 : w' 1 = C := by rw [ew]; rfl
  have q10 : w' 10 = sF (recS (sS (w 10) 0 0 (iI 0))) 1 A := by rw [ew]; rfl
  have q4 : w' 4 = recM (w 4) b0 b1 b2 b3 := by rw [ew]; rfl
  have q0 : w' 0 = w 0 := by
    rw [ew]; show (if (0 : Nat) = b3 then w 1 else w 0) = w 0
    rw [if_neg (by omega)]
  have q2 : w' 2 = w 2 := by
    rw [ew]; show (if (2 : Nat) = b3 then w 1 else w 2) = w 2
    rw [if_neg (by omega)]
  have q9 : w' 9 = w 9 := by
    rw [ew]; show (if (9 : Nat) = b3 then w 1 else w 9) = w 9
    rw [if_neg (by omega)]
  have qb : ∀ j, 5 ≤ j → j ≤ 8 → w' j = if j = b3 then w 1 else w j := by
    intro j j0 j1
    rw [ew]
    show (if j = 10 then _ else if j = 1 then C else if j = 4 then _ else if j = b3 then w 1 else w j) = _
    rw [if_neg (by omega), if_neg (by omega), if_neg (by omega)]
  have n4 : gN (w' 4) 0 4 = min 4 (gN (w 4) 0 4 + 1) := by
    rw [q4]; unfold recM
    rw [gN_sS, if_pos ⟨rfl, rfl⟩, iI_t ⟨by omega, by omega⟩]
  have q3 : w' 3 = w 3 := by
    rw [ew]; show (if (3 : Nat) = b3 then w 1 else w 3) = w 3
    rw [if_neg (by omega)]
  have e44 : gN (sS (w 10) 0 0 (iI 0)) 0 4 = gN (w 4) 0 4 := by rw [gN_sS, if_neg (by decide)]; exact e4
  obtain ⟨X, eX⟩ : ∃ X : gM, X = sS (w 10) 0 0 (iI 0) := ⟨_, rfl⟩
  rw [← eX] at e44 q10
  have X1 : X.1 = (w 10).1 := by rw [eX]; rfl
  have hmy : many X = if gN (w 4) 0 4 = 4 then 3 else gN (w 4) 0 4 := by
    unfold many
    rw [e44]
  have hm0 : 0 ≤ many X ∧ many X ≤ 3 ∧ many X + 1 = min 4 (gN (w 4) 0 4 + 1) := by
    rw [hmy]
    split
    · omega
    · omega
  have m4 : gN (w' 10) 0 4 = min 4 (gN (w 4) 0 4 + 1) := by
    rw [q10]
    show gN (recS X) 0 4 = _
    unfold recS
    rw [gN_sS, if_pos ⟨rfl, rfl⟩, iI_t ⟨by omega, by omega⟩]
    exact hm0.2.2
  have m3 : (w' 10).1 3 = selG (savA X) (fun i => X.1 1 (i - 941 * many X)) (941 * many X) (941 * many X + 941) := by rw [q10]; rfl
  rw [← ew]
  refine ⟨⟨⟨⟨p7, p8⟩, ⟨p1, p2⟩, ⟨p3, p4⟩, ⟨p5, p6⟩, by omega, by omega, by omega, by omega, by omega, by omega⟩, ?_, ?_, by rw [n4]; omega, by rw [q9]; exact o5⟩, ?_, by rw [m4, n4], ?_, ?_, ?_⟩
  · refine ⟨?_, ?_, ?_, ?_⟩ <;> (rw [q4]; unfold recM; simp (decide := true) only [gN_sS, if_true, if_false, true_and, and_true, and_false, false_and]; exact iI_nat (by omega))
  · intro j hj
    have hb : 5 ≤ j → j ≤ 8 → wf (w' j) := fun a b => by
      rw [qb j a b]
      split
      · exact r.1
      · exact o3 j hj
    rcases hj with rfl | rfl | rfl | rfl | rfl | rfl | rfl
    · rw [q1]; exact hC.1
    · rw [q2]; exact o3 2 ms_2
    · rw [q3]; exact o3 3 ms_3
    · exact hb (by decide) (by decide)
    · exact hb (by decide) (by decide)
    · exact hb (by decide) (by decide)
    · exact hb (by decide) (by decide)
  · rw [q1, q10]; exact hC
  · intro m hm
    rw [n4] at hm ⊢
    rw [m3]
    match m, hm with
    | 0, _ =>
      rw [show bb b3 b0 b1 b2 0 = b3 from rfl, qb b3 p7 p8, if_pos rfl]
      refine rl_c r (fun i i0 i1 => ?_)
      show aI (selG _ _ _ _) (941 * (min 4 (gN (w 4) 0 4 + 1) - 1 - ((0 : Nat) : Int)) + i) = _
      rw [show 941 * (min 4 (gN (w 4) 0 4 + 1) - 1 - ((0 : Nat) : Int)) + i = 941 * many X + i by omega, aI_si _ _ (by omega)]
      show aI (X.1 1) (941 * many X + i - 941 * many X) = _
      rw [X1, show 941 * many X + i - 941 * many X = i by omega]
    | k + 1, hm =>
      have hb : bb b3 b0 b1 b2 (k + 1) = bb b0 b1 b2 b3 k := by
        match k with
        | 0 => rfl
        | 1 => rfl
        | 2 => rfl
        | n + 3 => exfalso; omega
      have hb2 : (5 ≤ bb b0 b1 b2 b3 k ∧ bb b0 b1 b2 b3 k ≤ 8) ∧ ¬ bb b0 b1 b2 b3 k = b3 := by
        match k with
        | 0 => exact ⟨⟨p1, p2⟩, p9.2.2.1⟩
        | 1 => exact ⟨⟨p3, p4⟩, p9.2.2.2.2.1⟩
        | 2 => exact ⟨⟨p5, p6⟩, p9.2.2.2.2.2⟩
        | n + 3 => exfalso; omega
      rw [hb, qb _ hb2.1.1 hb2.1.2, if_neg hb2.2]
      refine rl_c (hs k (by omega)) (fun i i0 i1 => ?_)
      show aI (selG _ _ _ _) (941 * (min 4 (gN (w 4) 0 4 + 1) - 1 - ((k + 1 : Nat) : Int)) + i) = aI (fun i => (w 10).1 3 (941 * (gN (w 4) 0 4 - 1 - k) + i)) i
      rw [aI_so _ _ (by omega)]
      unfold savA
      rw [e44, X1]
      by_cases h4 : gN (w 4) 0 4 = 4
      · rw [if_pos h4, aI_si _ _ (by omega)]
        show aI ((w 10).1 3) (941 * (min 4 (gN (w 4) 0 4 + 1) - 1 - ((k + 1 : Nat) : Int)) + i + 941) = aI ((w 10).1 3) (941 * (gN (w 4) 0 4 - 1 - k) + i)
        congr 1
        omega
      · rw [if_neg h4]
        show aI ((w 10).1 3) _ = aI ((w 10).1 3) (941 * (gN (w 4) 0 4 - 1 - k) + i)
        congr 1
        omega
  · rw [q0, q2, q10]
    refine ⟨?_, fun hh => ?_⟩
    · show gN (w 0) 0 5 = gN (recS X) 0 6
      rw [gN_rec _ (by decide), eX, gN_sS, if_neg (by decide)]
      exact hk.1
    · show rl (w 2) (X.1 4)
      rw [X1]
      exact hk.2 hh
  · rw [q9, q10]
    refine ⟨?_, fun i i0 i1 => ?_⟩
    · show gN (recS X) 0 8 = _
      rw [gN_rec _ (by decide), eX, gN_sS, if_neg (by decide)]
      exact ht.1
    · show aI (X.1 5) i = _
      rw [X1]
      exact ht.2 i i0 i1
