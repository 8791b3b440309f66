theorem ctA_x {A : Int → Int32} {co pl x : Int} (hc : 0 ≤ co ∧ co ≤ 9) (hp : 0 ≤ pl ∧ pl ≤ 19) (hx : 101 ≤ x) (hx2 : x < 101 + 6 * aI A 4 ∨ 101 + 6 * aI A 4 + 6 ≤ x) : aI (ctA A co pl) x = aI A x := by
  unfold ctA
  rw [aI_n _ _ (by omega), aI_n _ _ (by omega), aI_n _ _ (by omega), aI_n _ _ (by omega), aI_n _ _ (by omega), aI_n _ _ (by omega), aI_n _ _ (by omega), aI_n _ _ (by omega), aI_n _ _ (by omega), aI_n _ _ (by omega)]
theorem ctA_k {A : Int → Int32} {co pl : Int} (h4 : 0 ≤ aI A 4) : aI (ctA A co pl) (101 + 6 * aI A 4 + 0) = (iI (aI A 5)).toInt ∧ aI (ctA A co pl) (101 + 6 * aI A 4 + 1) = (iI co).toInt ∧ aI (ctA A co pl) (101 + 6 * aI A 4 + 2) = (iI pl).toInt ∧ aI (ctA A co pl) (101 + 6 * aI A 4 + 3) = 50 ∧ aI (ctA A co pl) (101 + 6 * aI A 4 + 4) = 0 ∧ aI (ctA A co pl) (101 + 6 * aI A 4 + 5) = 0 := by
  unfold ctA
  refine ⟨?_, ?_, ?_, ?_, ?_, ?_⟩
  · rw [aI_n _ _ (by omega), aI_n _ _ (by omega), aI_n _ _ (by omega), aI_n _ _ (by omega), aI_n _ _ (by omega), aI_n _ _ (by omega), aI_n _ _ (by omega), aI_e]
  · rw [aI_n _ _ (by omega), aI_n _ _ (by omega), aI_n _ _ (by omega), aI_n _ _ (by omega), aI_n _ _ (by omega), aI_n _ _ (by omega), aI_e]
  · rw [aI_n _ _ (by omega), aI_n _ _ (by omega), aI_n _ _ (by omega), aI_n _ _ (by omega), aI_n _ _ (by omega), aI_e]
  · rw [aI_n _ _ (by omega), aI_n _ _ (by omega), aI_n _ _ (by omega), aI_n _ _ (by omega), aI_e]; rfl
  · rw [aI_n _ _ (by omega), aI_n _ _ (by omega), aI_n _ _ (by omega), aI_e]; rfl
  · rw [aI_n _ _ (by omega), aI_n _ _ (by omega), aI_e]; rfl
theorem rl_cut {C : gM} {A : Int → Int32} (h : rl C A) {co pl : Int} (hc : 0 ≤ co ∧ co ≤ 9) (hp : 0 ≤ pl ∧ pl ≤ 19) (hl : 0 < gA C 1 pl) (h60 : cntI (pLy C) (gN C 7 6) < 60) (hn : gN C 7 6 < 120) (hw : wf (takM0 C co pl)) : rl (takM0 C co pl) (ctA A co pl) := by
  obtain ⟨w, i, a1, a2, a3, a4, a5⟩ := h
  obtain ⟨v1, v2, -⟩ := id w
  obtain ⟨i1, i2, i3, i4, i5⟩ := i
  obtain ⟨s1, s2, s3, s4⟩ := a1
  obtain ⟨s2a, s2b, s2c⟩ := s2
  have k0 := (cntI_le (pLy C) v1.1).1
  have cA := ct_A (A := A) hc hp ⟨by omega, by omega⟩
  have cC := tk_A C co pl
  have cN := tk_N C co pl
  have hco : (iI co).toInt = co := iI_t ⟨by omega, by omega⟩
  have hpl : (iI pl).toInt = pl := iI_t ⟨by omega, by omega⟩
  have hn1 : (iI (gN C 7 6 + 1)).toInt = gN C 7 6 + 1 := iI_t ⟨by omega, by omega⟩
  have hn0 : (iI (gN C 7 6)).toInt = gN C 7 6 := iI_t ⟨by omega, by omega⟩
  have hk1 : (iI (aI A 4 + 1)).toInt = aI A 4 + 1 := iI_t ⟨by omega, by omega⟩
  have hly : (iI (gA C 1 pl - 1)).toInt = gA C 1 pl - 1 := iI_t (by have g := gA_r C 1 pl; exact ⟨by omega, by have := g.2; omega⟩)
  rw [hco, hpl, hk1, s2b, hn0, hn1] at cA
  have n76 : gN (takM0 C co pl) 7 6 = gN C 7 6 + 1 := by rw [cN, if_pos ⟨rfl, rfl⟩, hn1]
  have nO : ∀ c f : Nat, ¬ (c = 7 ∧ f = 6) → gN (takM0 C co pl) c f = gN C c f := fun c f t => by rw [cN, if_neg t]
  have ly : ∀ r : Int, ¬ r = gN C 7 6 → (pLy (takM0 C co pl) r ↔ pLy C r) := by
    intro r t
    unfold pLy
    rw [cC]
    simp [t]
  have lyn : pLy (takM0 C co pl) (gN C 7 6) := by
    unfold pLy
    rw [cC]
    simp
  have cnt0 : ∀ r : Int, 0 ≤ r → r ≤ gN C 7 6 → cntI (pLy (takM0 C co pl)) r = cntI (pLy C) r := fun r r0 r1 => cntI_cg r0 (fun q q0 q1 => ly q (by omega))
  have cnt1 : cntI (pLy (takM0 C co pl)) (gN C 7 6 + 1) = cntI (pLy C) (gN C 7 6) + 1 := by rw [cntI_t v1.1 lyn, cnt0 _ v1.1 (Int.le_refl _)]
  have g1 : ∀ r : Int, ¬ r = pl → gA (takM0 C co pl) 1 r = gA C 1 r := fun r t => by rw [cC]; simp [t]
  have g1p : gA (takM0 C co pl) 1 pl = gA C 1 pl - 1 := by rw [cC]; simp [hly]
  have g0 : ∀ c : Nat, ¬ c = 1 → ¬ c = 5 → (c < 8 ∨ 13 < c) → ∀ r, gA (takM0 C co pl) c r = gA C c r := by
    intro c t1 t5 t8 r
    rw [cC, if_neg (by omega), if_neg (by omega), if_neg (by omega), if_neg (by omega), if_neg (by omega), if_neg (by omega), if_neg (by omega), if_neg (by omega)]
  have g5 : ∀ r : Int, gA (takM0 C co pl) 5 r = if r = co then (iI (gA C 5 co + 1)).toInt else gA C 5 r := by
    intro r
    rw [cC, if_neg (by omega), if_neg (by omega), if_neg (by omega), if_neg (by omega), if_neg (by omega), if_neg (by omega)]
    by_cases t : r = co
    · rw [if_pos ⟨rfl, t⟩, if_pos t]
    · rw [if_neg (fun s => t s.2), if_neg t, if_neg (by omega)]
  have gr : ∀ c : Nat, 8 ≤ c → c ≤ 13 → ∀ r : Int, ¬ r = gN C 7 6 → gA (takM0 C co pl) c r = gA C c r := by
    intro c t1 t2 r t
    rw [cC, if_neg (fun s => t s.2), if_neg (fun s => t s.2), if_neg (fun s => t s.2), if_neg (fun s => t s.2), if_neg (fun s => t s.2), if_neg (fun s => t s.2), if_neg (by omega), if_neg (by omega)]
  have hsum : sumX (gA (takM0 C co pl) 1) 20 = sumX (gA C 1) 20 - 1 := by
    have e := sum_up (f := gA C 1) (g := gA (takM0 C co pl) 1) (x := pl) (d := -1) hp.1 (by rw [g1p]; omega) g1 20
    rw [if_pos (by omega), show (((20 : Nat)) : Int) = 20 from rfl] at e
    omega
  refine ⟨hw, ⟨⟨by rw [n76, cnt1]; omega, fun r r0 r1 => by rw [n76] at r0; rw [ly r (by omega)]; exact i1.2 r (by omega) r1⟩, fun p p0 p1 => ?_, by rw [hsum, n76]; omega, fun c c0 c1 => ?_, fun d d0 d1 => ?_⟩, ⟨⟨?_, ?_, ?_, ?_⟩, ⟨?_, ?_, ?_⟩, ⟨?_, ?_⟩, ?_, ?_⟩, fun c c0 c1 => ?_, fun p p0 p1 => ?_, ⟨fun r r0 r1 hr => ?_, fun q q0 q1 => ?_, fun q q0 q1 => ?_⟩, fun d d0 d1 => ?_⟩
  · rw [g0 2 (by decide) (by decide) (by decide), g0 3 (by decide) (by decide) (by decide)]
    refine ⟨?_, (i2 p p0 p1).2⟩
    by_cases t : p = pl
    · rw [t, g1p]; omega
    · rw [g1 p t]; exact (i2 p p0 p1).1
  · rw [g0 4 (by decide) (by decide) (by decide)]; exact i4 c c0 c1
  · rw [nO 14 4 (by decide)] at d0
    rw [nO 14 5 (by decide)] at d1
    rw [g0 15 (by decide) (by decide) (by decide), g0 16 (by decide) (by decide) (by decide)]; exact i5 d d0 d1
  · rw [cA 0, if_neg (by omega), if_neg (by omega), if_neg (by omega), if_neg (by omega), if_neg (by omega), if_neg (by omega), if_neg (by omega), if_neg (by omega), if_neg (by omega), if_neg (by omega), nO 0 8 (by decide)]; exact s1.1
  · rw [cA 1, if_neg (by omega), if_neg (by omega), if_neg (by omega), if_neg (by omega), if_neg (by omega), if_neg (by omega), if_neg (by omega), if_neg (by omega), if_neg (by omega), if_neg (by omega), nO 0 9 (by decide)]; exact s1.2.1
  · rw [cA 2, if_neg (by omega), if_neg (by omega), if_neg (by omega), if_neg (by omega), if_neg (by omega), if_neg (by omega), if_neg (by omega), if_neg (by omega), if_neg (by omega), if_neg (by omega), nO 0 11 (by decide)]; exact s1.2.2.1
  · rw [cA 3, if_neg (by omega), if_neg (by omega), if_neg (by omega), if_neg (by omega), if_neg (by omega), if_neg (by omega), if_neg (by omega), if_neg (by omega), if_neg (by omega), if_neg (by omega), nO 0 12 (by decide)]; exact s1.2.2.2
  · rw [cA 4, if_neg (by decide), if_pos rfl, n76, cnt1, s2a]
  · rw [cA 5, if_pos rfl, n76]
  · rw [cA 6, if_neg (by omega), if_neg (by omega), if_neg (by omega), if_neg (by omega), if_neg (by omega), if_neg (by omega), if_neg (by omega), if_neg (by omega), if_neg (by omega), if_neg (by omega), nO 0 13 (by decide)]; exact s2c
  · rw [cA 7, if_neg (by omega), if_neg (by omega), if_neg (by omega), if_neg (by omega), if_neg (by omega), if_neg (by omega), if_neg (by omega), if_neg (by omega), if_neg (by omega), if_neg (by omega), nO 14 4 (by decide), nO 14 5 (by decide)]; exact s3.1
  · rw [cA 8, if_neg (by omega), if_neg (by omega), if_neg (by omega), if_neg (by omega), if_neg (by omega), if_neg (by omega), if_neg (by omega), if_neg (by omega), if_neg (by omega), if_neg (by omega), nO 14 5 (by decide)]; exact s3.2
  · rw [cA 9, if_neg (by omega), if_neg (by omega), if_neg (by omega), if_neg (by omega), if_neg (by omega), if_neg (by omega), if_neg (by omega), if_neg (by omega), if_neg (by omega), if_neg (by omega), nO 0 10 (by decide)]; exact s4.1
  · rw [cA 10, if_neg (by omega), if_neg (by omega), if_neg (by omega), if_neg (by omega), if_neg (by omega), if_neg (by omega), if_neg (by omega), if_neg (by omega), if_neg (by omega), if_neg (by omega), nO 0 10 (by decide)]; exact s4.2
  · obtain ⟨t1, t2, t3⟩ := a2 c c0 c1
    rw [g0 4 (by decide) (by decide) (by decide), g0 6 (by decide) (by decide) (by decide), g5, ctA_o hc hp (by omega) (by omega) (by omega) (by omega) (by omega) (by omega), ctA_o (x := 11 + 3 * c + 2) hc hp (by omega) (by omega) (by omega) (by omega) (by omega) (by omega)]
    refine ⟨t1, ?_, t3⟩
    by_cases t : c = co
    · rw [if_pos t, cA, if_neg (by omega), if_neg (by omega), if_neg (by omega), if_neg (by omega), if_neg (by omega), if_neg (by omega), if_neg (by omega), if_neg (by omega), if_neg (by omega), if_pos (by omega), ← t, t2]
    · rw [if_neg t, ctA_o hc hp (by omega) (by omega) (by omega) (by omega) (by omega) (by omega)]; exact t2
  · obtain ⟨t1, t2, t3⟩ := a3 p p0 p1
    rw [g0 2 (by decide) (by decide) (by decide), g0 3 (by decide) (by decide) (by decide), ctA_o (x := 41 + 3 * p + 1) hc hp (by omega) (by omega) (by omega) (by omega) (by omega) (by omega), ctA_o (x := 41 + 3 * p + 2) hc hp (by omega) (by omega) (by omega) (by omega) (by omega) (by omega)]
    refine ⟨?_, t2, t3⟩
    by_cases t : p = pl
    · rw [t, g1p, cA, if_neg (by omega), if_neg (by omega), if_neg (by omega), if_neg (by omega), if_neg (by omega), if_neg (by omega), if_neg (by omega), if_neg (by omega), if_pos rfl, ← t, t1, t, hly]
    · rw [g1 p t, ctA_o hc hp (by omega) (by omega) (by omega) (by omega) (by omega) (by omega)]; exact t1
  · rw [n76] at r1
    by_cases t : r = gN C 7 6
    · have e : cntI (pLy (takM0 C co pl)) r = aI A 4 := by rw [t, cnt0 _ v1.1 (Int.le_refl _), s2a]
      obtain ⟨b0, b1, b2, b3, b4, b5⟩ := ctA_k (A := A) (co := co) (pl := pl) (by omega)
      rw [e, b0, b1, b2, b3, b4, b5, t, s2b, hn0, hco, hpl]
      refine ⟨⟨rfl, ?_, ?_⟩, ?_, ?_, ?_⟩ <;> (rw [cC]; simp [hco, hpl])
    · have r2 : r < gN C 7 6 := by omega
      have hr0 := (ly r t).1 hr
      have e := cnt0 r r0 (by omega)
      have k1 := cntI_lt r0 r2 hr0
      have k2 := (cntI_le (pLy C) r0).1
      rw [e, gr 8 (by decide) (by decide) r t, gr 9 (by decide) (by decide) r t, gr 10 (by decide) (by decide) r t, gr 11 (by decide) (by decide) r t, gr 12 (by decide) (by decide) r t]
      rw [ctA_x hc hp (by omega) (by omega), ctA_x (x := 101 + 6 * cntI (pLy C) r + 1) hc hp (by omega) (by omega), ctA_x (x := 101 + 6 * cntI (pLy C) r + 2) hc hp (by omega) (by omega), ctA_x (x := 101 + 6 * cntI (pLy C) r + 3) hc hp (by omega) (by omega), ctA_x (x := 101 + 6 * cntI (pLy C) r + 4) hc hp (by omega) (by omega), ctA_x (x := 101 + 6 * cntI (pLy C) r + 5) hc hp (by omega) (by omega)]
      exact a4.1 r r0 r2 hr0
  · by_cases t : q = aI A 4
    · obtain ⟨b0, b1, b2, b3, b4, b5⟩ := ctA_k (A := A) (co := co) (pl := pl) (by omega)
      rw [t, b3, b4]; decide
    · rw [ctA_x hc hp (by omega) (by omega), ctA_x (x := 101 + 6 * q + 4) hc hp (by omega) (by omega)]
      exact a4.2.1 q q0 q1
  · by_cases t : q = aI A 4
    · obtain ⟨b0, b1, b2, b3, b4, b5⟩ := ctA_k (A := A) (co := co) (pl := pl) (by omega)
      rw [t, b5]; decide
    · rw [ctA_x hc hp (by omega) (by omega)]
      exact a4.2.2 q q0 q1
  · rw [nO 14 4 (by decide), nO 14 5 (by decide)] at d1
    rw [nO 14 4 (by decide), g0 15 (by decide) (by decide) (by decide), g0 16 (by decide) (by decide) (by decide), g0 17 (by decide) (by decide) (by decide), g0 18 (by decide) (by decide) (by decide), ctA_x hc hp (by omega) (by omega), ctA_x (x := 461 + 4 * d + 1) hc hp (by omega) (by omega), ctA_x (x := 461 + 4 * d + 2) hc hp (by omega) (by omega), ctA_x (x := 461 + 4 * d + 3) hc hp (by omega) (by omega)]
    exact a5 d d0 d1
