theorem op_A (C : gM) (co wr ro pl : Int) (c : Nat) (r : Int) : gA (opnM C co wr ro pl) c r = if c = 18 ∧ r = gN C 14 5 then (iI pl).toInt else if c = 17 ∧ r = gN C 14 5 then (iI ro).toInt else if c = 16 ∧ r = gN C 14 5 then (iI wr).toInt else if c = 15 ∧ r = gN C 14 5 then (iI co).toInt else gA C c r := by
  unfold opnM
  simp only [gA_sS, gA_sA]
theorem op_o {A : Int → Int32} {co pl r x : Int} (hx : x < 461 + 4 * aI A 7 ∨ 461 + 4 * aI A 7 + 4 ≤ x) (h7 : ¬ x = 7) (h8 : ¬ x = 8) : aI (opA A co pl r) x = aI A x := by
  unfold opA
  rw [aI_n _ _ h8, aI_n _ _ h7, aI_n _ _ (by omega), aI_n _ _ (by omega), aI_n _ _ (by omega), aI_n _ _ (by omega)]
theorem op_7 {A : Int → Int32} {co pl r : Int} : aI (opA A co pl r) 7 = (iI (aI A 7 + 1)).toInt := by
  unfold opA
  rw [aI_n _ _ (by decide), aI_e]
theorem op_8 {A : Int → Int32} {co pl r : Int} : aI (opA A co pl r) 8 = (iI (aI A 8 + 1)).toInt := by
  unfold opA
  rw [aI_e]
theorem op_k {A : Int → Int32} {co pl r : Int} (h : 0 ≤ aI A 7) : aI (opA A co pl r) (461 + 4 * aI A 7 + 0) = (iI co).toInt ∧ aI (opA A co pl r) (461 + 4 * aI A 7 + 1) = (iI (aI A (41 + 3 * pl + 2))).toInt ∧ aI (opA A co pl r) (461 + 4 * aI A 7 + 2) = (iI r).toInt ∧ aI (opA A co pl r) (461 + 4 * aI A 7 + 3) = (iI pl).toInt := by
  unfold opA
  refine ⟨?_, ?_, ?_, ?_⟩
  · rw [aI_n _ _ (by omega), aI_n _ _ (by omega), aI_n _ _ (by omega), aI_n _ _ (by omega), aI_n _ _ (by omega), aI_e]
  · rw [aI_n _ _ (by omega), aI_n _ _ (by omega), aI_n _ _ (by omega), aI_n _ _ (by omega), aI_e]
  · rw [aI_n _ _ (by omega), aI_n _ _ (by omega), aI_n _ _ (by omega), aI_e]
  · rw [aI_n _ _ (by omega), aI_n _ _ (by omega), aI_e]
theorem rl_op {C : gM} {A : Int → Int32} (h : rl C A) {co wr ro pl : Int} (hc : 0 ≤ co ∧ co ≤ 9) (hw : 0 ≤ wr ∧ wr ≤ 9) (hr : 0 ≤ ro ∧ ro ≤ 120) (hp : 0 ≤ pl ∧ pl ≤ 19) (e : aI A (41 + 3 * pl + 2) = wr) (hn : gN C 14 5 < gN C 7 6) : rl (opnM C co wr ro pl) (opA A co pl ro) := by
  have hwf := wf_opn co wr ro pl h.1 hn
  obtain ⟨w, i, a1, a2, a3, a4, a5⟩ := h
  obtain ⟨v1, v2, -⟩ := id w
  obtain ⟨i1, i2, i3, i4, i5⟩ := i
  obtain ⟨s1, s2, s3, s4⟩ := a1
  have cA := op_A C co wr ro pl
  have nO : ∀ c f : Nat, ¬ (c = 14 ∧ f = 5) → gN (opnM C co wr ro pl) c f = gN C c f := fun c f t => by
    unfold opnM
    rw [gN_sS, if_neg t]
    rfl
  have n5 : gN (opnM C co wr ro pl) 14 5 = gN C 14 5 + 1 := iI_t (z := gN C 14 5 + 1) ⟨by omega, by omega⟩
  have hco : (iI co).toInt = co := iI_t ⟨by omega, by omega⟩
  have hwr : (iI wr).toInt = wr := iI_t ⟨by omega, by omega⟩
  have hro : (iI ro).toInt = ro := iI_t ⟨by omega, by omega⟩
  have hpl : (iI pl).toInt = pl := iI_t ⟨by omega, by omega⟩
  rw [hco, hwr, hro, hpl] at cA
  have e7 : aI (opA A co pl ro) 7 = aI A 7 + 1 := by rw [op_7, iI_t ⟨by omega, by omega⟩]
  have e8 : aI (opA A co pl ro) 8 = aI A 8 + 1 := by rw [op_8, iI_t ⟨by omega, by omega⟩]
  have ek := op_k (A := A) (co := co) (pl := pl) (r := ro) (by omega)
  rw [hco, e, hwr, hro, hpl] at ek
  have o : ∀ x : Int, (x < 461 + 4 * aI A 7 ∨ 461 + 4 * aI A 7 + 4 ≤ x) → ¬ x = 7 → ¬ x = 8 → aI (opA A co pl ro) x = aI A x := fun x => op_o
  obtain ⟨B, eB⟩ : ∃ B, B = opA A co pl ro := ⟨_, rfl⟩
  rw [← eB] at e7 e8 ek o ⊢
  obtain ⟨D, eD⟩ : ∃ D, D = opnM C co wr ro pl := ⟨_, rfl⟩
  rw [← eD] at hwf cA nO n5 ⊢
  have g0 : ∀ c : Nat, c < 15 → ∀ r, gA D c r = gA C c r := fun c t r => by rw [cA, if_neg (by omega), if_neg (by omega), if_neg (by omega), if_neg (by omega)]
  have p13 : pLy D = pLy C := by
    funext r
    unfold pLy
    rw [g0 13 (by decide)]
  have gd : ∀ c : Nat, 15 ≤ c → c ≤ 18 → ∀ r : Int, ¬ r = gN C 14 5 → gA D c r = gA C c r := fun c t1 t2 r t => by rw [cA, if_neg (fun s => t s.2), if_neg (fun s => t s.2), if_neg (fun s => t s.2), if_neg (fun s => t s.2)]
  have gv : gA D 15 (gN C 14 5) = co ∧ gA D 16 (gN C 14 5) = wr ∧ gA D 17 (gN C 14 5) = ro ∧ gA D 18 (gN C 14 5) = pl := by
    refine ⟨?_, ?_, ?_, ?_⟩ <;> (rw [cA]; simp)
  refine ⟨hwf, ⟨by rw [p13, nO 7 6 (by decide)]; exact i1, fun p p0 p1 => by rw [g0 1 (by decide), g0 2 (by decide), g0 3 (by decide)]; exact i2 p p0 p1, by rw [show gA D 1 = gA C 1 from funext (g0 1 (by decide)), nO 7 6 (by decide)]; exact i3, fun c c0 c1 => by rw [g0 4 (by decide)]; exact i4 c c0 c1, fun d d0 d1 => ?_⟩, ⟨?_, ?_, ?_, ?_⟩, rlC_c a2 (fun c _ _ => g0 c (by omega)) (fun x _ _ => o x (by omega) (by omega) (by omega)), rlP_c a3 (fun c _ _ => g0 c (by omega)) (fun x _ _ => o x (by omega) (by omega) (by omega)), rlR_c a4 i1.1 (fun c _ _ => g0 c (by omega)) (nO 7 6 (by decide)) (fun x _ _ => o x (by omega) (by omega) (by omega)), fun d d0 d1 => ?_⟩
  · rw [nO 14 4 (by decide)] at d0
    rw [n5] at d1
    by_cases t : d = gN C 14 5
    · rw [t, gv.1, gv.2.1]; exact ⟨hc, hw⟩
    · rw [gd 15 (by decide) (by decide) d t, gd 16 (by decide) (by decide) d t]
      exact i5 d d0 (by omega)
  · rw [o 0 (by omega) (by decide) (by decide), o 1 (by omega) (by decide) (by decide), o 2 (by omega) (by decide) (by decide), o 3 (by omega) (by decide) (by decide), nO 0 8 (by decide), nO 0 9 (by decide), nO 0 11 (by decide), nO 0 12 (by decide)]
    exact s1
  · rw [o 4 (by omega) (by decide) (by decide), o 5 (by omega) (by decide) (by decide), o 6 (by omega) (by decide) (by decide), nO 7 6 (by decide), nO 0 13 (by decide), p13]
    exact s2
  · rw [e7, e8, n5, nO 14 4 (by decide)]
    omega
  · rw [o 9 (by omega) (by decide) (by decide), o 10 (by omega) (by decide) (by decide), nO 0 10 (by decide)]
    exact s4
  · rw [n5, nO 14 4 (by decide)] at d1
    rw [nO 14 4 (by decide)]
    by_cases t : d = gN C 14 5 - gN C 14 4
    · have t2 : d = aI A 7 := by omega
      rw [show gN C 14 4 + d = gN C 14 5 by omega, gv.1, gv.2.1, gv.2.2.1, gv.2.2.2, t2]
      exact ek
    · rw [gd 15 (by decide) (by decide) _ (by omega), gd 16 (by decide) (by decide) _ (by omega), gd 17 (by decide) (by decide) _ (by omega), gd 18 (by decide) (by decide) _ (by omega), o _ (by omega) (by omega) (by omega), o (461 + 4 * d + 1) (by omega) (by omega) (by omega), o (461 + 4 * d + 2) (by omega) (by omega) (by omega), o (461 + 4 * d + 3) (by omega) (by omega) (by omega)]
      exact a5 d d0 (by omega)
theorem st_cut {w w1 w2 : gW} {b0 b1 b2 b3 : Nat} {co pl z1 z2 : Int} (h : Rel w b0 b1 b2 b3) (h1 : po_X5_cut w b0 b1 b2 b3 co pl z1 w1) (h2 : po_X6_cut w1 co pl z2 w2) : Fin z1 z2 w2 := by
  have r := h.2.1
  unfold po_X5_cut at h1
  unfold po_X6_cut at h2
  have e10 : w1 10 = w 10 := by
    rcases h1 with ⟨-, -, ew⟩ | ⟨-, -, -, -, ew⟩ | ⟨-, -, -, -, -, ew⟩ | ⟨-, -, -, -, -, ew⟩ <;> rw [ew]
    exact rec10 h _
  rw [e10] at h2
  by_cases hcp : (0 ≤ co ∧ co ≤ 9) ∧ (0 ≤ pl ∧ pl ≤ 19)
  · obtain ⟨hc, hp⟩ := hcp
    have rs := rs_eq r hc hp
    rcases h1 with ⟨c1, e1, ew⟩ | ⟨-, -, ⟨q, c3, c4⟩, e1, ew⟩ | ⟨-, -, c3, c4, e1, ew⟩ | ⟨-, -, c3, c4, e1, ew⟩
    · exact absurd ⟨hc, hp⟩ c1
    · rw [ew] at h2
      rcases h2 with ⟨d1, f1, fw⟩ | ⟨-, -, d3, f1, fw⟩ | ⟨-, -, d3, d4, f1, fw⟩ | ⟨-, -, d3, d4, f1, fw⟩
      · exact absurd ⟨hc, hp⟩ d1
      · exact Fin_no h (by omega) fw
      · exact absurd (rsA_u ((rs q).1 c3) d3) c4
      · exact absurd (rsA_u ((rs q).1 c3) d3) c4
    · exact absurd (Rel_open h hp (rsA_0 ((rs 0).1 c3)).2) c4
    · have q0 := rsA_0 ((rs 0).1 c3)
      have hP := r.2.2.2.2.1 pl hp.1 hp.2
      have hl := (r.2.1.2.1 pl hp.1 hp.2).1
      have h60 := r.2.1.1.1
      have e4 := r.2.2.1.2.1.1
      have e5 := r.2.2.1.2.1.2.1
      have hwf := wf_tak0 co pl r.1 c4
      have k0 := (cntI_le (pLy (w 1)) r.1.1.1).1
      have rc := rl_cut r hc hp (by omega) (by omega) c4 hwf
      rcases h2 with ⟨d1, f1, fw⟩ | ⟨-, -, ⟨y, y0, d3⟩, f1, fw⟩ | ⟨-, -, d3, d4, f1, fw⟩ | ⟨-, -, d3, d4, f1, fw⟩
      · exact absurd ⟨hc, hp⟩ d1
      · exact absurd (rsA_u d3 ((rs 0).1 c3)) y0
      · have t : gA (w 1) 3 pl = co := by rw [← hP.2.2]; exact d4.2
        rw [show takM (w 1) co pl = takM0 (w 1) co pl from if_pos t] at ew
        exact Fin_act h (by rw [e1, f1, e5]) ew fw rc
      · have t : ¬ gA (w 1) 3 pl = co := fun s => d4 ⟨hp, by rw [hP.2.2]; exact s⟩
        rw [show takM (w 1) co pl = opnM (takM0 (w 1) co pl) co (gA (w 1) 3 pl) (gN (w 1) 7 6) pl from if_neg t] at ew
        rw [e5] at fw
        have n1 : gN (takM0 (w 1) co pl) 7 6 = gN (w 1) 7 6 + 1 := by
          rw [tk_N, if_pos ⟨rfl, rfl⟩, iI_t ⟨by have := r.1.1; omega, by omega⟩]
        have n2 : gN (takM0 (w 1) co pl) 14 5 = gN (w 1) 14 5 := by rw [tk_N, if_neg (by decide)]
        have w9 := r.1.2.2.2.2.2.2.2.2
        have w1' := r.1.1
        refine Fin_act h (by rw [e1, f1, e5]) ew fw (rl_op rc hc (r.2.1.2.1 pl hp.1 hp.2).2.2 ⟨by omega, by omega⟩ hp ?_ (by omega))
        rw [ctA_o hc hp (by omega) (by omega) (by omega) (by omega) (by omega) (by omega)]
        exact hP.2.2
  · rcases h1 with ⟨c1, e1, ew⟩ | ⟨c1, c2, -⟩ | ⟨c1, c2, -⟩ | ⟨c1, c2, -⟩
    · rw [ew] at h2
      rcases h2 with ⟨d1, f1, fw⟩ | ⟨d1, d2, -⟩ | ⟨d1, d2, -⟩ | ⟨d1, d2, -⟩
      · exact Fin_no h (by omega) fw
      · exact absurd ⟨d1, d2⟩ hcp
      · exact absurd ⟨d1, d2⟩ hcp
      · exact absurd ⟨d1, d2⟩ hcp
    · exact absurd ⟨c1, c2⟩ hcp
    · exact absurd ⟨c1, c2⟩ hcp
    · exact absurd ⟨c1, c2⟩ hcp
