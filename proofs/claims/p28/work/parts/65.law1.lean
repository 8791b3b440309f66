/-! the system at its birth -/
theorem wf_m0 : wf m0M := by
  refine ⟨by decide, by decide, fun _ => (show (0 : Int) ≤ 0 ∧ (0 : Int) ≤ 60 by decide), fun _ => Or.inl rfl, fun _ => Or.inl rfl, fun _ => Or.inl rfl, by decide, by decide, by decide⟩
theorem m0_1 {p : Int} (h0 : 0 ≤ p) (h1 : p ≤ 19) : gA m0M 1 p = 6 ∧ gA m0M 2 p = p / 2 ∧ gA m0M 3 p = p / 2 := by
  refine ⟨?_, ?_, ?_⟩
  · show aI (selG _ (fun _ => iI 6) 0 20) p = 6
    rw [aI_si _ _ (by omega)]; rfl
  · show aI (selG _ (fun i => iI (i / 2)) 0 20) p = _
    rw [aI_si _ _ (by omega)]
    exact iI_t ⟨by omega, by omega⟩
  · show aI (selG _ (fun i => iI (i / 2)) 0 20) p = _
    rw [aI_si _ _ (by omega)]
    exact iI_t ⟨by omega, by omega⟩
theorem m0_4 {c : Int} (h0 : 0 ≤ c) (h1 : c ≤ 9) : gA m0M 4 c = 6 ∧ gA m0M 5 c = 0 ∧ gA m0M 6 c = 0 := by
  refine ⟨?_, rfl, rfl⟩
  show aI (selG _ (fun _ => iI 6) 0 10) c = 6
  rw [aI_si _ _ (by omega)]; rfl
theorem m0_sum : sumX (gA m0M 1) 20 = 120 := by
  have e : sumX (gA m0M 1) 20 = sumX (fun _ => 6) 20 := sum_cg 20 (fun r r0 r1 => (m0_1 r0 (by omega)).1)
  rw [e]
  rfl
theorem n6_m0 : gN m0M 7 6 = 0 := rfl
theorem Inv_m0 : Inv m0M := by
  refine ⟨wf_m0, fun r r0 r1 => ?_, fun r hr => ?_, fun p p0 p1 => ?_, fun c c0 c1 => ?_, ?_, ?_, ?_, fun d d0 d1 => ?_, fun d d0 d1 => ?_, by decide⟩
  · rw [n6_m0] at r1; omega
  · have t := hr.1.2.1
    have t0 := hr.1.1
    rw [n6_m0] at t; omega
  · obtain ⟨e1, e2, e3⟩ := m0_1 p0 p1
    rw [e1, e2, e3]
    omega
  · obtain ⟨e1, e2, e3⟩ := m0_4 c0 c1
    rw [e1, e2, e3]
    omega
  · unfold iH
    have e : sumX (gA m0M 6) 10 = sumX (fun _ => 0) 10 := sum_cg 10 (fun r r0 r1 => (m0_4 r0 (by omega)).2.2)
    rw [e]
    decide
  · unfold iL
    rw [m0_sum, n6_m0]; rfl
  · unfold iN
    rw [n6_m0, cntI_0]
    decide
  · have d0 : (0 : Int) ≤ d := d0
    have d1 : d < 0 := d1
    omega
  · have d0 : (0 : Int) < d := d0
    have d1 : d < 0 := d1
    omega
theorem okW_0 : okW w0W 5 6 7 8 := by
  refine ⟨⟨by decide, by decide, by decide, by decide, by decide, by decide, by decide, by decide, by decide, by decide⟩, ⟨rfl, rfl, rfl, rfl⟩, fun j hj => ?_, ⟨by decide, by decide⟩, ⟨by decide, by decide⟩⟩
  rcases hj with rfl | rfl | rfl | rfl | rfl | rfl | rfl <;> exact wf_m0
/-! two things that the law asks of an act -/
theorem pass_h {M K : gM} {v u z : Int} (hI : Inv M) (h : 11 < land v 15) (rz : inR z) (e : iI z = iI (actF M K v u).1) (z0 : 0 ≤ z) : gN (actF M K v u).2 0 13 = gN M 0 13 + z := by
  have f : actF M K v u = passF M (lowF u 4) := by
    unfold actF
    rw [if_neg (by omega), if_neg (by omega), if_neg (by omega), if_neg (by omega), if_neg (by omega), if_neg (by omega), if_neg (by omega), if_neg (by omega)]
  rw [f] at e ⊢
  unfold passF at e ⊢
  by_cases q : 0 ≤ lowF u 4 ∧ lowF u 4 ≤ 2
  · rw [if_pos q] at e ⊢
    have d := Inv_dyX hI (lowF u 4) 1
    have d1 := Inv_home d.1
    have d2 := Inv_home hI
    have ez := (iI_eq rz ⟨by show _ ≤ gN _ 0 13 - gN M 0 13; omega, by show gN _ 0 13 - gN M 0 13 < _; omega⟩).1 e
    have ez : z = gN (dyX M (lowF u 4) 1) 0 13 - gN M 0 13 := ez
    show gN (dyX M (lowF u 4) 1) 0 13 = _
    omega
  · rw [if_neg q] at e
    have e : iI z = iI (-2) := e
    have ez := (iI_eq rz ⟨by decide, by decide⟩).1 e
    omega
theorem res_h {M K : gM} {v u : Int} (h : land v 15 = 10) (h3 : ¬ land u 3 = 0) : (actF M K v u).2 = K := by
  unfold actF
  rw [if_neg (by omega), if_neg (by omega), if_neg (by omega), if_neg (by omega), if_neg (by omega), if_neg (by omega), if_pos h, if_neg h3]
  rfl
