theorem m0_1 {p : Int} (h0 : 0 ≤ p) (h1 : p ≤ 19) : gA m0M 1 p = 6 ∧ gA m0M 2 p = p / 2 ∧ gA m0M 3 p = p / 2 := by
  refine ⟨?_, ?_, ?_⟩
  · show aI (selG _ (fun _ => iI 6) 0 20) p = 6
    rw [aI_si _ _ (by omega)]; rfl
  · show aI (selG _ (fun i => iI (i / 2)) 0 20) p = _
    rw [aI_si _ _ (by omega)]
    exact iI_t ⟨by omega, by omega⟩
  · show aI (selG _ (fun i => iI (i / 2)) 0 20) p = _
    rw [aI_si _ _ (by omega)]
    exact iI_t ⟨by omega, by omega⟩
theorem m0_4 {c : Int} (h0 : 0 ≤ c) (h1 : c ≤ 9) : gA m0M 4 c = 6 ∧ gA m0M 5 c = 0 ∧ gA m0M 6 c = 0 := by
  refine ⟨?_, rfl, rfl⟩
  show aI (selG _ (fun _ => iI 6) 0 10) c = 6
  rw [aI_si _ _ (by omega)]; rfl
theorem m0_sum : sumX (gA m0M 1) 20 = 120 := by
  have e : sumX (gA m0M 1) 20 = sumX (fun _ => 6) 20 := sum_cg 20 (fun r r0 r1 => (m0_1 r0 (by omega)).1)
  rw [e]
  rfl
theorem rl_0 : rl m0M (p6A (d6A a0A 10) 20) := by
  have n2 : gN m0M 14 4 = 0 := rfl
  have n3 : gN m0M 14 5 = 0 := rfl
  have n4 : gN m0M 0 10 = 0 := rfl
  have c0 : cntI (pLy m0M) (gN m0M 7 6) = 0 := rfl
  have s : ∀ i : Int, i < 11 → ¬ i = 0 → ¬ i = 10 → aI (p6A (d6A a0A 10) 20) i = 0 := fun i h h0 h10 => by rw [a0_lo h, a0_z h0 h10]
  refine ⟨wf_m0, ⟨⟨by rw [c0]; decide, fun r _ _ t => t rfl⟩, fun p p0 p1 => ?_, by rw [m0_sum, n6_m0]; decide, fun c c0 c1 => ?_, fun d d0 d1 => ?_⟩, ⟨⟨?_, ?_, ?_, ?_⟩, ⟨?_, ?_, ?_⟩, ⟨?_, ?_⟩, ?_, ?_⟩, fun c c0 c1 => ?_, fun p p0 p1 => ?_, ⟨fun r r0 r1 hr => ?_, fun q q0 q1 => ?_, fun q q0 q1 => ?_⟩, fun d d0 d1 => ?_⟩
  · obtain ⟨t1, t2, t3⟩ := m0_1 p0 p1
    rw [t1, t2, t3]; omega
  · rw [(m0_4 c0 c1).1]; decide
  · rw [n2] at d0; rw [n3] at d1; omega
  · rw [a0_lo (by decide), n8_m0]; unfold a0A; rw [aI_n _ _ (by decide), aI_e]; rfl
  · rw [s 1 (by decide) (by decide) (by decide)]; rfl
  · rw [s 2 (by decide) (by decide) (by decide)]; rfl
  · rw [s 3 (by decide) (by decide) (by decide)]; rfl
  · rw [s 4 (by decide) (by decide) (by decide), c0]
  · rw [s 5 (by decide) (by decide) (by decide)]; rfl
  · rw [s 6 (by decide) (by decide) (by decide)]; rfl
  · rw [s 7 (by decide) (by decide) (by decide), n2, n3]; rfl
  · rw [s 8 (by decide) (by decide) (by decide), n3]
  · rw [s 9 (by decide) (by decide) (by decide), n4]
  · rw [a0_lo (by decide), n4]; unfold a0A; rw [aI_e]; rfl
  · obtain ⟨t1, t2, t3⟩ := m0_4 c0 c1
    rw [t1, t2, t3]; exact a0_d c0 c1
  · obtain ⟨t1, t2, t3⟩ := m0_1 p0 p1
    rw [t1, t2, t3]; exact a0_p p0 p1
  · rw [n6_m0] at r1; omega
  · rw [a0_hi (by omega), a0_hi (by omega)]; decide
  · rw [a0_hi (by omega)]; decide
  · rw [n2, n3] at d1; omega
theorem Rel_0 : Rel w0W 5 6 7 8 := by
  refine ⟨⟨⟨by decide, by decide, by decide, by decide, by decide, by decide, by decide, by decide, by decide, by decide⟩, ⟨rfl, rfl, rfl, rfl⟩, fun j hj => ?_, by decide, by decide⟩, rl_0, rfl, fun m hm => ?_, ⟨rfl, fun t => absurd rfl t⟩, rfl, fun i i0 i1 => ?_⟩
  · rcases hj with rfl | rfl | rfl | rfl | rfl | rfl | rfl <;> exact wf_m0
  · have hm : (m : Int) < 0 := hm
    omega
  · have i1 : i < 0 := i1
    omega
