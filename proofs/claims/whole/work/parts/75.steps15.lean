theorem wf_yr {M : gM} (h : wf M) : wf (yrM M) := by
  obtain ⟨a1, a2, a3, a4, a5, a6, a7, a8, a9⟩ := h
  have e4 : gN (yrM M) 14 4 = gN M 14 5 := by
    show (iI (gN M 14 5)).toInt = gN M 14 5
    exact iI_t ⟨by omega, by omega⟩
  have e5 : gN (yrM M) 14 5 = gN M 14 5 := rfl
  refine ⟨a1, by rw [e4, e5]; omega, a3, a4, a5, fun r => ?_, a7, a8, a9⟩
  show zeF M 13 (gN M 7 6) r = 0 ∨ zeF M 13 (gN M 7 6) r = 1
  unfold zeF
  split
  · exact Or.inl rfl
  · exact a6 r
