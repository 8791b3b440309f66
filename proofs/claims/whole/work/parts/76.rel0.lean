theorem wf_m0 : wf m0M := by
  refine ⟨by decide, by decide, fun _ => (show (0 : Int) ≤ 0 ∧ (0 : Int) ≤ 60 by decide), fun _ => Or.inl rfl, fun _ => Or.inl rfl, fun _ => Or.inl rfl, by decide, by decide, by decide⟩
theorem n8_m0 : gN m0M 0 8 = 3 := rfl
theorem a0_lo {i : Int} (h : i < 11) : aI (p6A (d6A a0A 10) 20) i = aI a0A i := by
  unfold p6A d6A aI
  simp only []
  rw [if_neg (by omega), if_neg (by omega)]
theorem a0_z {i : Int} (h0 : ¬ i = 0) (h10 : ¬ i = 10) : aI a0A i = 0 := by
  unfold a0A
  rw [aI_n _ _ h10, aI_n _ _ h0]
  rfl
theorem a0_hi {i : Int} (h : 101 ≤ i) : aI (p6A (d6A a0A 10) 20) i = 0 := by
  have e : aI (p6A (d6A a0A 10) 20) i = aI a0A i := by
    unfold p6A d6A aI
    simp only []
    rw [if_neg (by omega), if_neg (by omega)]
  rw [e]
  exact a0_z (by omega) (by omega)
