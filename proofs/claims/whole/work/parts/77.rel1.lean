theorem n6_m0 : gN m0M 7 6 = 0 := rfl
theorem a0_d {c : Int} (h0 : 0 ≤ c) (h1 : c ≤ 9) : aI (p6A (d6A a0A 10) 20) (11 + 3 * c + 0) = 6 ∧ aI (p6A (d6A a0A 10) 20) (11 + 3 * c + 1) = 0 ∧ aI (p6A (d6A a0A 10) 20) (11 + 3 * c + 2) = 0 := by
  have e : ∀ i : Int, 11 ≤ i → i < 41 → ¬ (i - 11) % 3 = 0 → aI (p6A (d6A a0A 10) 20) i = 0 := by
    intro i i0 i1 i2
    have e : aI (p6A (d6A a0A 10) 20) i = aI a0A i := by
      unfold p6A d6A aI
      simp only []
      rw [if_neg (by omega), if_neg (by omega)]
    rw [e]
    exact a0_z (by omega) (by omega)
  refine ⟨?_, e _ (by omega) (by omega) (by omega), e _ (by omega) (by omega) (by omega)⟩
  unfold p6A d6A aI
  simp only []
  rw [if_neg (by omega), if_pos (by omega)]
  rfl
theorem a0_p {p : Int} (h0 : 0 ≤ p) (h1 : p ≤ 19) : aI (p6A (d6A a0A 10) 20) (41 + 3 * p + 0) = 6 ∧ aI (p6A (d6A a0A 10) 20) (41 + 3 * p + 1) = p / 2 ∧ aI (p6A (d6A a0A 10) 20) (41 + 3 * p + 2) = p / 2 := by
  refine ⟨?_, ?_, ?_⟩
  · unfold p6A aI
    simp only []
    rw [if_pos (by omega), if_pos (by omega)]
    rfl
  · unfold p6A aI
    simp only []
    rw [if_pos (by omega), if_neg (by omega), show (41 + 3 * p + 1 - 41) / 3 = p by omega, iI_t ⟨by omega, by omega⟩]
  · unfold p6A aI
    simp only []
    rw [if_pos (by omega), if_neg (by omega), show (41 + 3 * p + 2 - 41) / 3 = p by omega, iI_t ⟨by omega, by omega⟩]
