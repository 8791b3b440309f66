theorem yr_o {A : Int → Int32} {i : Int} (h : ¬ (41 ≤ i ∧ i < 101 ∧ (i - 41) % 3 = 2)) (h2 : ¬ (11 ≤ i ∧ i < 41 ∧ (i - 11) % 3 = 1)) : aI (yrA A) i = aI (y0A A) i := by
  unfold yrA rA uA aI
  simp only []
  rw [if_neg (by omega), if_neg (by omega)]
theorem yr_r {A : Int → Int32} {p : Int} (h : 0 ≤ p ∧ p ≤ 19) : aI (yrA A) (41 + 3 * p + 2) = aI (y0A A) (41 + 3 * p + 1) := by
  unfold yrA rA uA aI
  simp only []
  rw [if_pos (by omega), if_neg (by omega), show 41 + 3 * p + 2 - 1 = 41 + 3 * p + 1 by omega]
theorem yr_u {A : Int → Int32} {c : Int} (h : 0 ≤ c ∧ c ≤ 9) : aI (yrA A) (11 + 3 * c + 1) = 0 := by
  unfold yrA rA uA aI
  simp only []
  rw [if_neg (by omega), if_pos (by omega)]
  rfl
theorem y0_o {A : Int → Int32} {i : Int} (h : i < 101) (h4 : ¬ i = 4) (h7 : ¬ i = 7) (h2 : ¬ i = 2) (h3 : ¬ i = 3) : aI (y0A A) i = aI A i := by
  unfold y0A
  rw [aI_n _ _ h3, aI_n _ _ h2, aI_n _ _ h7, aI_n _ _ h4, aI_so _ _ (by omega), aI_so _ _ (by omega)]
theorem y0_z {A : Int → Int32} {i : Int} (h : 101 ≤ i) (h1 : i < 461) : aI (y0A A) i = 0 := by
  unfold y0A
  rw [aI_n _ _ (by omega), aI_n _ _ (by omega), aI_n _ _ (by omega), aI_n _ _ (by omega), aI_so _ _ (by omega), aI_si _ _ (by omega)]
  rfl
theorem cnt_no {p : Int → Prop} : ∀ n : Nat, (∀ r : Int, 0 ≤ r → r < n → ¬ p r) → cntI p n = 0
  | 0, _ => rfl
  | n + 1, h => by
    have ih := cnt_no n (fun r r0 r1 => h r r0 (by omega))
    rw [show ((n + 1 : Nat) : Int) = (n : Int) + 1 by omega, cntI_f (by omega) (h n (by omega) (by omega)), ih]
theorem cntI_no {p : Int → Prop} {x : Int} (hx : 0 ≤ x) (h : ∀ r : Int, 0 ≤ r → r < x → ¬ p r) : cntI p x = 0 := by
  have e := cnt_no (p := p) x.toNat (fun r r0 r1 => h r r0 (by omega))
  rwa [Int.toNat_of_nonneg hx] at e
