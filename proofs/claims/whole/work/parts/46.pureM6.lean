theorem ctA_o {A : Int → Int32} {co pl x : Int} (hc : 0 ≤ co ∧ co ≤ 9) (hp : 0 ≤ pl ∧ pl ≤ 19) (h4 : 0 ≤ aI A 4) (hx1 : ¬ x = 11 + 3 * co + 1) (hx2 : ¬ x = 41 + 3 * pl + 0) (hx4 : ¬ x = 4) (hx5 : ¬ x = 5) (hx : x < 101) : aI (ctA A co pl) x = aI A x := by
  unfold ctA
  rw [aI_n _ _ hx5, aI_n _ _ hx4, aI_n _ _ (by omega), aI_n _ _ (by omega), aI_n _ _ (by omega), aI_n _ _ (by omega), aI_n _ _ (by omega), aI_n _ _ (by omega), aI_n _ _ hx2, aI_n _ _ hx1]
theorem ctA_pR {A : Int → Int32} {co pl : Int} (hc : 0 ≤ co ∧ co ≤ 9) (hp : 0 ≤ pl ∧ pl ≤ 19) (h4 : 0 ≤ aI A 4) : pRA (ctA A co pl) co pl ↔ pRA A co pl := by
  unfold pRA
  rw [ctA_o hc hp h4 (by omega) (by omega) (by omega) (by omega) (by omega)]
theorem rsA_0 {A : Int → Int32} {co pl : Int} (h : rsA A co pl 0) : ¬ aI A 4 = 60 ∧ ¬ aI A (41 + 3 * pl + 0) = 0 := by
  unfold rsA at h
  rcases h with ⟨h, -⟩ | ⟨-, ⟨h, -⟩ | ⟨h1, ⟨h, -⟩ | ⟨h2, -⟩⟩⟩
  · exact absurd h (by decide)
  · exact absurd h (by decide)
  · exact absurd h (by decide)
  · exact ⟨h2, h1⟩
theorem dpA_lo {A : Int → Int32} {x : Int} (hD : 1 ≤ aI A 7) (hx : x < 461) (h7 : ¬ x = 7) : aI (dpA A) x = aI A x := by
  unfold dpA
  rw [aI_so _ _ (by omega), aI_so _ _ (by omega), aI_n _ _ h7]
/-- the days used are none again; every right goes back to its owner -/
def uA (B : Int → Int32) (c : Int) : Int → Int32 := fun i => if 11 ≤ i ∧ i < 11 + 3 * c ∧ (i - 11) % 3 = 1 then iI 0 else B i
def rA (B : Int → Int32) (p : Int) : Int → Int32 := fun i => if 41 ≤ i ∧ i < 41 + 3 * p ∧ (i - 41) % 3 = 2 then B (i - 1) else B i
theorem uA_0 (B : Int → Int32) : uA B 0 = B := by
  funext i
  exact if_neg (by omega)
theorem rA_0 (B : Int → Int32) : rA B 0 = B := by
  funext i
  exact if_neg (by omega)
theorem uA_s (B : Int → Int32) {c : Int} (h : 0 ≤ c) : uA B (c + 1) = st (uA B c) (11 + 3 * c + 1) (iI 0) := by
  funext i
  show (if 11 ≤ i ∧ i < 11 + 3 * (c + 1) ∧ (i - 11) % 3 = 1 then iI 0 else B i) = if i = 11 + 3 * c + 1 then iI 0 else if 11 ≤ i ∧ i < 11 + 3 * c ∧ (i - 11) % 3 = 1 then iI 0 else B i
  by_cases q : i = 11 + 3 * c + 1
  · rw [if_pos q, if_pos (by omega)]
  · rw [if_neg q]
    by_cases q2 : 11 ≤ i ∧ i < 11 + 3 * c ∧ (i - 11) % 3 = 1
    · rw [if_pos q2, if_pos (by omega)]
    · rw [if_neg q2, if_neg (by omega)]
theorem rA_s (B : Int → Int32) {p : Int} (h : 0 ≤ p) : rA B (p + 1) = st (rA B p) (41 + 3 * p + 2) (B (41 + 3 * p + 1)) := by
  funext i
  show (if 41 ≤ i ∧ i < 41 + 3 * (p + 1) ∧ (i - 41) % 3 = 2 then B (i - 1) else B i) = if i = 41 + 3 * p + 2 then B (41 + 3 * p + 1) else if 41 ≤ i ∧ i < 41 + 3 * p ∧ (i - 41) % 3 = 2 then B (i - 1) else B i
  by_cases q : i = 41 + 3 * p + 2
  · rw [if_pos q, if_pos (by omega), show i - 1 = 41 + 3 * p + 1 by omega]
  · rw [if_neg q]
    by_cases q2 : 41 ≤ i ∧ i < 41 + 3 * p ∧ (i - 41) % 3 = 2
    · rw [if_pos q2, if_pos (by omega)]
    · rw [if_neg q2, if_neg (by omega)]
theorem rA_r (B : Int → Int32) (p q : Int) : rA B p (41 + 3 * q + 1) = B (41 + 3 * q + 1) := if_neg (by omega)
def y0A (A : Int → Int32) : Int → Int32 := st (st (st (st (selG (selG A (fun _ => iI 0) 101 461) (fun _ => iI 0) 461 (461 + 4 * aI A 7)) 4 (iI 0)) 7 (iI 0)) 2 (iI 0)) 3 (iI (aI A 3 + 1))
def yrA (A : Int → Int32) : Int → Int32 := rA (uA (y0A A) 10) 20
