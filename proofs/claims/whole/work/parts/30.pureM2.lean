theorem nxA_le (A : Int → Int32) (co : Int) (h : 0 ≤ aI A 4) : nxA A co = -5 ∨ (0 ≤ nxA A co ∧ nxA A co < aI A 4) := bspI_le A co h
theorem t1A_lo {A : Int → Int32} {co : Int} (hc : 0 ≤ co ∧ co ≤ 9) (h4 : 0 ≤ aI A 4) (hn : ¬ nxA A co = -5) {i : Int} (h : i < 101) (hi : ¬ i = 4) (hi2 : ¬ i = 11 + 3 * co + 2) : aI (t1A A co) i = aI A i := by
  have hx := (nxA_le A co h4).resolve_left hn
  unfold t1A
  have e4 : ∀ v, aI (st A (11 + 3 * co + 2) v) 4 = aI A 4 := fun v => aI_n _ _ (by omega)
  rw [lvA_lo _ hx.1 (by rw [e4]; exact hx.2) h hi, aI_n _ _ hi2]
theorem t1A_4 {A : Int → Int32} {co : Int} (hc : 0 ≤ co ∧ co ≤ 9) (h4 : 0 ≤ aI A 4 ∧ aI A 4 ≤ 60) (hn : ¬ nxA A co = -5) : aI (t1A A co) 4 = aI A 4 - 1 := by
  have hx := (nxA_le A co h4.1).resolve_left hn
  unfold t1A
  have e4 : ∀ v, aI (st A (11 + 3 * co + 2) v) 4 = aI A 4 := fun v => aI_n _ _ (by omega)
  rw [lvA_4 _ hx.1 (by rw [e4]; exact hx.2) (by rw [e4]; exact h4.2), e4]
theorem wA_t1 {A : Int → Int32} {co : Int} (hc : 0 ≤ co ∧ co ≤ 9) (h : wA A) (hn : ¬ nxA A co = -5) : wA (t1A A co) := by
  obtain ⟨a1, a2, a3, a4⟩ := h
  have hx := (nxA_le A co a1.1).resolve_left hn
  refine ⟨?_, ?_, ?_, ?_⟩
  · rw [t1A_4 hc a1 hn]; omega
  · unfold t1A
    have e4 : ∀ v, aI (st A (11 + 3 * co + 2) v) 4 = aI A 4 := fun v => aI_n _ _ (by omega)
    refine wr_lvA (wr_st a2 _ ?_) hx.1 (by rw [e4]; exact hx.2) (by rw [e4]; exact a1.2)
    rintro ⟨p, p0, p1, p2⟩
    omega
  · rw [t1A_lo hc a1.1 hn (by decide) (by decide) (by omega), t1A_lo hc a1.1 hn (by decide) (by decide) (by omega)]; exact a3
  · rw [t1A_lo hc a1.1 hn (by decide) (by decide) (by omega)]; exact a4
theorem wA_tk {A : Int → Int32} {co : Int} (hc : 0 ≤ co ∧ co ≤ 9) (h : wA A) : ∀ n : Nat, wA (tkA A co n)
  | 0 => h
  | n + 1 => by
    rw [tkA_s]
    split
    · exact wA_tk hc h n
    · next hq => exact wA_t1 hc (wA_tk hc h n) hq
theorem tkA_lo {A : Int → Int32} {co : Int} (hc : 0 ≤ co ∧ co ≤ 9) (h : wA A) {i : Int} (hi1 : i < 101) (hi : ¬ i = 4) (hi2 : ¬ i = 11 + 3 * co + 2) : ∀ n : Nat, aI (tkA A co n) i = aI A i
  | 0 => rfl
  | n + 1 => by
    rw [tkA_s]
    split
    · exact tkA_lo hc h hi1 hi hi2 n
    · next hq => rw [t1A_lo hc (wA_tk hc h n).1.1 hq hi1 hi hi2]; exact tkA_lo hc h hi1 hi hi2 n
theorem srv_exit {A : Int → Int32} {co x : Int} (h0 : 0 ≤ x) (h1 : x ≤ aI A 0) (hc : cnT A co x.toNat = x) (h : x = aI A 0 ∨ nxA (tkA A co x.toNat) co = -5) : tkA A co (aI A 0).toNat = tkA A co x.toNat ∧ cnT A co (aI A 0).toNat = x := by
  rcases h with h | h
  · rw [← h]; exact ⟨rfl, hc⟩
  · have e := tkA_stop h ((aI A 0).toNat - x.toNat)
    rw [show x.toNat + ((aI A 0).toNat - x.toNat) = (aI A 0).toNat by omega] at e
    exact ⟨e.1, e.2.trans hc⟩
theorem cnT_le (A : Int → Int32) (co : Int) : ∀ n : Nat, 0 ≤ cnT A co n ∧ cnT A co n ≤ n
  | 0 => ⟨Int.le_refl _, Int.le_refl _⟩
  | n + 1 => by
    have h := cnT_le A co n
    rw [cnT_s]
    split <;> omega
theorem wA_st {A : Int → Int32} (h : wA A) {i : Int} (v : Int32) (h4 : ¬ i = 4) (h9 : ¬ i = 9) (h10 : ¬ i = 10) (h0 : ¬ i = 0) (hi : i < 101) : wA (st A i v) := by
  obtain ⟨a1, a2, a3, a4⟩ := h
  refine ⟨by rw [aI_n _ _ (Ne.symm h4)]; exact a1, wr_st a2 _ ?_, by rw [aI_n _ _ (Ne.symm h9), aI_n _ _ (Ne.symm h10)]; exact a3, by rw [aI_n _ _ (Ne.symm h0)]; exact a4⟩
  rintro ⟨p, p0, p1, p2⟩
  omega
theorem wA_wth {A : Int → Int32} (wt x : Int) (h : wA A) : wA (wthX A wt x) := by
  obtain ⟨a1, a2, a3, a4⟩ := h
  exact ⟨by rw [wthX_lo _ _ _ (by decide)]; exact a1, wr_wthX wt x a2, by rw [wthX_lo _ _ _ (by decide), wthX_lo _ _ _ (by decide)]; exact a3, by rw [wthX_lo _ _ _ (by decide)]; exact a4⟩
theorem wA_co {A : Int → Int32} (h : wA A) {q : Int} (hq : 0 ≤ q ∧ q ≤ 1) : 0 ≤ aI A (9 + q) ∧ aI A (9 + q) ≤ 9 := by
  have h3 := h.2.2.1
  rcases (show q = 0 ∨ q = 1 by omega) with rfl | rfl
  · exact h3.1
  · exact h3.2
theorem wA_srv {A : Int → Int32} (h : wA A) {q : Int} (hq : 0 ≤ q ∧ q ≤ 1) : wA (srvA A q) := by
  have hc := wA_co h hq
  have hk := wA_tk hc h (aI A 0).toNat
  obtain ⟨a1, a2, a3, a4⟩ := hk
  have hw2 : wA (st (tkA A (aI A (9 + q)) (aI A 0).toNat) (9 + q) (iI ((aI A (9 + q) + 1) % 10))) := by
    have ev : (iI ((aI A (9 + q) + 1) % 10)).toInt = (aI A (9 + q) + 1) % 10 := iI_t ⟨by omega, by omega⟩
    refine ⟨by rw [aI_n _ _ (by omega)]; exact a1, wr_st a2 _ ?_, ?_, by rw [aI_n _ _ (by omega)]; exact a4⟩
    · rintro ⟨p, p0, p1, p2⟩
      omega
    · rw [st_aI, st_aI, ev]
      constructor
      · split
        · omega
        · exact a3.1
      · split
        · omega
        · exact a3.2
  unfold srvA
  exact wA_st hw2 _ (by decide) (by decide) (by decide) (by decide) (by decide)
theorem wA_ps {A : Int → Int32} (wt : Int) (h : wA A) : wA (psA A wt) := by
  unfold psA
  exact wA_st (wA_srv (wA_srv (wA_wth wt _ h) ⟨by decide, by decide⟩) ⟨by decide, by decide⟩) _ (by decide) (by decide) (by decide) (by decide) (by decide)
theorem psN_le (A : Int → Int32) (wt : Int) (h : wA A) : 0 ≤ psN A wt ∧ psN A wt ≤ 12 := by
  have h1 := wA_wth wt (aI A 4) h
  have h2 := wA_srv h1 (q := 0) ⟨by decide, by decide⟩
  have k1 := cnT_le (wthX A wt (aI A 4)) (aI (wthX A wt (aI A 4)) (9 + 0)) (aI (wthX A wt (aI A 4)) 0).toNat
  have k2 := cnT_le (srvA (wthX A wt (aI A 4)) 0) (aI (srvA (wthX A wt (aI A 4)) 0) (9 + 1)) (aI (srvA (wthX A wt (aI A 4)) 0) 0).toNat
  have b1 := h1.2.2.2
  have b2 := h2.2.2.2
  unfold psN srvN
  omega
theorem drr_le {v t : Int} (h : 0 ≤ t ∧ t ≤ 1) : -4 ≤ drr v t ∧ drr v t ≤ 8 := by
  unfold drr
  split
  · omega
  · split <;> omega
