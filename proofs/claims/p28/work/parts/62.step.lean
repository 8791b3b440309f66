/-! one act as a function of the state, the kept state and the two numbers -/
theorem rsn_in {M : gM} {co pl z : Int} (h : rsn M co pl z) : 0 ≤ z ∧ z ≤ 4 := by
  unfold rsn at h
  rcases h with ⟨e, -⟩ | ⟨e, -, -⟩ | ⟨-, -, -, ⟨e, -⟩ | ⟨-, ⟨e, -⟩ | ⟨e, -⟩⟩⟩ <;> omega
theorem rsn_0 {M : gM} {co pl : Int} (h : rsn M co pl 0) : pD M co ∧ 0 < gA M 1 pl ∧ ∀ z, rsn M co pl z → z = 0 := by
  unfold rsn at h
  rcases h with ⟨e, -⟩ | ⟨e, -, -⟩ | ⟨h1, h2, h3, ⟨e, -⟩ | ⟨h4, ⟨-, h5⟩ | ⟨e, -⟩⟩⟩
  · omega
  · omega
  · omega
  · refine ⟨h1, h3, fun z hz => ?_⟩
    unfold rsn at hz
    rcases hz with ⟨-, k⟩ | ⟨-, -, k⟩ | ⟨-, -, -, ⟨-, k⟩ | ⟨-, ⟨e, -⟩ | ⟨-, k1, k2, k3⟩⟩⟩
    · exact absurd h1 k
    · rcases k with k | k
      · exact absurd h2 k
      · omega
    · omega
    · exact e
    · rcases h5 with k | k | k
      · exact absurd k k1
      · exact absurd k k2
      · exact absurd k k3
  · omega
def lendF (M : gM) (pl co : Int) : Int × gM := if (0 ≤ pl ∧ pl ≤ 19) ∧ (0 ≤ co ∧ co ≤ 9) then (if gA M 3 pl = co then (-5, M) else (gA M 3 pl, sA M 3 pl (iI co))) else (-1, M)
def handF (M : gM) (pl co : Int) : Int × gM := if (0 ≤ pl ∧ pl ≤ 19) ∧ (0 ≤ co ∧ co ≤ 9) then (if gA M 2 pl = co then (-5, M) else (gA M 2 pl, sA (sA M 2 pl (iI co)) 3 pl (iI co))) else (-1, M)
def sdayF (M : gM) (co dy : Int) : Int × gM := if 0 ≤ co ∧ co ≤ 9 then (if 0 ≤ dy ∧ dy ≤ 20 then (if gA M 4 co = dy then (-5, M) else (gA M 4 co, sA M 4 co (iI dy))) else (-2, M)) else (-1, M)
def setF (M : gM) (q x : Int) : Int × gM := if q = 0 ∧ 1 ≤ x ∧ x ≤ 6 then (if gN M 0 8 = x then (-5, M) else (gN M 0 8, sS M 0 8 (iI x))) else if q = 1 ∧ 0 ≤ x ∧ x ≤ 1 then (if gN M 0 9 = x then (-5, M) else (gN M 0 9, sS M 0 9 (iI x))) else (-2, M)
noncomputable def cutF (M : gM) (co pl : Int) : Int × gM := if (0 ≤ co ∧ co ≤ 9) ∧ (0 ≤ pl ∧ pl ≤ 19) then @ite _ (rsn M co pl 0 ∧ gN M 7 6 < 120) (Classical.propDecidable _) (gN M 7 6, takM M co pl) (-4, M) else (-1, M)
noncomputable def turnF (M : gM) (r : Int) : Int × gM := @ite _ (lyi M r) (Classical.propDecidable _) (if gA M 12 r = 0 then (if gA M 11 r = 0 then (gA M 10 r, sA M 11 r (iI 1)) else (-5, M)) else (-4, M)) (-1, M)
noncomputable def stackF (M : gM) (r : Int) : Int × gM := @ite _ (lyi M r) (Classical.propDecidable _) (@ite _ (pDr M r) (Classical.propDecidable _) (if gA M 12 r = 0 then (cntI (pSO (sA M 12 r (iI 1)) (gA M 8 r)) (gN M 7 6), sA M 12 r (iI 1)) else (-5, M)) (-4, M)) (-1, M)
noncomputable def stlF (M : gM) : Int × gM := if gN M 14 5 - gN M 14 4 = 0 then (-5, M) else (stlZ M, stlM M)
noncomputable def yrF (M : gM) : Int × gM := (cntI (pLy M) (gN M 7 6), yrM M)
noncomputable def resF (K : gM) : Int × gM := (cntI (pLy K) (gN K 7 6), K)
noncomputable def passF (M : gM) (v : Int) : Int × gM := if 0 ≤ v ∧ v ≤ 2 then (gN (dyX M v 1) 0 13 - gN M 0 13, dyX M v 1) else (-2, M)
noncomputable def paF (M : gM) (wt n : Int) : Int × gM := (n, dyX M wt n)
def ltF (u : Int) : Int := if land u 3 = 0 then 114 else if land u 3 = 1 then 99 else 115
noncomputable def actF (M K : gM) (v u : Int) : Int × gM :=
  if land v 15 = 0 then (if land u 1 = 0 then lendF M (lowF (shr v 4) 21) (lowF (shr u 1) 10) else handF M (lowF (shr v 4) 21) (lowF (shr u 1) 10))
  else if land v 15 = 1 then (if land u 1 = 0 then sdayF M (whoF v) (lowF (shr u 1) 22) else setF M (lowF (shr u 1) 3) (lowF (shr u 3) 8))
  else if land v 15 = 2 ∨ land v 15 = 3 ∨ land v 15 = 4 then cutF M (whoF v) (2 * whoF v + lowF u 4 - 1)
  else if land v 15 = 5 ∨ land v 15 = 6 then turnF M (rowA M v)
  else if land v 15 = 7 ∨ land v 15 = 8 then stackF M (rowA M v)
  else if land v 15 = 9 then stlF M
  else if land v 15 = 10 then (if land u 3 = 0 then yrF M else resF K)
  else if land v 15 = 11 then paF M (wOf (ltF u)) (2 + lowF (shr u 2) 8)
  else passF M (lowF u 4)
/-! each keeps the invariant -/
theorem i_lend {M : gM} (h : Inv M) (pl co : Int) : Inv (lendF M pl co).2 := by
  unfold lendF
  split
  · next q =>
    split
    · exact h
    · exact Inv_sP h (Or.inr rfl) pl q.2
  · exact h
theorem i_hand {M : gM} (h : Inv M) (pl co : Int) : Inv (handF M pl co).2 := by
  unfold handF
  split
  · next q =>
    split
    · exact h
    · exact Inv_sP (Inv_sP h (Or.inl rfl) pl q.2) (Or.inr rfl) pl q.2
  · exact h
theorem i_sday {M : gM} (h : Inv M) (co dy : Int) : Inv (sdayF M co dy).2 := by
  unfold sdayF
  split
  · split
    · next q =>
      split
      · exact h
      · exact Inv_sC h (Or.inl rfl) co q
    · exact h
  · exact h
theorem i_set {M : gM} (h : Inv M) (q x : Int) : Inv (setF M q x).2 := by
  unfold setF
  split
  · next t =>
    split
    · exact h
    · exact Inv_s8 h t.2
  · split
    · next t =>
      split
      · exact h
      · exact Inv_s9 h t.2
    · exact h
theorem i_cut {M : gM} (h : Inv M) (co pl : Int) : Inv (cutF M co pl).2 := by
  unfold cutF
  split
  · next q =>
    by_cases t : rsn M co pl 0 ∧ gN M 7 6 < 120
    · rw [@if_pos _ (Classical.propDecidable _) t]
      exact Inv_tak h q.1 q.2 (rsn_0 t.1).1 (rsn_0 t.1).2.1 t.2
    · rw [@if_neg _ (Classical.propDecidable _) t]; exact h
  · exact h
theorem i_turn {M : gM} (h : Inv M) (r : Int) : Inv (turnF M r).2 := by
  unfold turnF
  by_cases t : lyi M r
  · rw [@if_pos _ (Classical.propDecidable _) t]
    split
    · split
      · exact Inv_tu h r
      · exact h
    · exact h
  · rw [@if_neg _ (Classical.propDecidable _) t]; exact h
theorem i_stack {M : gM} (h : Inv M) (r : Int) : Inv (stackF M r).2 := by
  unfold stackF
  by_cases t : lyi M r
  · rw [@if_pos _ (Classical.propDecidable _) t]
    by_cases d : pDr M r
    · rw [@if_pos _ (Classical.propDecidable _) d]
      split
      · exact Inv_st h d
      · exact h
    · rw [@if_neg _ (Classical.propDecidable _) d]; exact h
  · rw [@if_neg _ (Classical.propDecidable _) t]; exact h
theorem i_stl {M : gM} (h : Inv M) : Inv (stlF M).2 := by
  unfold stlF
  split
  · exact h
  · have := h.1.2.1
    exact Inv_stl h (by omega)
theorem i_pass {M : gM} (h : Inv M) (v : Int) : Inv (passF M v).2 := by
  unfold passF
  split
  · exact (Inv_dyX h v 1).1
  · exact h
theorem act_i {M K : gM} (h : Inv M) (hK : Inv K) (v u : Int) : Inv (actF M K v u).2 := by
  unfold actF
  split
  · split
    · exact i_lend h _ _
    · exact i_hand h _ _
  · split
    · split
      · exact i_sday h _ _
      · exact i_set h _ _
    · split
      · exact i_cut h _ _
      · split
        · exact i_turn h _
        · split
          · exact i_stack h _
          · split
            · exact i_stl h
            · split
              · split
                · exact Inv_yr h
                · exact hK
              · split
                · exact (Inv_dyX h _ _).1
                · exact i_pass h _
/-! what a call does, as such a function says it -/
def stp (w : gW) (b0 b1 b2 b3 : Nat) (F : Int × gM) (z : Int) (w1 : gW) : Prop := iI z = iI F.1 ∧ (0 ≤ gN (w1 9) 0 1 ∧ gN (w1 9) 0 1 ≤ 60) ∧ ((z < 0 ∧ F.2 = w 1 ∧ ∀ j, ¬ j = 9 → w1 j = w j) ∨ (0 ≤ z ∧ ∀ j, ¬ j = 9 → w1 j = up (recW w b0 b1 b2 b3) 1 F.2 j))
theorem stp_n {w w1 : gW} {b0 b1 b2 b3 : Nat} {F : Int × gM} {z : Int} (hO : okW w b0 b1 b2 b3) (hz : z < 0) (e : w1 = w) (hF : F = (z, w 1)) : stp w b0 b1 b2 b3 F z w1 := by
  rw [hF, e]
  exact ⟨rfl, hO.2.2.2.2, Or.inl ⟨hz, rfl, fun _ _ => rfl⟩⟩
theorem rec_9 {w : gW} {b0 b1 b2 b3 : Nat} (hO : okW w b0 b1 b2 b3) (N : gM) : up (recW w b0 b1 b2 b3) 1 N 9 = w 9 := by
  obtain ⟨⟨-, -, -, p7, -⟩, -⟩ := hO
  show (if (9 : Nat) = b3 then w 1 else w 9) = w 9
  rw [if_neg (by omega)]
theorem stp_y {w w1 : gW} {b0 b1 b2 b3 : Nat} {F : Int × gM} {z : Int} (hO : okW w b0 b1 b2 b3) (hz : 0 ≤ z) (h1 : iI z = iI F.1) (e : w1 = up (recW w b0 b1 b2 b3) 1 F.2) : stp w b0 b1 b2 b3 F z w1 := by
  rw [e]
  exact ⟨h1, by rw [rec_9 hO]; exact hO.2.2.2.2, Or.inr ⟨hz, fun _ _ => rfl⟩⟩
theorem s_lend {w w1 : gW} {b0 b1 b2 b3 : Nat} {pl co z : Int} (hO : okW w b0 b1 b2 b3) (hI : Inv (w 1)) (h : po_X5_lend w b0 b1 b2 b3 pl co z w1) : stp w b0 b1 b2 b3 (lendF (w 1) pl co) z w1 := by
  rcases h with ⟨c, e, ew⟩ | ⟨c1, c2, c3, e, ew⟩ | ⟨c1, c2, c3, e, ew⟩
  · exact stp_n hO (by omega) ew (by unfold lendF; rw [if_neg c, e])
  · exact stp_n hO (by omega) ew (by unfold lendF; rw [if_pos ⟨c1, c2⟩, if_pos c3, e])
  · have q := hI.2.2.2.1 pl c1.1 c1.2
    have f : lendF (w 1) pl co = (gA (w 1) 3 pl, sA (w 1) 3 pl (iI co)) := by unfold lendF; rw [if_pos ⟨c1, c2⟩, if_neg c3]
    rw [f]
    exact stp_y hO (by omega) (by rw [e]) ew
theorem s_hand {w w1 : gW} {b0 b1 b2 b3 : Nat} {pl co z : Int} (hO : okW w b0 b1 b2 b3) (hI : Inv (w 1)) (h : po_X5_handOver w b0 b1 b2 b3 pl co z w1) : stp w b0 b1 b2 b3 (handF (w 1) pl co) z w1 := by
  rcases h with ⟨c, e, ew⟩ | ⟨c1, c2, c3, e, ew⟩ | ⟨c1, c2, c3, e, ew⟩
  · exact stp_n hO (by omega) ew (by unfold handF; rw [if_neg c, e])
  · exact stp_n hO (by omega) ew (by unfold handF; rw [if_pos ⟨c1, c2⟩, if_pos c3, e])
  · have q := hI.2.2.2.1 pl c1.1 c1.2
    have f : handF (w 1) pl co = (gA (w 1) 2 pl, sA (sA (w 1) 2 pl (iI co)) 3 pl (iI co)) := by unfold handF; rw [if_pos ⟨c1, c2⟩, if_neg c3]
    rw [f]
    exact stp_y hO (by omega) (by rw [e]) ew
theorem s_sday {w w1 : gW} {b0 b1 b2 b3 : Nat} {co dy z : Int} (hO : okW w b0 b1 b2 b3) (hI : Inv (w 1)) (h : po_X5_setDays w b0 b1 b2 b3 co dy z w1) : stp w b0 b1 b2 b3 (sdayF (w 1) co dy) z w1 := by
  rcases h with ⟨c, e, ew⟩ | ⟨c1, c2, e, ew⟩ | ⟨c1, c2, c3, e, ew⟩ | ⟨c1, c2, c3, e, ew⟩
  · exact stp_n hO (by omega) ew (by unfold sdayF; rw [if_neg c, e])
  · exact stp_n hO (by omega) ew (by unfold sdayF; rw [if_pos c1, if_neg c2, e])
  · exact stp_n hO (by omega) ew (by unfold sdayF; rw [if_pos c1, if_pos c2, if_pos c3, e])
  · have q := hI.2.2.2.2.1 co c1.1 c1.2
    have f : sdayF (w 1) co dy = (gA (w 1) 4 co, sA (w 1) 4 co (iI dy)) := by unfold sdayF; rw [if_pos c1, if_pos c2, if_neg c3]
    rw [f]
    exact stp_y hO (by omega) (by rw [e]) ew
theorem s_set {w w1 : gW} {b0 b1 b2 b3 : Nat} {q x z : Int} (hO : okW w b0 b1 b2 b3) (hI : Inv (w 1)) (h : po_X5_set w b0 b1 b2 b3 q x z w1) : stp w b0 b1 b2 b3 (setF (w 1) q x) z w1 := by
  have s8 := hI.1.2.2.2.2.2.2.2.1
  have s9 := hI.2.2.2.2.2.2.2.2.2.2
  rcases h with ⟨c, e, ew⟩ | ⟨c, c3, e, ew⟩ | ⟨c, c3, e, ew⟩ | ⟨c, c3, e, ew⟩ | ⟨c, c3, e, ew⟩
  · exact stp_n hO (by omega) ew (by unfold setF; rw [if_neg (fun t => c (Or.inl t)), if_neg (fun t => c (Or.inr t)), e])
  · exact stp_n hO (by omega) ew (by unfold setF; rw [if_pos c, if_pos c3, e])
  · exact stp_n hO (by omega) ew (by unfold setF; rw [if_neg (by omega), if_pos c, if_pos c3, e])
  · have f : setF (w 1) q x = (gN (w 1) 0 8, sS (w 1) 0 8 (iI x)) := by unfold setF; rw [if_pos c, if_neg c3]
    rw [f]
    exact stp_y hO (by omega) (by rw [e]) ew
  · have f : setF (w 1) q x = (gN (w 1) 0 9, sS (w 1) 0 9 (iI x)) := by unfold setF; rw [if_neg (by omega), if_pos c, if_neg c3]
    rw [f]
    exact stp_y hO (by omega) (by rw [e]) ew
theorem s_cut {w w1 : gW} {b0 b1 b2 b3 : Nat} {co pl z : Int} (hO : okW w b0 b1 b2 b3) (hI : Inv (w 1)) (h : po_X5_cut w b0 b1 b2 b3 co pl z w1) : stp w b0 b1 b2 b3 (cutF (w 1) co pl) z w1 := by
  have n0 := hI.1.1.1
  rcases h with ⟨c, e, ew⟩ | ⟨c1, c2, ⟨q, q1, q2⟩, e, ew⟩ | ⟨c1, c2, c3, c4, e, ew⟩ | ⟨c1, c2, c3, c4, e, ew⟩
  · exact stp_n hO (by omega) ew (by unfold cutF; rw [if_neg c, e])
  · exact stp_n hO (by omega) ew (by unfold cutF; rw [if_pos ⟨c1, c2⟩, @if_neg _ (Classical.propDecidable _) (fun t => q2 ((rsn_0 t.1).2.2 q q1)), e])
  · exact stp_n hO (by omega) ew (by unfold cutF; rw [if_pos ⟨c1, c2⟩, @if_neg _ (Classical.propDecidable _) (fun t => c4 t.2), e])
  · have f : cutF (w 1) co pl = (gN (w 1) 7 6, takM (w 1) co pl) := by unfold cutF; rw [if_pos ⟨c1, c2⟩, @if_pos _ (Classical.propDecidable _) ⟨c3, c4⟩]
    rw [f]
    exact stp_y hO (by omega) (by rw [e]) ew
theorem s_turn {w w1 : gW} {b0 b1 b2 b3 : Nat} {r z : Int} (hO : okW w b0 b1 b2 b3) (hI : Inv (w 1)) (h : po_X5_turn w b0 b1 b2 b3 r z w1) : stp w b0 b1 b2 b3 (turnF (w 1) r) z w1 := by
  have hw := hI.1.2.2.1 r
  rcases h with ⟨c, e, ew⟩ | ⟨c1, c2, e, ew⟩ | ⟨c1, c2, c3, e, ew⟩ | ⟨c1, c2, c3, e, ew⟩
  · exact stp_n hO (by omega) ew (by unfold turnF; rw [@if_neg _ (Classical.propDecidable _) c, e])
  · exact stp_n hO (by omega) ew (by unfold turnF; rw [@if_pos _ (Classical.propDecidable _) c1, if_neg c2, e])
  · exact stp_n hO (by omega) ew (by unfold turnF; rw [@if_pos _ (Classical.propDecidable _) c1, if_pos c2, if_neg c3, e])
  · have f : turnF (w 1) r = (gA (w 1) 10 r, sA (w 1) 11 r (iI 1)) := by unfold turnF; rw [@if_pos _ (Classical.propDecidable _) c1, if_pos c2, if_pos c3]
    rw [f]
    exact stp_y hO (by omega) (by rw [e]) ew
theorem s_stack {w w1 : gW} {b0 b1 b2 b3 : Nat} {r z : Int} (hO : okW w b0 b1 b2 b3) (hI : Inv (w 1)) (h : po_X5_stack w b0 b1 b2 b3 r z w1) : stp w b0 b1 b2 b3 (stackF (w 1) r) z w1 := by
  have hc := (cntI_le (pSO (sA (w 1) 12 r (iI 1)) (gA (w 1) 8 r)) hI.1.1.1).1
  rcases h with ⟨c, e, ew⟩ | ⟨c1, c2, e, ew⟩ | ⟨c1, c2, c3, e, ew⟩ | ⟨c1, c2, c3, e, ew⟩
  · exact stp_n hO (by omega) ew (by unfold stackF; rw [@if_neg _ (Classical.propDecidable _) c, e])
  · exact stp_n hO (by omega) ew (by unfold stackF; rw [@if_pos _ (Classical.propDecidable _) c1, @if_neg _ (Classical.propDecidable _) c2, e])
  · exact stp_n hO (by omega) ew (by unfold stackF; rw [@if_pos _ (Classical.propDecidable _) c1, @if_pos _ (Classical.propDecidable _) c2, if_neg c3, e])
  · have f : stackF (w 1) r = (cntI (pSO (sA (w 1) 12 r (iI 1)) (gA (w 1) 8 r)) (gN (w 1) 7 6), sA (w 1) 12 r (iI 1)) := by unfold stackF; rw [@if_pos _ (Classical.propDecidable _) c1, @if_pos _ (Classical.propDecidable _) c2, if_pos c3]
    rw [f]
    exact stp_y hO (by omega) (by rw [e]) ew
theorem s_stl {w w1 : gW} {b0 b1 b2 b3 : Nat} {z : Int} (hO : okW w b0 b1 b2 b3) (hI : Inv (w 1)) (h : po_X5_settle w b0 b1 b2 b3 z w1) : stp w b0 b1 b2 b3 (stlF (w 1)) z w1 := by
  have hd := hI.1.2.1
  rcases h with ⟨c, e, ew⟩ | ⟨c, e, ew⟩
  · exact stp_n hO (by omega) ew (by unfold stlF; rw [if_pos c, e])
  · have f : stlF (w 1) = (stlZ (w 1), stlM (w 1)) := by unfold stlF; rw [if_neg c]
    have q := hI.2.2.2.2.2.2.2.2.1 (gN (w 1) 14 4) (Int.le_refl _) (by omega)
    have zz : 0 ≤ stlZ (w 1) := by
      unfold stlZ
      split
      · omega
      · exact q.2.1.1
    rw [f]
    exact stp_y hO (by omega) (by rw [e]) ew
theorem s_yr {w w1 : gW} {b0 b1 b2 b3 : Nat} {z : Int} (hO : okW w b0 b1 b2 b3) (hI : Inv (w 1)) (h : po_X5_endYear w b0 b1 b2 b3 z w1) : stp w b0 b1 b2 b3 (yrF (w 1)) z w1 := by
  obtain ⟨-, e, ew⟩ := h
  have hc := (cntI_le (pLy (w 1)) hI.1.1.1).1
  exact stp_y hO (by omega) (by rw [e]; rfl) ew
theorem s_res {w w1 : gW} {b0 b1 b2 b3 : Nat} {z : Int} (hO : okW w b0 b1 b2 b3) (hk : ¬ gN (w 0) 0 5 = 0) (hK : Inv (w 2)) (h : po_X5_restore w b0 b1 b2 b3 z w1) : stp w b0 b1 b2 b3 (resF (w 2)) z w1 := by
  rcases h with ⟨c, -, -⟩ | ⟨-, e, ew⟩
  · exact absurd c hk
  · have hc := (cntI_le (pLy (w 2)) hK.1.1.1).1
    exact stp_y hO (by omega) (by rw [e]; rfl) ew
theorem s_pass {w w1 : gW} {b0 b1 b2 b3 : Nat} {v z : Int} (hO : okW w b0 b1 b2 b3) (hI : Inv (w 1)) (rz : inR z) (h : po_X5_pass w b0 b1 b2 b3 v z w1) : stp w b0 b1 b2 b3 (passF (w 1) v) z w1 := by
  rcases h with ⟨c, e, ew⟩ | ⟨c, e, ew⟩
  · exact stp_n hO (by omega) ew (by unfold passF; rw [if_neg c, e])
  · have f : passF (w 1) v = (gN (dyX (w 1) v 1) 0 13 - gN (w 1) 0 13, dyX (w 1) v 1) := by unfold passF; rw [if_pos c]
    have d := Inv_dyX hI v 1
    have d1 := Inv_home d.1
    have d2 := Inv_home hI
    have ez := (iI_eq rz ⟨by omega, by omega⟩).1 e
    rw [f]
    exact stp_y hO (by omega) e ew
