/-! a text of one letter and one digit is read -/
theorem ch_at {M : gM} {a b : Int} (ha : 0 ≤ a ∧ a ≤ 65535) (hb : 0 ≤ b ∧ b ≤ 65535) (h0 : gN M 0 1 = 0) : gN (appM (appM M a) b) 0 1 = 2 ∧ gA (appM (appM M a) b) 1 0 = a ∧ gA (appM (appM M a) b) 1 1 = b := by
  have e1 : gN (appM M a) 0 1 = 1 := by
    show (iI (gN M 0 1 + 1)).toInt = 1
    rw [h0]; rfl
  have va : (iI a).toInt = a := iI_t ⟨by omega, by omega⟩
  have vb : (iI b).toInt = b := iI_t ⟨by omega, by omega⟩
  refine ⟨?_, ?_, ?_⟩
  · show (iI (gN (appM M a) 0 1 + 1)).toInt = 2
    rw [e1]; rfl
  · show gA (sA (appM M a) 1 (gN (appM M a) 0 1) (iI b)) 1 0 = a
    rw [gA_at, e1, if_neg (by decide)]
    show gA (sA M 1 (gN M 0 1) (iI a)) 1 0 = a
    rw [gA_at, h0, if_pos rfl, va]
  · show gA (sA (appM M a) 1 (gN (appM M a) 0 1) (iI b)) 1 1 = b
    rw [gA_at, e1, if_pos rfl, vb]
theorem read2 {T : gM} {a b : Int} (ha : isL a) (hb : 50 ≤ b ∧ b ≤ 57) (h0 : gA T 1 0 = a) (h1 : gA T 1 1 = b) : (rgO T 0 ∧ rgO T 1) ∧ gN (rgW T 2) 0 4 = 1 ∧ rgN T 2 = b - 48 ∧ gA (rgW T 2) 2 0 = wOf a ∧ gA (rgW T 2) 3 0 = b - 48 := by
  have z0 := rg_0 T
  have hL0 : isL (gA T 1 0) := by rw [h0]; exact ha
  have hL1 : ¬ isL (gA T 1 1) := by rw [h1]; unfold isL; omega
  obtain ⟨p1, p2⟩ := rg_L (M := T) (x := 0) (by decide) hL0
  obtain ⟨q1, q2⟩ := rg_D (M := T) (x := 1) (by decide) hL1
  rw [show (0 : Int) + 1 = 1 from rfl] at p1 p2
  rw [show (1 : Int) + 1 = 2 from rfl, p2, h1] at q1 q2
  have g0 : gN (rgW T 0) 0 4 = 0 := by rw [z0.1]; rfl
  have g1 : gN (rgW T 1) 0 4 = 1 := by rw [p1, gN_opnG _ _ ⟨by omega, by omega⟩, g0]; rfl
  have wa : 0 ≤ wOf a ∧ wOf a ≤ 2 := by
    unfold wOf
    split
    · omega
    · split <;> omega
  refine ⟨⟨Or.inl ⟨hL0, by rw [z0.2]; decide⟩, Or.inr ⟨hL1, by rw [h1]; exact ⟨by omega, by omega⟩, by rw [g1]; decide, by rw [p2, h1]; omega, by rw [p2, h1]; omega⟩⟩, ?_, by rw [q2]; omega, ?_, ?_⟩
  · rw [q1]; exact g1
  · rw [q1, gA_of _ _ _ _ (by decide), p1]
    show gA (sA (rgW T 0) 2 (gN (rgW T 0) 0 4) (iI (wOf (gA T 1 0)))) 2 0 = wOf a
    rw [gA_at, g0, if_pos rfl, h0, iI_t ⟨by omega, by omega⟩]
  · rw [q1, g1, show (1 : Int) - 1 = 0 from rfl, gA_at, if_pos rfl, iI_t ⟨by omega, by omega⟩]
    omega
theorem lt_L (u : Int) : isL (ltF u) ∧ (0 ≤ ltF u ∧ ltF u ≤ 65535) := by
  unfold ltF isL
  split
  · omega
  · split <;> omega
theorem s_pa {w w1 wa wb wc : gW} {b0 b1 b2 b3 : Nat} {u z za zb zc : Int} (hO : okW w b0 b1 b2 b3) (hI : Inv (w 1)) (rz : inR z) (h1 : po_X5_clearText w b0 b1 b2 b3 za wa) (h2 : po_X5_type wa b0 b1 b2 b3 (ltF u) zb wb) (h3 : po_X5_type wb b0 b1 b2 b3 (chv (50 + lowF (shr u 2) 8)) zc wc) (h4 : po_X5_passAll wc b0 b1 b2 b3 z w1) : stp w b0 b1 b2 b3 (paF (w 1) (wOf (ltF u)) (2 + lowF (shr u 2) 8)) z w1 := by
  have hl := lowF_in (shr u 2) (n := 8) (by omega) (by omega)
  rw [chv_s (x := 50 + lowF (shr u 2) 8) (by omega) (by omega)] at h3
  obtain ⟨d, ed⟩ : ∃ d : Int, d = lowF (shr u 2) 8 := ⟨_, rfl⟩
  rw [← ed] at h3 hl ⊢
  obtain ⟨a, ea⟩ : ∃ a : Int, a = ltF u := ⟨_, rfl⟩
  have la := lt_L u
  rw [← ea] at h2 la ⊢
  obtain ⟨-, -, ea1⟩ := h1
  have n0 : gN (wa 9) 0 1 = 0 := by rw [ea1]; rfl
  rcases h2 with ⟨t, -, -⟩ | ⟨-, -, eb⟩
  · omega
  have n1 : gN (wb 9) 0 1 = 1 := by
    rw [eb]
    show (iI (gN (wa 9) 0 1 + 1)).toInt = 1
    rw [n0]; rfl
  rcases h3 with ⟨t, -, -⟩ | ⟨-, -, ec⟩
  · omega
  have e9 : wc 9 = appM (appM (wa 9) a) (50 + d) := by
    rw [ec, up_s, eb, up_s]
  have ej : ∀ j, ¬ j = 9 → wc j = w j := fun j hj => by rw [ec, up_n _ _ hj, eb, up_n _ _ hj, ea1, up_n _ _ hj]
  obtain ⟨c1, c2, c3⟩ := ch_at (M := wa 9) (a := a) (b := 50 + d) la.2 ⟨by omega, by omega⟩ n0
  rw [← e9] at c1 c2 c3
  obtain ⟨⟨o0, o1⟩, g4, rn, g2, g3⟩ := read2 (T := wc 9) (a := a) (b := 50 + d) la.1 ⟨by omega, by omega⟩ c2 c3
  have ok : ∀ q : Int, 0 ≤ q → q < 2 → rgO (wc 9) q := fun q q0 q1 => by
    rcases (show q = 0 ∨ q = 1 by omega) with rfl | rfl
    · exact o0
    · exact o1
  unfold po_X5_passAll at h4
  rw [c1] at h4
  rcases h4 with ⟨-, ⟨f, -, ⟨-, -, t⟩ | ⟨f0, f1, -, t⟩, -⟩, -⟩ | ⟨-, -, -, e, ew⟩
  · rcases t with t | t
    · omega
    · rw [rn] at t; omega
  · exact absurd (ok f f0 f1) t
  · have s : sumX (gA (rgW (wc 9) 2) 3) (gN (rgW (wc 9) 2) 0 4) = 2 + d := by
      rw [g4]
      show sumX (gA (rgW (wc 9) 2) 3) (0 + 1) = 2 + d
      rw [sumX_s _ (by decide), sumX_0, g3]
      omega
    have gM9 : grpM (wc 1) (rgW (wc 9) 2) (gN (rgW (wc 9) 2) 0 4) = dyX (w 1) (wOf a) (2 + d) := by
      rw [g4]
      show grpM (wc 1) (rgW (wc 9) 2) (0 + 1) = _
      rw [grpM_s _ _ (by decide), grpM_0, g2, g3, ej 1 (by decide)]
      congr 1
      omega
    rw [s] at e
    rw [gM9] at ew
    have ez := (iI_eq rz ⟨by omega, by omega⟩).1 e
    have hp4 := hO.1
    have e91 : w1 9 = rgW (wc 9) 2 := by
      rw [ew]
      show (if (9 : Nat) = b3 then up wc 9 (rgW (wc 9) 2) 1 else rgW (wc 9) 2) = rgW (wc 9) 2
      obtain ⟨-, -, -, p7, -⟩ := hp4
      rw [if_neg (by omega)]
    refine ⟨e, by rw [e91, rgW_len, c1]; exact ⟨by decide, by decide⟩, Or.inr ⟨by omega, fun j hj => ?_⟩⟩
    rw [ew]
    show up (recW (up wc 9 (rgW (wc 9) 2)) b0 b1 b2 b3) 1 (dyX (w 1) (wOf a) (2 + d)) j = up (recW w b0 b1 b2 b3) 1 (dyX (w 1) (wOf a) (2 + d)) j
    have e1 : up wc 9 (rgW (wc 9) 2) 1 = w 1 := by rw [up_n _ _ (by decide)]; exact ej 1 (by decide)
    have e4 : up wc 9 (rgW (wc 9) 2) 4 = w 4 := by rw [up_n _ _ (by decide)]; exact ej 4 (by decide)
    have ejj : up wc 9 (rgW (wc 9) 2) j = w j := by rw [up_n _ _ hj]; exact ej j hj
    unfold recW
    rw [e1, e4]
    simp only [up] at ejj ⊢
    rw [ejj]
theorem act_s {w w1 : gW} {b0 b1 b2 b3 : Nat} {v u z : Int} (hO : okW w b0 b1 b2 b3) (hI : Inv (w 1)) (hK : Inv (w 2)) (hk : ¬ gN (w 0) 0 5 = 0) (rz : inR z) (h : po_L_act w b0 b1 b2 b3 v u z w1) : stp w b0 b1 b2 b3 (actF (w 1) (w 2) v u) z w1 := by
  unfold actF
  rcases h with ⟨c, d, h⟩ | ⟨c, d, h⟩ | ⟨c, d, h⟩ | ⟨c, d, h⟩ | ⟨c, h⟩ | ⟨c, h⟩ | ⟨c, h⟩ | ⟨c, h⟩ | ⟨c, d, h⟩ | ⟨c, d, h⟩ | ⟨c, h⟩ | ⟨c, h⟩
  · rw [if_pos c, if_pos d]; exact s_lend hO hI h
  · rw [if_pos c, if_neg d]; exact s_hand hO hI h
  · rw [if_neg (by omega), if_pos c, if_pos d]; exact s_sday hO hI h
  · rw [if_neg (by omega), if_pos c, if_neg d]; exact s_set hO hI h
  · rw [if_neg (by omega), if_neg (by omega), if_pos c]; exact s_cut hO hI h
  · rw [if_neg (by omega), if_neg (by omega), if_neg (by omega), if_pos c]; exact s_turn hO hI h
  · rw [if_neg (by omega), if_neg (by omega), if_neg (by omega), if_neg (by omega), if_pos c]; exact s_stack hO hI h
  · rw [if_neg (by omega), if_neg (by omega), if_neg (by omega), if_neg (by omega), if_neg (by omega), if_pos c]; exact s_stl hO hI h
  · rw [if_neg (by omega), if_neg (by omega), if_neg (by omega), if_neg (by omega), if_neg (by omega), if_neg (by omega), if_pos c, if_pos d]; exact s_yr hO hI h
  · rw [if_neg (by omega), if_neg (by omega), if_neg (by omega), if_neg (by omega), if_neg (by omega), if_neg (by omega), if_pos c, if_neg d]; exact s_res hO hk hK h
  · obtain ⟨wa, wb, wc, za, zb, zc, h1, h2, h3, h4⟩ := h
    rw [if_neg (by omega), if_neg (by omega), if_neg (by omega), if_neg (by omega), if_neg (by omega), if_neg (by omega), if_neg (by omega), if_pos c]
    exact s_pa hO hI rz h1 h2 h3 h4
  · rw [if_neg (by omega), if_neg (by omega), if_neg (by omega), if_neg (by omega), if_neg (by omega), if_neg (by omega), if_neg (by omega), if_neg (by omega)]
    exact s_pass hO hI rz h
/-! the law's hold on the system -/
def Gd (w : gW) (b0 b1 b2 b3 : Nat) : Prop := okW w b0 b1 b2 b3 ∧ Inv (w 1) ∧ Inv (w 2) ∧ ¬ gN (w 0) 0 5 = 0
theorem okW_c {w w1 : gW} {b0 b1 b2 b3 : Nat} (h : okW w b0 b1 b2 b3) (h9 : 0 ≤ gN (w1 9) 0 1 ∧ gN (w1 9) 0 1 ≤ 60) (e : ∀ j, ¬ j = 9 → w1 j = w j) : okW w1 b0 b1 b2 b3 := by
  obtain ⟨h1, h2, h3, h4, -⟩ := h
  refine ⟨h1, ?_, fun j hj => ?_, by rw [e 4 (by decide)]; exact h4, h9⟩
  · unfold hst
    rw [e 4 (by decide)]
    exact h2
  · rw [e j (by unfold ms at hj; omega)]
    exact h3 j hj
theorem Gd_no {w w1 : gW} {b0 b1 b2 b3 : Nat} {F : Int × gM} {z : Int} (h : Gd w b0 b1 b2 b3) (s : stp w b0 b1 b2 b3 F z w1) (hz : z < 0) : Gd w1 b0 b1 b2 b3 ∧ F.2 = w 1 ∧ w1 1 = w 1 ∧ w1 2 = w 2 ∧ gN (w1 4) 0 4 = gN (w 4) 0 4 := by
  obtain ⟨-, s9, s2⟩ := s
  rcases s2 with ⟨-, f, e⟩ | ⟨t, -⟩
  · refine ⟨⟨okW_c h.1 s9 e, ?_, ?_, ?_⟩, f, e 1 (by decide), e 2 (by decide), by rw [e 4 (by decide)]⟩
    · rw [e 1 (by decide)]; exact h.2.1
    · rw [e 2 (by decide)]; exact h.2.2.1
    · rw [e 0 (by decide)]; exact h.2.2.2
  · omega
theorem Gd_yes {w w1 : gW} {b0 b1 b2 b3 : Nat} {F : Int × gM} {z : Int} (h : Gd w b0 b1 b2 b3) (hF : Inv F.2) (s : stp w b0 b1 b2 b3 F z w1) (hz : 0 ≤ z) : Gd w1 b3 b0 b1 b2 ∧ w1 1 = F.2 ∧ w1 2 = w 2 ∧ w1 b3 = w 1 ∧ gN (w1 4) 0 4 = min 4 (gN (w 4) 0 4 + 1) := by
  obtain ⟨-, s9, s2⟩ := s
  rcases s2 with ⟨t, -⟩ | ⟨-, e⟩
  · omega
  obtain ⟨⟨o1, o2, o3, o4, o5⟩, hI, hK, hk⟩ := h
  obtain ⟨⟨p1, p2⟩, ⟨p3, p4⟩, ⟨p5, p6⟩, ⟨p7, p8⟩, p9⟩ := o1
  have q1 : w1 1 = F.2 := by rw [e 1 (by decide)]; rfl
  have q4 : w1 4 = recM (w 4) b0 b1 b2 b3 := by rw [e 4 (by decide)]; rfl
  have qo : ∀ j, ¬ j = 9 → ¬ j = 1 → ¬ j = 4 → w1 j = if j = b3 then w 1 else w j := fun j j9 j1 j4 => by
    rw [e j j9]
    show (if j = 1 then F.2 else if j = 4 then _ else if j = b3 then w 1 else w j) = _
    rw [if_neg j1, if_neg j4]
  have q0 : w1 0 = w 0 := by rw [qo 0 (by decide) (by decide) (by decide), if_neg (by omega)]
  have q2 : w1 2 = w 2 := by rw [qo 2 (by decide) (by decide) (by decide), if_neg (by omega)]
  have n4 : gN (w1 4) 0 4 = min 4 (gN (w 4) 0 4 + 1) := by
    rw [q4]; unfold recM
    rw [gN_sS, if_pos ⟨rfl, rfl⟩, iI_t ⟨by omega, by omega⟩]
  refine ⟨⟨⟨⟨⟨p7, p8⟩, ⟨p1, p2⟩, ⟨p3, p4⟩, ⟨p5, p6⟩, by omega, by omega, by omega, by omega, by omega, by omega⟩, ?_, fun j hj => ?_, by rw [n4]; omega, s9⟩, by rw [q1]; exact hF, by rw [q2]; exact hK, by rw [q0]; exact hk⟩, q1, q2, by rw [qo b3 (by omega) (by omega) (by omega), if_pos rfl], n4⟩
  · refine ⟨?_, ?_, ?_, ?_⟩ <;> (rw [q4]; unfold recM; simp (decide := true) only [gN_sS, if_true, if_false, true_and, and_true, and_false, false_and]; exact iI_nat (by omega))
  · by_cases j1 : j = 1
    · rw [j1, q1]; exact hF.1
    · rw [qo j (by unfold ms at hj; omega) j1 (by unfold ms at hj; omega)]
      split
      · exact hI.1
      · exact o3 j hj
theorem Gd_undo {w w1 : gW} {b0 b1 b2 b3 : Nat} {z : Int} (h : Gd w b0 b1 b2 b3) (hb : Inv (w b0)) (hs : 0 < gN (w 4) 0 4) (hp : po_X5_undo w b0 b1 b2 b3 z w1) : z = gN (w 4) 0 4 - 1 ∧ Gd w1 b1 b2 b3 b0 ∧ w1 1 = w b0 ∧ w1 2 = w 2 := by
  rcases hp with ⟨t, -, -⟩ | ⟨-, ez, e⟩
  · omega
  obtain ⟨⟨o1, o2, o3, o4, o5⟩, hI, hK, hk⟩ := h
  obtain ⟨⟨p1, p2⟩, ⟨p3, p4⟩, ⟨p5, p6⟩, ⟨p7, p8⟩, p9⟩ := o1
  have q1 : w1 1 = w b0 := by rw [e]; rfl
  have q4 : w1 4 = tbM (w 4) b0 b1 b2 b3 := by rw [e]; rfl
  have qo : ∀ j, ¬ j = 1 → ¬ j = 4 → w1 j = w j := fun j j1 j4 => by
    rw [e]
    show (if j = 4 then _ else if j = 1 then w b0 else w j) = _
    rw [if_neg j4, if_neg j1]
  have n4 : gN (w1 4) 0 4 = gN (w 4) 0 4 - 1 := by
    rw [q4]; unfold tbM
    rw [gN_sS, if_pos ⟨rfl, rfl⟩, iI_t ⟨by omega, by omega⟩]
  refine ⟨ez, ⟨⟨⟨⟨p3, p4⟩, ⟨p5, p6⟩, ⟨p7, p8⟩, ⟨p1, p2⟩, by omega, by omega, by omega, by omega, by omega, by omega⟩, ?_, fun j hj => ?_, by rw [n4]; omega, by rw [qo 9 (by decide) (by decide)]; exact o5⟩, by rw [q1]; exact hb, by rw [qo 2 (by decide) (by decide)]; exact hK, by rw [qo 0 (by decide) (by decide)]; exact hk⟩, q1, qo 2 (by decide) (by decide)⟩
  · refine ⟨?_, ?_, ?_, ?_⟩ <;> (rw [q4]; unfold tbM; simp (decide := true) only [gN_sS, if_true, if_false, true_and, and_true, and_false, false_and]; exact iI_nat (by omega))
  · by_cases j1 : j = 1
    · rw [j1, q1]; exact hb.1
    · rw [qo j j1 (by unfold ms at hj; omega)]
      exact o3 j hj
theorem Gd_keep {w w1 : gW} {b0 b1 b2 b3 : Nat} {z : Int} (h : okW w b0 b1 b2 b3) (hI : Inv (w 1)) (hp : po_X5_keep w b0 b1 b2 b3 z w1) : z = cntI (pLy (w 1)) (gN (w 1) 7 6) ∧ Gd w1 b0 b1 b2 b3 ∧ w1 1 = w 1 ∧ w1 2 = w 1 := by
  obtain ⟨-, ez, e⟩ := hp
  obtain ⟨o1, o2, o3, o4, o5⟩ := h
  have q2 : w1 2 = w 1 := by rw [e]; rfl
  have qo : ∀ j, ¬ j = 2 → ¬ j = 0 → w1 j = w j := fun j j2 j0 => by
    rw [e]
    show (if j = 0 then _ else if j = 2 then w 1 else w j) = _
    rw [if_neg j0, if_neg j2]
  have q0 : gN (w1 0) 0 5 = 1 := by rw [e]; rfl
  refine ⟨ez, ⟨⟨o1, ?_, fun j hj => ?_, by rw [qo 4 (by decide) (by decide)]; exact o4, by rw [qo 9 (by decide) (by decide)]; exact o5⟩, by rw [qo 1 (by decide) (by decide)]; exact hI, by rw [q2]; exact hI, by rw [q0]; decide⟩, qo 1 (by decide) (by decide), q2⟩
  · unfold hst
    rw [qo 4 (by decide) (by decide)]
    exact o2
  · by_cases j2 : j = 2
    · rw [j2, q2]; exact hI.1
    · rw [qo j j2 (by unfold ms at hj; omega)]
      exact o3 j hj
