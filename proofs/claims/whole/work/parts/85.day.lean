theorem srvA_6 {A : Int → Int32} (h : wA A) {q : Int} (hq : q = 0 ∨ q = 1) (hc : 0 ≤ aI A (9 + q) ∧ aI A (9 + q) ≤ 9) : aI (srvA A q) 6 = (iI (aI A 6 + srvN A q)).toInt := by
  unfold srvA srvN
  simp only []
  rw [aI_e, aI_n _ _ (by omega), tkA_lo hc h (by decide) (by decide) (by omega)]
theorem srvA_t {A : Int → Int32} (h : wA A) {q : Int} (hq : q = 0 ∨ q = 1) (hc : 0 ≤ aI A (9 + q) ∧ aI A (9 + q) ≤ 9) : aI (srvA A q) (9 + q) = (aI A (9 + q) + 1) % 10 := by
  unfold srvA
  simp only []
  rw [aI_n _ _ (by omega), aI_e, iI_t ⟨by omega, by omega⟩]
theorem srvA_o {A : Int → Int32} (h : wA A) {q : Int} (hq : q = 0 ∨ q = 1) (hc : 0 ≤ aI A (9 + q) ∧ aI A (9 + q) ≤ 9) {x : Int} (hx : x < 11) (h4 : ¬ x = 4) (h6 : ¬ x = 6) (h9 : ¬ x = 9 + q) : aI (srvA A q) x = aI A x := by
  unfold srvA
  simp only []
  rw [aI_n _ _ h6, aI_n _ _ h9, tkA_lo hc h (by omega) h4 (by omega)]
theorem rb_srv {C : gM} {A : Int → Int32} (h : rb C A) (hw : wA A) {q co : Int} (hq : q = 0 ∨ q = 1) (hc : 0 ≤ co ∧ co ≤ 9) (e : aI A (9 + q) = co) : rb (srvM C co) (srvA A q) ∧ iI (gN (srvM C co) 0 13) = iI (gN C 0 13 + srvN A q) := by
  have s := rb_tk h hc (gN C 0 8).toNat
  have e0 : aI A 0 = gN C 0 8 := h.2.2.1.1.1
  refine ⟨?_, ?_⟩
  · refine rb_s s.1 (wf_tk co _ h.1) (fun _ _ => rfl) (fun _ _ _ => rfl) (fun i i0 i1 i2 i6 i9 i10 => ?_)
    unfold srvA
    simp only []
    rw [aI_n _ _ i6, aI_n _ _ (by omega), e, e0]
  · unfold srvN
    rw [e, e0]
    exact s.2
theorem inj_r {x y : Int} (hx : inR x) (hy : inR y) (h : iI x = iI y) : x = y := (iI_eq hx hy).1 h
/-- a day -/
theorem rl_day {C : gM} {A : Int → Int32} (h : rl C A) {v : Int} (hv : 0 ≤ v ∧ v ≤ 2) : rl (dayM C v) (psA A v) ∧ iI (gN (dayM C v) 0 13) = iI (gN C 0 13 + psN A v) := by
  have hwf := wf_day v h.1
  have hr := h.1.2.2.2.2.2.2.1
  obtain ⟨-, ⟨-, -, a6⟩, -, a9, a10⟩ := h.2.2.1
  have a2 := h.2.2.1.1.2.2.1
  have b := rl_rb (rl_wet h hv)
  have hW : wA (wthX A v (aI A 4)) := wA_wth v _ (rl_wA h)
  have lo : ∀ x : Int, x < 101 → aI (wthX A v (aI A 4)) x = aI A x := fun x t => wthX_lo A v _ t
  have c0 : aI (wthX A v (aI A 4)) (9 + 0) = gN C 0 10 % 10 := by
    rw [lo _ (by decide)]
    show aI A 9 = _
    omega
  have s1 := rb_srv b hW (q := 0) (co := gN C 0 10 % 10) (Or.inl rfl) ⟨by omega, by omega⟩ c0
  have hk0 : 0 ≤ aI (wthX A v (aI A 4)) (9 + 0) ∧ aI (wthX A v (aI A 4)) (9 + 0) ≤ 9 := by omega
  have hS1 := wA_srv hW (q := 0) ⟨by decide, by decide⟩
  have c1 : aI (srvA (wthX A v (aI A 4)) 0) (9 + 1) = (gN C 0 10 + 5) % 10 := by
    rw [srvA_o hW (Or.inl rfl) hk0 (by decide) (by decide) (by decide) (by decide), lo _ (by decide)]
    exact a10
  have s2 := rb_srv s1.1 hS1 (q := 1) (co := (gN C 0 10 + 5) % 10) (Or.inr rfl) ⟨by omega, by omega⟩ c1
  have hk1 : 0 ≤ aI (srvA (wthX A v (aI A 4)) 0) (9 + 1) ∧ aI (srvA (wthX A v (aI A 4)) 0) (9 + 1) ≤ 9 := by omega
  have e13 : iI (gN (dayM C v) 0 13) = iI (gN C 0 13 + psN A v) := by
    show iI (gN (srvM (srvM (wet1 C v) (gN C 0 10 % 10)) ((gN C 0 10 + 5) % 10)) 0 13) = _
    rw [s2.2, ← iI_add, s1.2, iI_add]
    show iI (gN C 0 13 + srvN (wthX A v (aI A 4)) 0 + srvN (srvA (wthX A v (aI A 4)) 0) 1) = iI (gN C 0 13 + (srvN (wthX A v (aI A 4)) 0 + srvN (srvA (wthX A v (aI A 4)) 0) 1))
    rw [Int.add_assoc]
  refine ⟨rb_rl (rb_s s2.1 hwf (fun _ _ => rfl) (fun c f t => ?_) (fun i i0 i1 i2 i6 i9 i10 => ?_)) ?_ ?_ ?_ ?_, e13⟩
  · unfold dayM
    simp only []
    rw [gN_sS, if_neg (by omega), gN_sS, if_neg (by omega)]
  · unfold psA
    simp only []
    rw [aI_n _ _ i2]
  · unfold psA
    simp only []
    rw [aI_e, srvA_o hS1 (Or.inr rfl) hk1 (by decide) (by decide) (by decide) (by decide), srvA_o hW (Or.inl rfl) hk0 (by decide) (by decide) (by decide) (by decide), lo _ (by decide), a2]
    rfl
  · refine inj_r (aI_r _ _) (gN_r _ _ _) ?_
    rw [e13]
    unfold psA psN
    simp only []
    rw [aI_n _ _ (by decide), srvA_6 hS1 (Or.inr rfl) hk1, iI_o, srvA_6 hW (Or.inl rfl) hk0, iI_y, lo _ (by decide), a6, Int.add_assoc]
  · unfold psA
    simp only []
    rw [aI_n _ _ (by decide), srvA_o hS1 (Or.inr rfl) hk1 (by decide) (by decide) (by decide) (by decide)]
    have t := srvA_t hW (Or.inl rfl) hk0
    have t : aI (srvA (wthX A v (aI A 4)) 0) 9 = _ := t
    rw [t, c0]
    show _ = (iI ((gN C 0 10 + 1) % 10)).toInt
    rw [iI_t ⟨by omega, by omega⟩]
    omega
  · unfold psA
    simp only []
    rw [aI_n _ _ (by decide)]
    have t := srvA_t hS1 (Or.inr rfl) hk1
    have t : aI (srvA (srvA (wthX A v (aI A 4)) 0) 1) 10 = _ := t
    rw [t, c1]
    show _ = ((iI ((gN C 0 10 + 1) % 10)).toInt + 5) % 10
    rw [iI_t ⟨by omega, by omega⟩]
    omega
theorem rl_dy {C : gM} {A : Int → Int32} (h : rl C A) {v : Int} (hv : 0 ≤ v ∧ v ≤ 2) : ∀ n : Nat, rl (dyM C v n) (dA A v n) ∧ iI (gN (dyM C v n) 0 13) = iI (gN C 0 13 + sumI (nA A v) n)
  | 0 => ⟨h, by
    show iI (gN C 0 13) = iI (gN C 0 13 + 0)
    rw [Int.add_zero]⟩
  | n + 1 => by
    obtain ⟨i1, i2⟩ := rl_dy h hv n
    obtain ⟨d1, d2⟩ := rl_day i1 hv
    refine ⟨d1, ?_⟩
    show iI (gN (dayM (dyM C v n) v) 0 13) = iI (gN C 0 13 + (sumI (nA A v) n + nA A v n))
    rw [d2, ← iI_add, i2, iI_add, Int.add_assoc]
    rfl
theorem rl_dyX {C : gM} {A : Int → Int32} (h : rl C A) {v : Int} (hv : 0 ≤ v ∧ v ≤ 2) (x : Int) : rl (dyX C v x) (dAX A v x) ∧ iI (gN (dyX C v x) 0 13 - gN C 0 13) = iI (sumX (nA A v) x) := by
  have s := rl_dy h hv x.toNat
  refine ⟨s.1, ?_⟩
  rw [← iI_sub]
  show iI (gN (dyM C v x.toNat) 0 13) - iI (gN C 0 13) = _
  rw [s.2, iI_sub]
  show iI (gN C 0 13 + sumX (nA A v) x - gN C 0 13) = _
  congr 1
  omega
theorem st_pass {w w1 w2 : gW} {b0 b1 b2 b3 : Nat} {v z1 z2 : Int} (h : Rel w b0 b1 b2 b3) (h1 : po_X5_pass w b0 b1 b2 b3 v z1 w1) (h2 : po_X6_pass w1 v z2 w2) : Fin z1 z2 w2 := by
  have r := h.2.1
  unfold po_X5_pass at h1
  unfold po_X6_pass at h2
  rcases h1 with ⟨c1, e1, ew⟩ | ⟨c1, e1, ew⟩
  · rw [ew] at h2
    rcases h2 with ⟨d1, f1, fw⟩ | ⟨d1, f1, fw⟩
    · exact Fin_no h (by omega) fw
    · exact absurd d1 c1
  · have e10 : w1 10 = w 10 := by rw [ew]; exact rec10 h _
    rw [e10] at h2
    rcases h2 with ⟨d1, f1, fw⟩ | ⟨d1, f1, fw⟩
    · exact absurd c1 d1
    · have s := rl_dyX r c1 1
      refine Fin_act h ?_ ew fw s.1
      rw [e1, f1, s.2]
      show iI (0 + psN ((w 10).1 1) v) = _
      rw [Int.zero_add]
theorem st_would {w w1 w2 : gW} {b0 b1 b2 b3 : Nat} {d v z1 z2 : Int} (h : Rel w b0 b1 b2 b3) (h1 : po_X5_would w b0 b1 b2 b3 d v z1 w1) (h2 : po_X6_would w1 d v z2 w2) : Fin z1 z2 w2 := by
  unfold po_X5_would at h1
  unfold po_X6_would at h2
  rcases h1 with ⟨c1, e1, ew⟩ | ⟨c1, c2, e1, ew⟩
  · rw [ew] at h2
    rcases h2 with ⟨d1, f1, fw⟩ | ⟨d1, d2, f1, fw⟩
    · exact Fin_no h (by omega) fw
    · exact absurd ⟨d1, d2⟩ c1
  · have e10 : w1 10 = w 10 := by rw [ew]; rfl
    rw [e10] at h2
    rcases h2 with ⟨d1, f1, fw⟩ | ⟨d1, d2, f1, fw⟩
    · exact absurd ⟨c1, c2⟩ d1
    · obtain ⟨⟨o1, o2, o3, o4, o5⟩, r, e4, hs, hk, ht⟩ := h
      have s := rl_dyX r c2 d
      have qb : ∀ j, ¬ j = 3 → ¬ j = 10 → w2 j = w j := by
        intro j j0 j1
        rw [fw, ew]
        show (if j = 10 then _ else if j = 3 then _ else w j) = w j
        rw [if_neg j1, if_neg j0]
      have q3 : w2 3 = dyX (w 1) v d := by rw [fw, ew]; rfl
      have q10 := congrFun fw 10
      rw [up_s] at q10
      refine ⟨by rw [e1, f1, s.2], b0, b1, b2, b3, ⟨o1, ?_, fun j hj => ?_, by rw [qb 4 (by decide) (by decide)]; exact o4, by rw [qb 9 (by decide) (by decide)]; exact o5⟩, ?_, ?_, fun m hm => ?_, ?_, ?_⟩
      · unfold hst at *; rw [qb 4 (by decide) (by decide)]; exact o2
      · by_cases j3 : j = 3
        · rw [j3, q3]; exact s.1.1
        · rw [qb j j3 (by unfold ms at hj; omega)]; exact o3 j hj
      · rw [qb 1 (by decide) (by decide), q10]
        refine rl_c r (fun i i0 i1 => ?_)
        show aI (selG _ (selG _ ((w 10).1 1) 0 941) 0 941) i = _
        rw [aI_si _ _ ⟨i0, i1⟩, aI_si _ _ ⟨i0, i1⟩]
      · rw [qb 4 (by decide) (by decide), q10]; exact e4
      · rw [qb 4 (by decide) (by decide)] at hm ⊢
        have hb := bb_le o1 m
        rw [qb _ (by omega) (by omega), q10]
        exact hs m hm
      · rw [qb 0 (by decide) (by decide), qb 2 (by decide) (by decide), q10]; exact hk
      · rw [qb 9 (by decide) (by decide), q10]; exact ht
