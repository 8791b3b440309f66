theorem wf_srv {M : gM} (co : Int) (h : wf M) : wf (srvM M co) := wf_tk co _ h
theorem gN_srv (M : gM) (co : Int) {c f : Nat} (h : ¬ (c = 0 ∧ f = 13)) : gN (srvM M co) c f = gN M c f := gN_tk M co _ h
theorem srv_stop {M : gM} {co n : Int} (h0 : 0 ≤ n) (h1 : n ≤ gN M 0 8) (hb : bstI (tk M co n.toNat) co (gN (tk M co n.toNat) 7 6) = -5) : tk M co n.toNat = srvM M co := by
  unfold srvM
  rw [show (gN M 0 8).toNat = n.toNat + ((gN M 0 8).toNat - n.toNat) by omega]
  exact (tk_stop hb _).symm
theorem wf_dyX {M : gM} (wt n : Int) (h : wf M) : wf (dyX M wt n) := wf_dy wt h _
theorem dyX_0 (M : gM) (wt : Int) : dyX M wt 0 = M := rfl
theorem gN_wet1 (M : gM) (wt : Int) (c f : Nat) : gN (wet1 M wt) c f = gN M c f := rfl
/-- the oldest dispute, taken off -/
def stl1 (M : gM) : gM := sS M 14 4 (iI (gN M 14 4 + 1))
noncomputable def stlM (M : gM) : gM := if gN M 0 9 = 0 then usdM (stl1 M) (gA M 15 (gN M 14 4)) else @ite _ (lyi (stl1 M) (gA M 17 (gN M 14 4))) (Classical.propDecidable _) (sA (stl1 M) 8 (gA M 17 (gN M 14 4)) (iI (gA M 16 (gN M 14 4)))) (givM (stl1 M) (gA M 15 (gN M 14 4)) (gA M 16 (gN M 14 4)))
def stlZ (M : gM) : Int := if gN M 0 9 = 0 then 10 else gA M 16 (gN M 14 4)
theorem wf_stl1 {M : gM} (h : wf M) (ho : gN M 14 4 < gN M 14 5) : wf (stl1 M) := by
  obtain ⟨a1, a2, a3, a4, a5, a6, a7, a8, a9⟩ := h
  have e : gN (stl1 M) 14 4 = gN M 14 4 + 1 := iI_t (z := gN M 14 4 + 1) ⟨by omega, by omega⟩
  exact ⟨a1, ⟨by rw [e]; omega, by rw [e]; show _ ≤ gN M 14 5; omega, a2.2.2⟩, a3, a4, a5, a6, a7, a8, a9⟩
theorem wf_usd {M : gM} (co : Int) (h : wf M) : wf (usdM M co) := by
  unfold usdM
  by_cases q : pD M co
  · rw [@if_pos _ (Classical.propDecidable _) q]; exact wf_A h rfl rfl rfl rfl rfl rfl rfl rfl rfl
  · rw [@if_neg _ (Classical.propDecidable _) q]; exact h
theorem wf_giv {M : gM} (a b : Int) (h : wf M) : wf (givM M a b) := by
  unfold givM
  split
  · exact wf_A h rfl rfl rfl rfl rfl rfl rfl rfl rfl
  · exact h
theorem wf_stl {M : gM} (h : wf M) (ho : gN M 14 4 < gN M 14 5) : wf (stlM M) := by
  have h1 := wf_stl1 h ho
  unfold stlM
  split
  · exact wf_usd _ h1
  · by_cases q : lyi (stl1 M) (gA M 17 (gN M 14 4))
    · rw [@if_pos _ (Classical.propDecidable _) q]; exact wf_A h1 rfl rfl rfl rfl rfl rfl rfl rfl rfl
    · rw [@if_neg _ (Classical.propDecidable _) q]; exact wf_giv _ _ h1
/-- a state onto another: what the picture shows -/
def mosC (M N : gM) : gM := sS (sS (sS (sS (sS (sS (disC (rowC (sF (sF (sF (sF (sF (sF M 1 (N.1 1)) 2 (N.1 2)) 3 (N.1 3)) 4 (N.1 4)) 5 (N.1 5)) 6 (N.1 6)) N) N) 0 8 (N.2 0 8)) 0 9 (N.2 0 9)) 0 10 (N.2 0 10)) 0 11 (N.2 0 11)) 0 12 (N.2 0 12)) 0 13 (N.2 0 13)
theorem mosC_eq {G : gG} {j : Nat} (hj : ms j) (M N : gM) : ∀ c, c < bs j → ceX G j c ((mosC M N).1 c) ((mosC M N).2 c) = ceX G j c (N.1 c) (N.2 c) := by
  intro c hc
  have h19 : c < 19 := by rcases hj with rfl | rfl | rfl | rfl | rfl | rfl | rfl <;> exact hc
  rw [ceX_m hj, ceX_m hj]
  match c, h19 with
  | 0, _ => rfl
  | 1, _ => rfl
  | 2, _ => rfl
  | 3, _ => rfl
  | 4, _ => rfl
  | 5, _ => rfl
  | 6, _ => rfl
  | 7, _ => rfl
  | 8, _ => rfl
  | 9, _ => rfl
  | 10, _ => rfl
  | 11, _ => rfl
  | 12, _ => rfl
  | 13, _ => rfl
  | 14, _ => rfl
  | 15, _ => rfl
  | 16, _ => rfl
  | 17, _ => rfl
  | 18, _ => rfl
  | k + 19, h => exact absurd h (by omega)
