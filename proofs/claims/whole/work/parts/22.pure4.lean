def recW (w : gW) (b0 b1 b2 b3 : Nat) : gW := up (up w b3 (w 1)) 4 (recM (w 4) b0 b1 b2 b3)
/-- what the system keeps to -/
def okW (w : gW) (b0 b1 b2 b3 : Nat) : Prop := p4 b0 b1 b2 b3 ∧ hst w b0 b1 b2 b3 ∧ (∀ j, ms j → wf (w j)) ∧ (0 ≤ gN (w 4) 0 4 ∧ gN (w 4) 0 4 ≤ 4) ∧ (0 ≤ gN (w 9) 0 1 ∧ gN (w 9) 0 1 ≤ 60)
theorem wf_st {M : gM} (r : Int) (h : wf M) : wf (sA M 12 r (iI 1)) := by
  obtain ⟨a1, a2, a3, a4, a5, a6, a7⟩ := h
  refine ⟨a1, a2, a3, a4, fun q => ?_, a6, a7⟩
  show (if q = r then iI 1 else M.1 12 q) = 0 ∨ (if q = r then iI 1 else M.1 12 q) = 1
  split
  · exact Or.inr rfl
  · exact a5 q
theorem wf_tu {M : gM} (r : Int) (h : wf M) : wf (sA M 11 r (iI 1)) := by
  obtain ⟨a1, a2, a3, a4, a5, a6, a7⟩ := h
  refine ⟨a1, a2, a3, fun q => ?_, a5, a6, a7⟩
  show (if q = r then iI 1 else M.1 11 q) = 0 ∨ (if q = r then iI 1 else M.1 11 q) = 1
  split
  · exact Or.inr rfl
  · exact a4 q
