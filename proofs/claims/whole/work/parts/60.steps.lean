theorem Rel_no {w : gW} {b0 b1 b2 b3 : Nat} (h : Rel w b0 b1 b2 b3) : Rel (up w 10 (sS (w 10) 0 0 (iI 0))) b0 b1 b2 b3 := by
  have q : ∀ j, ¬ j = 10 → up w 10 (sS (w 10) 0 0 (iI 0)) j = w j := fun j hj => if_neg hj
  obtain ⟨⟨o1, o2, o3, o4, o5⟩, r, e4, hs, hk, ht⟩ := h
  refine ⟨⟨o1, o2, fun j hj => ?_, o4, o5⟩, r, ?_, fun m hm => ?_, ?_, ?_⟩
  · rw [q j (by rcases hj with rfl | rfl | rfl | rfl | rfl | rfl | rfl <;> decide)]; exact o3 j hj
  · rw [up_s, gN_sS, if_neg (by decide)]; exact e4
  · have hb : ¬ bb b0 b1 b2 b3 m = 10 := by
      obtain ⟨p1, p2, p3, p4, -⟩ := o1
      match m with
      | 0 => show ¬ b0 = 10; omega
      | 1 => show ¬ b1 = 10; omega
      | 2 => show ¬ b2 = 10; omega
      | n + 3 => show ¬ b3 = 10; omega
    rw [q _ hb]
    exact hs m hm
  · rw [up_s, gN_sS, if_neg (by decide)]; exact hk
  · rw [up_s, gN_sS, if_neg (by decide)]; exact ht
/-- both sides answer alike and stand alike again -/
def Fin (z1 z2 : Int) (w2 : gW) : Prop := iI z1 = iI z2 ∧ ∃ b0 b1 b2 b3 : Nat, Rel w2 b0 b1 b2 b3
theorem Fin_no {w : gW} {b0 b1 b2 b3 : Nat} (h : Rel w b0 b1 b2 b3) {z1 z2 : Int} (hz : z1 = z2) {w2 : gW} (hw : w2 = up w 10 (sS (w 10) 0 0 (iI 0))) : Fin z1 z2 w2 := ⟨by rw [hz], b0, b1, b2, b3, by rw [hw]; exact Rel_no h⟩
theorem Fin_act {w w1 : gW} {b0 b1 b2 b3 : Nat} (h : Rel w b0 b1 b2 b3) {z1 z2 : Int} (hz : iI z1 = iI z2) {w2 : gW} {C : gM} {A : Int → Int32} (e1 : w1 = up (recW w b0 b1 b2 b3) 1 C) (hw : w2 = up w1 10 (sF (recS (sS (w 10) 0 0 (iI 0))) 1 A)) (hC : rl C A) : Fin z1 z2 w2 := ⟨hz, b3, b0, b1, b2, by rw [hw, e1]; exact Rel_act h hC⟩
theorem rec10 {w : gW} {b0 b1 b2 b3 : Nat} (h : Rel w b0 b1 b2 b3) (C : gM) : up (recW w b0 b1 b2 b3) 1 C 10 = w 10 := by
  obtain ⟨⟨⟨-, -, -, p7, -⟩, -⟩, -⟩ := h
  show (if (10 : Nat) = b3 then w 1 else w 10) = w 10
  rw [if_neg (by omega)]
theorem st_lend {w w1 w2 : gW} {b0 b1 b2 b3 : Nat} {pl co z1 z2 : Int} (h : Rel w b0 b1 b2 b3) (h1 : po_X5_lend w b0 b1 b2 b3 pl co z1 w1) (h2 : po_X6_lend w1 pl co z2 w2) : Fin z1 z2 w2 := by
  have r := h.2.1
  unfold po_X5_lend at h1
  unfold po_X6_lend at h2
  rcases h1 with ⟨c1, e1, rfl⟩ | ⟨c1, c2, c3, e1, rfl⟩ | ⟨c1, c2, c3, e1, ew⟩
  · rcases h2 with ⟨d1, f1, fw⟩ | ⟨d1, d2, d3, f1, fw⟩ | ⟨d1, d2, d3, f1, fw⟩
    · exact Fin_no h (by omega) fw
    · exact absurd ⟨d1, d2⟩ c1
    · exact absurd ⟨d1, d2⟩ c1
  · have e := (r.2.2.2.2.1 pl c1.1 c1.2).2.2
    rcases h2 with ⟨d1, f1, fw⟩ | ⟨d1, d2, d3, f1, fw⟩ | ⟨d1, d2, d3, f1, fw⟩
    · exact absurd ⟨c1, c2⟩ d1
    · exact Fin_no h (by omega) fw
    · exact absurd (e.trans c3) d3
  · have e := (r.2.2.2.2.1 pl c1.1 c1.2).2.2
    have e10 : w1 10 = w 10 := by rw [ew]; exact rec10 h _
    rw [e10] at h2
    rcases h2 with ⟨d1, f1, fw⟩ | ⟨d1, d2, d3, f1, fw⟩ | ⟨d1, d2, d3, f1, fw⟩
    · exact absurd ⟨c1, c2⟩ d1
    · exact absurd (e.symm.trans d3) c3
    · exact Fin_act h (by congr 1; omega) ew fw (rl_lend r c1 c2 (id r.1))
