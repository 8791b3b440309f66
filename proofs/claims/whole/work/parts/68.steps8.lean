theorem Fin_noI {w : gW} {b0 b1 b2 b3 : Nat} (h : Rel w b0 b1 b2 b3) {z1 z2 : Int} (hz : iI z1 = iI z2) {w2 : gW} (hw : w2 = up w 10 (sS (w 10) 0 0 (iI 0))) : Fin z1 z2 w2 := ⟨hz, b0, b1, b2, b3, by rw [hw]; exact Rel_no h⟩
theorem sum_cg {f g : Int → Int} : ∀ n : Nat, (∀ r : Int, 0 ≤ r → r < n → f r = g r) → sumX f n = sumX g n
  | 0, _ => rfl
  | n + 1, h => by
    have ih := sum_cg n (fun r r0 r1 => h r r0 (by omega))
    rw [show ((n + 1 : Nat) : Int) = (n : Int) + 1 by omega, sumX_s _ (by omega), sumX_s _ (by omega), ih, h n (by omega) (by omega)]
theorem sum_H {C : gM} {A : Int → Int32} (h : rl C A) : sumX (gA C 6) 10 = sumX (fun c => aI A (11 + 3 * c + 2)) 10 := sum_cg 10 (fun r r0 r1 => (h.2.2.2.1 r r0 (by omega)).2.2.symm)
theorem sum_L {C : gM} {A : Int → Int32} (h : rl C A) : sumX (gA C 1) 20 = sumX (fun c => aI A (41 + 3 * c + 0)) 20 := sum_cg 20 (fun r r0 r1 => (h.2.2.2.2.1 r r0 (by omega)).1.symm)
theorem st_set {w w1 w2 : gW} {b0 b1 b2 b3 : Nat} {q x z1 z2 : Int} (h : Rel w b0 b1 b2 b3) (h1 : po_X5_set w b0 b1 b2 b3 q x z1 w1) (h2 : po_X6_set w1 q x z2 w2) : Fin z1 z2 w2 := by
  have r := h.2.1
  obtain ⟨s0, s1, s2, s3⟩ := r.2.2.1.1
  unfold po_X5_set at h1
  unfold po_X6_set at h2
  have e10 : w1 10 = w 10 := by
    rcases h1 with ⟨-, -, ew⟩ | ⟨-, -, -, ew⟩ | ⟨-, -, -, ew⟩ | ⟨-, -, -, ew⟩ | ⟨-, -, -, ew⟩ <;> rw [ew]
    · exact rec10 h _
    · exact rec10 h _
  rw [e10] at h2
  have e0 : q = 0 → aI ((w 10).1 1) q = gN (w 1) 0 8 := fun t => by rw [t]; exact s0
  have e1 : q = 1 → aI ((w 10).1 1) q = gN (w 1) 0 9 := fun t => by rw [t]; exact s1
  have key : ∀ f : Nat, (f = 8 ∨ f = 9) → ∀ k : Int, (f = 8 → k = 0 ∧ 1 ≤ x ∧ x ≤ 6) → (f = 9 → k = 1 ∧ 0 ≤ x ∧ x ≤ 1) → rl (sS (w 1) 0 f (iI x)) (st ((w 10).1 1) k (iI x)) := by
    intro f hf k h8 h9
    have hk : k = 0 ∨ k = 1 := by rcases hf with t | t; exact Or.inl (h8 t).1; exact Or.inr (h9 t).1
    have hv : (iI x).toInt = x := iI_t (by rcases hf with t | t; (have := h8 t; exact ⟨by omega, by omega⟩); (have := h9 t; exact ⟨by omega, by omega⟩))
    have eN : ∀ c g : Nat, ¬ (c = 0 ∧ g = f) → gN (sS (w 1) 0 f (iI x)) c g = gN (w 1) c g := fun c g t => by rw [gN_sS, if_neg t]
    have nf : gN (sS (w 1) 0 f (iI x)) 7 6 = gN (w 1) 7 6 := eN _ _ (by omega)
    have n4 : gN (sS (w 1) 0 f (iI x)) 14 4 = gN (w 1) 14 4 := eN _ _ (by omega)
    have n5 : gN (sS (w 1) 0 f (iI x)) 14 5 = gN (w 1) 14 5 := eN _ _ (by omega)
    have n10 : gN (sS (w 1) 0 f (iI x)) 0 10 = gN (w 1) 0 10 := eN _ _ (by omega)
    obtain ⟨w', i, a1, a2, a3, a4, a5⟩ := r
    obtain ⟨v1, v2, v3, v4, v5, v6, v7, v8, v9⟩ := w'
    refine ⟨⟨by rw [nf]; exact v1, by rw [n4, n5]; exact v2, v3, v4, v5, v6, by rw [n10]; exact v7, ?_, by rw [nf, n5]; exact v9⟩, ?_, ?_, rlC_c a2 (fun _ _ _ _ => rfl) (fun i _ _ => aI_n _ _ (by omega)), rlP_c a3 (fun _ _ _ _ => rfl) (fun i _ _ => aI_n _ _ (by omega)), rlR_c a4 i.1.1 (fun _ _ _ _ => rfl) nf (fun i _ _ => aI_n _ _ (by omega)), rlD_c a5 ⟨v1, v2, v3, v4, v5, v6, v7, v8, v9⟩ (fun _ _ _ _ => rfl) n4 n5 (fun i _ _ => aI_n _ _ (by omega))⟩
    · rcases hf with t | t
      · subst t; rw [gN_sS, if_pos ⟨rfl, rfl⟩, hv]; exact (h8 rfl).2
      · subst t; rw [eN _ _ (by omega)]; exact v8
    · obtain ⟨i1, i2, i3, i4, i5⟩ := i
      refine ⟨by rw [nf]; exact i1, i2, by rw [nf]; exact i3, i4, by rw [n4, n5]; exact i5⟩
    · obtain ⟨g1, g2, g3, g4⟩ := a1
      refine ⟨⟨?_, ?_, ?_, ?_⟩, ⟨?_, ?_, ?_⟩, ⟨?_, ?_⟩, ?_, ?_⟩
      · rcases hf with t | t
        · subst t; rw [(h8 rfl).1, aI_e, gN_sS, if_pos ⟨rfl, rfl⟩]
        · subst t; rw [(h9 rfl).1, aI_n _ _ (by decide), eN _ _ (by omega)]; exact g1.1
      · rcases hf with t | t
        · subst t; rw [(h8 rfl).1, aI_n _ _ (by decide), eN _ _ (by omega)]; exact g1.2.1
        · subst t; rw [(h9 rfl).1, aI_e, gN_sS, if_pos ⟨rfl, rfl⟩]
      · rw [aI_n _ _ (by omega), eN _ _ (by omega)]; exact g1.2.2.1
      · rw [aI_n _ _ (by omega), eN _ _ (by omega)]; exact g1.2.2.2
      · rw [aI_n _ _ (by omega), nf]; exact g2.1
      · rw [aI_n _ _ (by omega), nf]; exact g2.2.1
      · rw [aI_n _ _ (by omega), eN _ _ (by omega)]; exact g2.2.2
      · rw [aI_n _ _ (by omega), n4, n5]; exact g3.1
      · rw [aI_n _ _ (by omega), n5]; exact g3.2
      · rw [aI_n _ _ (by omega), n10]; exact g4.1
      · rw [aI_n _ _ (by omega), n10]; exact g4.2
  rcases h1 with ⟨c1, f1, ew⟩ | ⟨c1, c2, f1, ew⟩ | ⟨c1, c2, f1, ew⟩ | ⟨c1, c2, f1, ew⟩ | ⟨c1, c2, f1, ew⟩
  · rw [ew] at h2
    rcases h2 with ⟨d1, g1, fw⟩ | ⟨d1, d2, g1, fw⟩ | ⟨d1, d2, g1, fw⟩
    · exact Fin_no h (by omega) fw
    · exact absurd d1 c1
    · exact absurd d1 c1
  · have e := e0 c1.1
    rw [ew] at h2
    rcases h2 with ⟨d1, g1, fw⟩ | ⟨d1, d2, g1, fw⟩ | ⟨d1, d2, g1, fw⟩
    · exact absurd (Or.inl c1) d1
    · exact Fin_no h (by omega) fw
    · exact absurd (e.trans c2) d2
  · have e := e1 c1.1
    rw [ew] at h2
    rcases h2 with ⟨d1, g1, fw⟩ | ⟨d1, d2, g1, fw⟩ | ⟨d1, d2, g1, fw⟩
    · exact absurd (Or.inr c1) d1
    · exact Fin_no h (by omega) fw
    · exact absurd (e.trans c2) d2
  · have e := e0 c1.1
    rcases h2 with ⟨d1, g1, fw⟩ | ⟨d1, d2, g1, fw⟩ | ⟨d1, d2, g1, fw⟩
    · exact absurd (Or.inl c1) d1
    · exact absurd (e.symm.trans d2) c2
    · exact Fin_act h (by rw [f1, g1, e]) ew fw (key 8 (Or.inl rfl) q (fun _ => c1) (fun t => absurd t (by decide)))
  · have e := e1 c1.1
    rcases h2 with ⟨d1, g1, fw⟩ | ⟨d1, d2, g1, fw⟩ | ⟨d1, d2, g1, fw⟩
    · exact absurd (Or.inr c1) d1
    · exact absurd (e.symm.trans d2) c2
    · exact Fin_act h (by rw [f1, g1, e]) ew fw (key 9 (Or.inr rfl) q (fun t => absurd t (by decide)) (fun _ => c1))
