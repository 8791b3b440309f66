theorem grp9_00 (M : gM) (a b wt v g : Int) : gN (grp9 M a b wt v g) 0 0 = gN M 0 0 := rfl
theorem stG_00 {N M' : gM} (h : stG N M') : gN M' 0 0 = gN N 0 0 := by
  rcases h with ⟨h1, e⟩ | ⟨h1, h2, e⟩ | ⟨h1, h2, e⟩ | ⟨h1, h2, h3, e⟩ | ⟨h1, h2, h3, e⟩ | ⟨h1, h2, h3, e⟩ <;> (rw [e]; exact grp9_00 _ _ _ _ _ _)
theorem rdR_00 {M : gM} : ∀ (n : Nat) (M' : gM), rdR M n M' → gN M' 0 0 = gN M 0 0
  | 0, M', h => by
    have s : gN M' 0 0 = gN (sS (sS M 0 9 (iI 0)) 0 12 (iI 0)) 0 0 := stG_00 h
    exact s
  | n + 1, M', h => by
    obtain ⟨N, h1, h2, h3⟩ := h
    exact (stG_00 h3).trans (rdR_00 n N h1)
theorem sS_00 {M : gM} (h : gN M 0 0 = 0) : sS M 0 0 (iI 0) = M := by
  refine Prod.ext rfl ?_
  funext c f
  show (if c = 0 ∧ f = 0 then iI 0 else M.2 c f) = M.2 c f
  split
  · next t =>
    rw [t.1, t.2, ← gN_i, h]
  · rfl
theorem rl_grp {C T : gM} {A B : Int → Int32} (h : rl C A) {g : Int} (hr : ∀ j : Int, 0 ≤ j → j < g → (0 ≤ gA T 2 j ∧ gA T 2 j ≤ 2) ∧ 1 ≤ gA T 3 j ∧ gA T 3 j ≤ 60) (hm : ∀ j : Int, 0 ≤ j → j < g → aI B (2 * j) = gA T 2 j ∧ vG B j = gA T 3 j) : ∀ n : Nat, (n : Int) ≤ g → rl (grpM C T n) (grX A B n)
  | 0, _ => h
  | n + 1, hn => by
    have ih := rl_grp h hr hm n (by omega)
    have m := hm n (by omega) (by omega)
    rw [show ((n + 1 : Nat) : Int) = (n : Int) + 1 by omega, grpM_s _ _ (by omega), grX_s _ _ (by omega), m.1, m.2]
    exact (rl_dyX ih (hr n (by omega) (by omega)).1 _).1
theorem st_passAll {w w1 w2 : gW} {b0 b1 b2 b3 : Nat} {z1 z2 : Int} (h : Rel w b0 b1 b2 b3) (h1 : po_X5_passAll w b0 b1 b2 b3 z1 w1) (h2 : po_X6_passAll w1 z2 w2) : Fin z1 z2 w2 := by
  have r := h.2.1
  have ht := h.2.2.2.2.2
  have o5 := h.1.2.2.2.2
  have o1 := h.1.1
  unfold po_X5_passAll at h1
  unfold po_X6_passAll at h2
  obtain ⟨T, eT⟩ : ∃ T, T = w 9 := ⟨_, rfl⟩
  rw [← eT] at ht o5 h1
  have e10 : w1 10 = w 10 := by
    rcases h1 with ⟨-, ⟨f, -, -, ew⟩, -⟩ | ⟨-, -, -, -, ew⟩
    · rw [ew]; rfl
    · rw [ew]
      show (if (10 : Nat) = b3 then _ else _) = w 10
      obtain ⟨-, -, -, p7, -⟩ := o1
      rw [if_neg (by omega)]
      rfl
  rw [e10] at h2
  obtain ⟨n, M', hR, hE, h2⟩ := h2
  have tM : tx T (sS (w 10) 0 0 (iI 0)) := ht
  have hl8 : gN (sS (w 10) 0 0 (iI 0)) 0 8 = gN T 0 1 := ht.1
  have fa := rdR_fact (M := sS (w 10) 0 0 (iI 0)) (by rw [hl8]; exact o5) n M' hR
  obtain ⟨⟨f9, f8, f12, f10⟩, k1, k3, k4, k5, k44, k6⟩ := fa
  have k1 : M'.1 1 = (w 10).1 1 := k1
  have k3 : M'.1 3 = (w 10).1 3 := k3
  have k4 : M'.1 4 = (w 10).1 4 := k4
  have k5 : M'.1 5 = (w 10).1 5 := k5
  have k44 : gN M' 0 4 = gN (w 10) 0 4 := k44
  have k6 : gN M' 0 6 = gN (w 10) 0 6 := k6
  have k00 : gN M' 0 0 = 0 := rdR_00 n M' hR
  have hRel : ∀ x : Int, Rel (up (up w 9 (rgW T x)) 10 M') b0 b1 b2 b3 := fun x =>
    Rel_tx h (by rw [rgW_len]; exact o5) k1 k3 k4 k44 k6 (by rw [f8, hl8, rgW_len]) (fun i i0 i1 => by
      rw [rgW_len] at i1
      rw [rgW_ch]
      unfold gA
      rw [k5]
      exact ht.2 i i0 i1)
  rw [f8, hl8] at hE
  rcases rd_all o5 tM n M' hR with ⟨a1, a2⟩ | ⟨a1, a2, a3⟩
  · rcases h2 with ⟨d1, f1, fw⟩ | ⟨d1, f1, fw⟩
    · rcases h1 with ⟨-, ⟨f, e1, c1, ew⟩, -⟩ | ⟨c1, c2, c3, e1, ew⟩
      · have ef := rfa_u a2 c1
        refine ⟨by rw [e1, f1, ef], b0, b1, b2, b3, ?_⟩
        rw [fw, ew]
        exact hRel f
      · exact absurd ⟨c1, c2, c3⟩ (rfa_ok a2)
    · exact absurd a1 d1
  · rcases h2 with ⟨d1, f1, fw⟩ | ⟨d1, f1, fw⟩
    · exact absurd d1 a1
    · obtain ⟨⟨i0, i1⟩, i2, i3, i4, i5, i6⟩ := a2
      have e9 : gN M' 0 9 = gN T 0 1 := by omega
      rw [e9] at i2 i3 i4 i6
      have ok : rok T := ⟨i2, by omega, i4⟩
      rcases h1 with ⟨-, ⟨f, e1, c1, ew⟩, -⟩ | ⟨c1, c2, c3, e1, ew⟩
      · exact absurd ok (rfa_ok c1)
      · have gr := rg_grpI (M := T) o5.1 o5.2 i2
        have hm : ∀ j : Int, 0 ≤ j → j < gN M' 0 12 → aI (M'.1 6) (2 * j) = gA (rgW T (gN T 0 1)) 2 j ∧ vG (M'.1 6) j = gA (rgW T (gN T 0 1)) 3 j := by
          intro j j0 j1
          have s := i6 j j0 (by omega)
          have s2 := (gr.2 j j0 (by omega)).2
          refine ⟨s.1, ?_⟩
          unfold vG
          rw [s.2]
          omega
        have rg := rl_grp r (g := gN M' 0 12) (fun j j0 j1 => gr.2 j j0 (by omega)) hm (gN M' 0 12).toNat (by omega)
        rw [Int.toNat_of_nonneg (by omega)] at rg
        rw [i3] at e1 ew
        refine ⟨?_, b3, b0, b1, b2, ?_⟩
        · rw [e1, f1]
          have s := sum_cg (f := gA (rgW T (gN T 0 1)) 3) (g := vG (M'.1 6)) (gN M' 0 12).toNat (fun j j0 j1 => (hm j j0 (by omega)).2.symm)
          rw [Int.toNat_of_nonneg (by omega)] at s
          rw [s]
        · have act := Rel_act (hRel (gN T 0 1)) rg
          have e : w2 = up (up (recW (up (up w 9 (rgW T (gN T 0 1))) 10 M') b0 b1 b2 b3) 1 (grpM (w 1) (rgW T (gN T 0 1)) (gN M' 0 12))) 10 (sF (recS (sS (up (up w 9 (rgW T (gN T 0 1))) 10 M' 10) 0 0 (iI 0))) 1 (grX ((w 10).1 1) (M'.1 6) (gN M' 0 12))) := by
            rw [fw, up_s, sS_00 k00, ew]
            funext j
            by_cases q : j = 10
            · rw [q, up_s, up_s]
            · rw [up_n _ _ q, up_n _ _ q]
              by_cases q1 : j = 1
              · rw [q1, up_s, up_s]
              · rw [up_n _ _ q1, up_n _ _ q1]
                unfold recW
                by_cases q4 : j = 4
                · rw [q4, up_s, up_s]; rfl
                · rw [up_n _ _ q4, up_n _ _ q4]
                  by_cases q3 : j = b3
                  · rw [q3, up_s, up_s]; rfl
                  · rw [up_n _ _ q3, up_n _ _ q3, up_n _ _ q]
          rw [e]
          exact act
