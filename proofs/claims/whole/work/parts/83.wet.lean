theorem wth_o (A : Int → Int32) (wt : Int) {i : Int} (h : ¬ (i - 104) % 6 = 0) : ∀ n : Nat, aI (wthA A wt n) i = aI A i
  | 0 => rfl
  | n + 1 => by
    have ih := wth_o A wt h n
    rw [wthA_s]
    split
    · rw [aI_n _ _ (by omega)]; exact ih
    · exact ih
theorem wth_hi (A : Int → Int32) (wt : Int) {q : Int} : ∀ n : Nat, (n : Int) ≤ q → aI (wthA A wt n) (101 + 6 * q + 3) = aI A (101 + 6 * q + 3)
  | 0, _ => rfl
  | n + 1, h => by
    have ih := wth_hi A wt (q := q) n (by omega)
    rw [wthA_s]
    split
    · rw [aI_n _ _ (by omega)]; exact ih
    · exact ih
theorem wth_v {A : Int → Int32} (wt : Int) {q : Int} (hq : 0 ≤ q) : ∀ n : Nat, q < n → aI (wthA A wt n) (101 + 6 * q + 3) = if aI A (101 + 6 * q + 5) = 0 then clp (aI A (101 + 6 * q + 3) - drr wt (aI A (101 + 6 * q + 4))) else aI A (101 + 6 * q + 3)
  | 0, h => by omega
  | n + 1, h => by
    rw [wthA_s]
    by_cases e : q = n
    · have o5 := wth_o A wt (i := 101 + 6 * q + 5) (by omega) n
      have o4 := wth_o A wt (i := 101 + 6 * q + 4) (by omega) n
      have o3 := wth_hi A wt (q := q) n (by omega)
      rw [← e, o5, o4, o3]
      by_cases t : aI A (101 + 6 * q + 5) = 0
      · rw [if_pos t, if_pos t, aI_e]
        have c := clp_le (aI A (101 + 6 * q + 3) - drr wt (aI A (101 + 6 * q + 4)))
        exact iI_t ⟨by omega, by omega⟩
      · rw [if_neg t, if_neg t]; exact o3
    · have ih := wth_v (A := A) wt hq n (by omega)
      split
      · rw [aI_n _ _ (by omega)]; exact ih
      · exact ih
theorem chg_drr {v t : Int} (hv : 0 ≤ v ∧ v ≤ 2) (ht : t = 0 ∨ t = 1) : chg v t = - drr v t := by
  unfold chg drr
  rcases (show v = 0 ∨ v = 1 ∨ v = 2 by omega) with rfl | rfl | rfl <;> rcases ht with rfl | rfl <;> rfl
theorem clp_mm (x : Int) : max 0 (min 60 x) = clp x := by
  unfold clp
  split
  · omega
  · split <;> omega
/-- a day's weather -/
theorem rl_wet {C : gM} {A : Int → Int32} (h : rl C A) {v : Int} (hv : 0 ≤ v ∧ v ≤ 2) : rl (wet1 C v) (wthX A v (aI A 4)) := by
  have hw := wf_wet v h.1
  obtain ⟨w, i, a1, a2, a3, a4, a5⟩ := h
  have c2 := a1.2.1.1
  have i1 := i.1.1
  have k4 := (cntI_le (pLy C) w.1.1).1
  have e : ∀ c : Nat, ¬ c = 10 → ∀ r, gA (wet1 C v) c r = gA C c r := fun c q r => by
    unfold wet1
    rw [gA_sF, if_neg q]
  have o : ∀ x : Int, ¬ (x - 104) % 6 = 0 → aI (wthX A v (aI A 4)) x = aI A x := fun x t => wth_o A v t _
  have lo : ∀ x : Int, x < 101 → aI (wthX A v (aI A 4)) x = aI A x := fun x t => wthX_lo A v _ t
  have hi : ∀ x : Int, 461 ≤ x → aI (wthX A v (aI A 4)) x = aI A x := fun x t => by
    by_cases q : (x - 104) % 6 = 0
    · have s := wth_hi A v (q := (x - 104) / 6) (aI A 4).toNat (by omega)
      rw [show 101 + 6 * ((x - 104) / 6) + 3 = x by omega] at s
      exact s
    · exact o x q
  have hpl : pLy (wet1 C v) = pLy C := by
    funext r
    unfold pLy
    rw [e 13 (by decide)]
  have g10 : ∀ r : Int, 0 ≤ r → r < gN C 7 6 → pLy C r → gA (wet1 C v) 10 r = if gA C 12 r = 0 then clp (gA C 10 r - drr v (gA C 11 r)) else gA C 10 r := by
    intro r r0 r1 hl
    unfold wet1
    rw [gA_sF, if_pos rfl]
    unfold wetF
    by_cases t : gA C 12 r = 0
    · rw [if_pos ⟨r0, r1, hl, t⟩, if_pos t, chg_drr hv (bz 11 (w.2.2.2.1 r)), ← Int.sub_eq_add_neg, clp_mm]
      have c := clp_le (gA C 10 r - drr v (gA C 11 r))
      exact iI_t ⟨by omega, by omega⟩
    · rw [if_neg (fun s => t s.2.2.2), if_neg t]; rfl
  refine ⟨hw, ?_, rlS_c a1 (e 13 (by decide)) (fun _ _ => rfl) (fun x _ _ => lo x (by omega)), rlC_c a2 (fun c _ _ => e c (by omega)) (fun x _ _ => lo x (by omega)), rlP_c a3 (fun c _ _ => e c (by omega)) (fun x _ _ => lo x (by omega)), ⟨fun r r0 r1 hr => ?_, wr_wthX v _ a4.2.1, fun q q0 q1 => ?_⟩, rlD_c a5 w (fun c _ _ => e c (by omega)) rfl rfl (fun x _ _ => hi x (by omega))⟩
  · obtain ⟨b1, b2, b3, b4, b5⟩ := i
    refine ⟨by rw [hpl]; exact b1, fun p p0 p1 => ?_, ?_, fun d d0 d1 => ?_, fun d d0 d1 => ?_⟩
    · rw [e 1 (by decide), e 2 (by decide), e 3 (by decide)]; exact b2 p p0 p1
    · rw [show gA (wet1 C v) 1 = gA C 1 from funext fun r => e 1 (by decide) r]; exact b3
    · rw [e 4 (by decide)]; exact b4 d d0 d1
    · rw [e 15 (by decide), e 16 (by decide)]; exact b5 d d0 d1
  · rw [hpl] at hr ⊢
    have r1 : r < gN C 7 6 := r1
    obtain ⟨⟨g0, g1, g2⟩, g3, g4, g5⟩ := a4.1 r r0 r1 hr
    have k0 := (cntI_le (pLy C) r0).1
    have k1 := cntI_lt r0 r1 hr
    have v3 : aI (wthX A v (aI A 4)) (101 + 6 * cntI (pLy C) r + 3) = _ := wth_v (A := A) v k0 (aI A 4).toNat (by omega)
    rw [g10 r r0 r1 hr, v3, g3, g4, g5, o _ (by omega), o _ (by omega), o _ (by omega), o _ (by omega), o _ (by omega), e 8 (by decide), e 9 (by decide), e 11 (by decide), e 12 (by decide)]
    exact ⟨⟨g0, g1, g2⟩, rfl, g4, g5⟩
  · rw [o _ (by omega)]
    exact a4.2.2 q q0 q1
