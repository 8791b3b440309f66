theorem rl_c {C : gM} {A A' : Int → Int32} (h : rl C A) (h3 : ∀ i : Int, 0 ≤ i → i < 941 → aI A' i = aI A i) : rl C A' := by
  obtain ⟨w, i, a1, a2, a3, a4, a5⟩ := h
  exact ⟨w, i, rlS_c a1 (fun _ => rfl) (fun _ _ => rfl) (fun i _ _ => h3 i (by omega) (by omega)), rlC_c a2 (fun _ _ _ _ => rfl) (fun i _ _ => h3 i (by omega) (by omega)), rlP_c a3 (fun _ _ _ _ => rfl) (fun i _ _ => h3 i (by omega) (by omega)), rlR_c a4 i.1.1 (fun _ _ _ _ => rfl) rfl (fun i _ _ => h3 i (by omega) (by omega)), rlD_c a5 w (fun _ _ _ _ => rfl) rfl rfl (fun i _ _ => h3 i (by omega) (by omega))⟩
/-- the reference's bounds from a state's -/
theorem rl_wA {C : gM} {A : Int → Int32} (h : rl C A) : wA A := by
  obtain ⟨w, i, a1, a2, a3, a4, a5⟩ := h
  obtain ⟨w1, w2, w3, w4, w5, w6, w7, w8, w9⟩ := w
  obtain ⟨s1, s2, s3, s4⟩ := a1
  have k := (cntI_le (pLy C) w1.1).1
  have k2 := i.1.1
  refine ⟨by omega, a4.2.1, by omega, by omega⟩
def bb (b0 b1 b2 b3 : Nat) : Nat → Nat
  | 0 => b0
  | 1 => b1
  | 2 => b2
  | _ => b3
/-- both sides' worlds -/
def Rel (w : gW) (b0 b1 b2 b3 : Nat) : Prop := okW w b0 b1 b2 b3 ∧ rl (w 1) ((w 10).1 1) ∧ gN (w 10) 0 4 = gN (w 4) 0 4 ∧
  (∀ m : Nat, (m : Int) < gN (w 4) 0 4 → rl (w (bb b0 b1 b2 b3 m)) (fun i => (w 10).1 3 (941 * (gN (w 4) 0 4 - 1 - m) + i))) ∧
  (gN (w 0) 0 5 = gN (w 10) 0 6 ∧ (¬ gN (w 0) 0 5 = 0 → rl (w 2) ((w 10).1 4))) ∧
  (gN (w 10) 0 8 = gN (w 9) 0 1 ∧ ∀ i : Int, 0 ≤ i → i < gN (w 9) 0 1 → gA (w 10) 5 i = gA (w 9) 1 i)
theorem Rel_mO {w : gW} {b0 b1 b2 b3 : Nat} (h : Rel w b0 b1 b2 b3) : mO w := by
  obtain ⟨⟨o1, o2, o3, o4, o5⟩, r, e4, hs, hk, ht, -⟩ := h
  have hw := rl_wA r
  obtain ⟨wf1, i, a1, a2, a3, a4, a5⟩ := r
  obtain ⟨w1, w2, w3, w4, w5, w6, w7, w8, w9⟩ := wf1
  obtain ⟨i1, i2, i3, i4, i5⟩ := i
  have e7 := a1.2.2.1.1
  refine ⟨hw, by omega, fun d d0 d1 => ?_, by omega, by omega, fun co c0 c1 => ?_, a4.2.2⟩
  · obtain ⟨g1, g2, -⟩ := a5 d d0 (by omega)
    rw [g1, g2]
    exact i5 _ (by omega) (by omega)
  · rw [(a2 co c0 c1).1]; exact i4 co c0 c1
theorem Rel_open {w : gW} {b0 b1 b2 b3 : Nat} (h : Rel w b0 b1 b2 b3) {pl : Int} (hp : 0 ≤ pl ∧ pl ≤ 19) (hl : ¬ aI ((w 10).1 1) (41 + 3 * pl + 0) = 0) : gN (w 1) 7 6 < 120 := by
  obtain ⟨-, ⟨wf1, ⟨i1, i2, i3, i4, i5⟩, a1, a2, a3, a4, a5⟩, -⟩ := h
  rw [(a3 pl hp.1 hp.2).1] at hl
  have key : ∀ n : Nat, (n : Int) ≤ 20 → 0 ≤ sumX (gA (w 1) 1) n ∧ (pl < n → 1 ≤ sumX (gA (w 1) 1) n) := by
    intro n
    induction n with
    | zero => intro _; exact ⟨Int.le_refl _, fun q => absurd q (by omega)⟩
    | succ k ih =>
      intro hk
      obtain ⟨j1, j2⟩ := ih (by omega)
      have g := (i2 (k : Int) (by omega) (by omega)).1
      rw [show ((k + 1 : Nat) : Int) = (k : Int) + 1 by omega, sumX_s _ (by omega)]
      refine ⟨by omega, fun q => ?_⟩
      by_cases e : pl = k
      · rw [e] at hl; omega
      · have := j2 (by omega); omega
  have h20 := (key 20 (by decide)).2 (by omega)
  have h20 : 1 ≤ sumX (gA (w 1) 1) 20 := h20
  omega
