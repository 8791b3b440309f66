/-- the groups that are read are days of a weather -/
theorem rg_grp {M : gM} : ∀ (n : Nat), (n : Int) ≤ 60 → (∀ q : Int, 0 ≤ q → q < n → rgO M q) → (0 ≤ rgN M n ∧ rgN M n ≤ 60) ∧ (0 ≤ gN (rgW M n) 0 4 ∧ gN (rgW M n) 0 4 ≤ n) ∧ ∀ g : Int, 0 ≤ g → g < gN (rgW M n) 0 4 → (0 ≤ gA (rgW M n) 2 g ∧ gA (rgW M n) 2 g ≤ 2) ∧ 1 ≤ gA (rgW M n) 3 g ∧ gA (rgW M n) 3 g ≤ 60
  | 0, _, _ => by
    refine ⟨⟨Int.le_refl _, by show (0 : Int) ≤ 60; decide⟩, ⟨by show (0 : Int) ≤ 0; decide, by show (0 : Int) ≤ 0; decide⟩, fun g h0 h1 => ?_⟩
    have h1 : g < 0 := h1
    omega
  | n + 1, hn, ho => by
    obtain ⟨a1, a2, a3⟩ := rg_grp n (by omega) (fun q q0 q1 => ho q q0 (by omega))
    have hx := ho n (by omega) (by omega)
    have en : ((n + 1 : Nat) : Int) = (n : Int) + 1 := by omega
    rw [en]
    rcases hx with ⟨hL, hn1⟩ | ⟨hL, hd, hg, hz, h60⟩
    · obtain ⟨e1, e2, e3, e4⟩ := rg_stepL (M := M) (x := (n : Int)) (by omega) (by omega) hL hn1 a2 (fun q q0 q1 => ho q q0 (by omega))
      refine ⟨by omega, e2, fun g h0 h1 => ?_⟩
      have e5 := gN_opnG (rgW M n) (wOf (gA M 1 n)) ⟨by omega, by omega⟩
      rw [e4] at h1 ⊢
      rw [e5] at h1
      unfold opnG
      simp (decide := true) only [gA_sS, gA_sA, true_and, false_and, if_false]
      by_cases hg : g = gN (rgW M n) 0 4
      · rw [if_pos hg, if_pos hg]
        have hw : 0 ≤ wOf (gA M 1 n) ∧ wOf (gA M 1 n) ≤ 2 := by
          unfold wOf
          split
          · omega
          · split <;> omega
        rw [iI_t ⟨by omega, by omega⟩, iI_t ⟨by omega, by omega⟩]
        omega
      · rw [if_neg hg, if_neg hg]
        exact a3 g h0 (by omega)
    · obtain ⟨e1, e2, e3, e4⟩ := rg_stepD (M := M) (x := (n : Int)) (by omega) hL hd hg hz h60 a2 (fun q q0 q1 => ho q q0 (by omega))
      have hd2 : 48 ≤ gA M 1 n ∧ gA M 1 n ≤ 57 := hd
      refine ⟨by omega, e2, fun g h0 h1 => ?_⟩
      rw [e4] at h1 ⊢
      have h1 : g < gN (rgW M n) 0 4 := h1
      simp (decide := true) only [gA_sA, true_and, false_and, if_false]
      refine ⟨(a3 g h0 h1).1, ?_⟩
      split
      · rw [iI_t ⟨by omega, by omega⟩]; omega
      · exact (a3 g h0 h1).2
theorem rg_grpI {M : gM} {x : Int} (h0 : 0 ≤ x) (h60 : x ≤ 60) (ho : ∀ q : Int, 0 ≤ q → q < x → rgO M q) : gN (rgW M x) 0 4 ≤ x ∧ ∀ g : Int, 0 ≤ g → g < gN (rgW M x) 0 4 → (0 ≤ gA (rgW M x) 2 g ∧ gA (rgW M x) 2 g ≤ 2) ∧ 1 ≤ gA (rgW M x) 3 g ∧ gA (rgW M x) 3 g ≤ 60 := by
  have h := rg_grp (M := M) x.toNat (by omega) (fun q q0 q1 => ho q q0 (by omega))
  rw [Int.toNat_of_nonneg h0] at h
  exact ⟨h.2.1.2, h.2.2⟩
/-- the days of the groups, one behind the other -/
noncomputable def grp (M T : gM) : Nat → gM
  | 0 => M
  | n + 1 => dyX (grp M T n) (gA T 2 n) (gA T 3 n)
noncomputable def grpM (M T : gM) (x : Int) : gM := grp M T x.toNat
theorem grpM_0 (M T : gM) : grpM M T 0 = M := rfl
theorem grpM_s (M T : gM) {x : Int} (h : 0 ≤ x) : grpM M T (x + 1) = dyX (grpM M T x) (gA T 2 x) (gA T 3 x) := by
  unfold grpM
  rw [toNat_s h]
  show dyX _ (gA T 2 (x.toNat : Int)) (gA T 3 (x.toNat : Int)) = _
  rw [Int.toNat_of_nonneg h]
theorem wf_grp {M T : gM} (h : wf M) : ∀ n : Nat, wf (grp M T n)
  | 0 => h
  | n + 1 => wf_dyX _ _ (wf_grp h n)
theorem wf_grpM {M : gM} (T : gM) (x : Int) (h : wf M) : wf (grpM M T x) := wf_grp h _
