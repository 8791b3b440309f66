/-- the place of a text's fault; a text without one -/
def rfa (T : gM) (f : Int) : Prop := (f = gN T 0 1 ∧ (∀ q : Int, 0 ≤ q → q < gN T 0 1 → rgO T q) ∧ (gN (rgW T (gN T 0 1)) 0 4 = 0 ∨ rgN T (gN T 0 1) = 1)) ∨ (0 ≤ f ∧ f < gN T 0 1 ∧ (∀ q : Int, 0 ≤ q → q < f → rgO T q) ∧ ¬ rgO T f)
def rok (T : gM) : Prop := (∀ q : Int, 0 ≤ q → q < gN T 0 1 → rgO T q) ∧ 0 < gN (rgW T (gN T 0 1)) 0 4 ∧ ¬ rgN T (gN T 0 1) = 1
theorem rfa_u {T : gM} {f g : Int} (h1 : rfa T f) (h2 : rfa T g) : f = g := by
  rcases h1 with ⟨e, a, b⟩ | ⟨f0, f1, a, b⟩ <;> rcases h2 with ⟨e', a', b'⟩ | ⟨g0, g1, a', b'⟩
  · omega
  · exact absurd (a g g0 g1) b'
  · exact absurd (a' f f0 f1) b
  · rcases (show f < g ∨ f = g ∨ g < f by omega) with c | c | c
    · exact absurd (a' f f0 c) b
    · exact c
    · exact absurd (a g g0 c) b'
theorem rfa_ok {T : gM} {f : Int} (h : rfa T f) (k : rok T) : False := by
  obtain ⟨k1, k2, k3⟩ := k
  rcases h with ⟨e, a, b⟩ | ⟨f0, f1, a, b⟩
  · rcases b with b | b
    · omega
    · exact k3 b
  · exact b (k1 f f0 f1)
theorem rg_b {T : gM} {x : Int} (h0 : 0 ≤ x) (h1 : x ≤ 60) (ho : ∀ q : Int, 0 ≤ q → q < x → rgO T q) : (0 ≤ rgN T x ∧ rgN T x ≤ 60) ∧ (0 ≤ gN (rgW T x) 0 4 ∧ gN (rgW T x) 0 4 ≤ x) := by
  have s := rg_grp (M := T) x.toNat (by omega) (fun q q0 q1 => ho q q0 (by omega))
  rw [Int.toNat_of_nonneg h0] at s
  exact ⟨s.1, s.2.1⟩
theorem wOf_le (c : Int) : 0 ≤ wOf c ∧ wOf c ≤ 2 := by
  unfold wOf
  split
  · omega
  · split <;> omega
theorem rd_L {T : gM} {p : Int} (h0 : 0 ≤ p) (h1 : p < 60) (ho : ∀ q : Int, 0 ≤ q → q < p → rgO T q) (hN : ¬ rgN T p = 1) (hL : isL (gA T 1 p)) : rgN T (p + 1) = 0 ∧ (∀ q : Int, 0 ≤ q → q < p + 1 → rgO T q) ∧ gN (rgW T (p + 1)) 0 4 = gN (rgW T p) 0 4 + 1 ∧ ∀ j : Int, gA (rgW T (p + 1)) 2 j = (if j = gN (rgW T p) 0 4 then wOf (gA T 1 p) else gA (rgW T p) 2 j) ∧ gA (rgW T (p + 1)) 3 j = (if j = gN (rgW T p) 0 4 then 1 else gA (rgW T p) 3 j) := by
  have b := rg_b h0 (by omega) ho
  obtain ⟨e1, e2, e3, e4⟩ := rg_stepL h0 (by omega) hL hN b.2 ho
  have w := wOf_le (gA T 1 p)
  refine ⟨e1, e3, by rw [e4, gN_opnG _ _ ⟨by omega, by omega⟩], fun j => ?_⟩
  rw [e4]
  unfold opnG
  simp (decide := true) only [gA_sS, gA_sA, true_and, false_and, if_false]
  rw [iI_t ⟨by omega, by omega⟩]
  exact ⟨rfl, rfl⟩
theorem rd_D {T : gM} {p : Int} (h0 : 0 ≤ p) (h1 : p < 60) (ho : ∀ q : Int, 0 ≤ q → q < p → rgO T q) (hd : isDg (gA T 1 p)) (hg : 0 < gN (rgW T p) 0 4) (hz : ¬ rgN T p * 10 + (gA T 1 p - 48) = 0) (h60 : rgN T p * 10 + (gA T 1 p - 48) ≤ 60) : rgN T (p + 1) = rgN T p * 10 + (gA T 1 p - 48) ∧ (∀ q : Int, 0 ≤ q → q < p + 1 → rgO T q) ∧ gN (rgW T (p + 1)) 0 4 = gN (rgW T p) 0 4 ∧ ∀ j : Int, gA (rgW T (p + 1)) 2 j = gA (rgW T p) 2 j ∧ gA (rgW T (p + 1)) 3 j = (if j = gN (rgW T p) 0 4 - 1 then rgN T p * 10 + (gA T 1 p - 48) else gA (rgW T p) 3 j) := by
  have b := rg_b h0 (by omega) ho
  have hL : ¬ isL (gA T 1 p) := by unfold isL; unfold isDg at hd; omega
  obtain ⟨e1, e2, e3, e4⟩ := rg_stepD h0 hL hd hg hz h60 b.2 ho
  unfold isDg at hd
  refine ⟨e1, e3, by rw [e4]; rfl, fun j => ?_⟩
  rw [e4]
  simp (decide := true) only [gA_sA, true_and, false_and, if_false]
  rw [iI_t ⟨by omega, by omega⟩]
/-- the groups of both readers -/
def gmt (T : gM) (p : Int) (B : Int → Int32) : Prop := ∀ j : Int, 0 ≤ j → j < gN (rgW T p) 0 4 → aI B (2 * j) = gA (rgW T p) 2 j ∧ aI B (2 * j + 1) = gA (rgW T p) 3 j
theorem gmt_s {T : gM} {p p' g wt v : Int} {B : Int → Int32} (h : gmt T p B) (e0 : gN (rgW T p) 0 4 = g) (h0 : 0 ≤ g) (e1 : gN (rgW T p') 0 4 = g + 1) (e2 : ∀ j : Int, gA (rgW T p') 2 j = if j = g then wt else gA (rgW T p) 2 j) (e3 : ∀ j : Int, gA (rgW T p') 3 j = if j = g then v else gA (rgW T p) 3 j) (hw : 0 ≤ wt ∧ wt ≤ 2) (hv : 0 ≤ v ∧ v ≤ 60) : gmt T p' (st (st B (2 * g) (iI wt)) (2 * g + 1) (iI v)) := by
  intro j j0 j1
  rw [e1] at j1
  rw [e2, e3]
  by_cases q : j = g
  · rw [if_pos q, if_pos q, q, aI_n _ _ (by omega), aI_e, aI_e, iI_t ⟨by omega, by omega⟩, iI_t ⟨by omega, by omega⟩]
    exact ⟨rfl, rfl⟩
  · rw [if_neg q, if_neg q, aI_n _ _ (by omega), aI_n _ _ (by omega), aI_n _ _ (by omega), aI_n _ _ (by omega)]
    exact h j j0 (by omega)
def tx (T M : gM) : Prop := gN M 0 8 = gN T 0 1 ∧ ∀ i : Int, 0 ≤ i → i < gN T 0 1 → gA M 5 i = gA T 1 i
/-- behind a group that was read both readers stand alike -/
def rin (T M : gM) : Prop := (0 ≤ gN M 0 9 ∧ gN M 0 9 ≤ gN T 0 1) ∧ (∀ q : Int, 0 ≤ q → q < gN M 0 9 → rgO T q) ∧ gN (rgW T (gN M 0 9)) 0 4 = gN M 0 12 ∧ ¬ rgN T (gN M 0 9) = 1 ∧ (gN M 0 9 < gN T 0 1 → ¬ isL (gA T 1 (gN M 0 9)) → ¬ rgO T (gN M 0 9)) ∧ gmt T (gN M 0 9) (M.1 6)
theorem sg_tx {T M : gM} (h : tx T M) {x : Int} (h0 : 0 ≤ x) : (x < gN T 0 1 → sgX M x = gA T 1 x) ∧ (¬ x < gN T 0 1 → sgX M x = 0) := by
  unfold sgX
  rw [h.1]
  refine ⟨fun t => ?_, fun t => if_neg t⟩
  rw [if_pos t]
  exact h.2 x h0 t
theorem rin_9 {T N : gM} {a wt v g : Int} (ha : 0 ≤ a ∧ a ≤ 60) (hg : 0 ≤ g ∧ g ≤ 60) (h1 : a ≤ gN T 0 1) (h2 : ∀ q : Int, 0 ≤ q → q < a → rgO T q) (h3 : gN (rgW T a) 0 4 = g) (h4 : ¬ rgN T a = 1) (h5 : a < gN T 0 1 → ¬ isL (gA T 1 a) → ¬ rgO T a) (h6 : gmt T a (st (st (N.1 6) (2 * gN N 0 12) (iI wt)) (2 * gN N 0 12 + 1) (iI v))) : rin T (grp9 N a 1 wt v g) := by
  unfold rin
  rw [grp9_9 _ _ _ _ _ _ ⟨by omega, by omega⟩, grp9_12 _ _ _ _ _ _ ⟨by omega, by omega⟩]
  exact ⟨⟨ha.1, h1⟩, h2, h3, h4, h5, h6⟩
theorem rd_st {T N M' : gM} (hl : 0 ≤ gN T 0 1 ∧ gN T 0 1 ≤ 60) (ht : tx T N) (hi : rin T N) (hf : gN N 0 9 < gN T 0 1 ∨ gN N 0 12 = 0) (h : stG N M') : (gN M' 0 10 = 0 ∧ rfa T (gN M' 0 9)) ∨ (¬ gN M' 0 10 = 0 ∧ rin T M' ∧ 0 < gN M' 0 12) := by
  unfold stG at h
  obtain ⟨⟨p0, p1⟩, ho, hg, hN, hx, hm⟩ := hi
  obtain ⟨p, ep⟩ : ∃ p, p = gN N 0 9 := ⟨_, rfl⟩
  rw [← ep] at h p0 p1 ho hg hN hx hm hf
  have b := rg_b p0 (by omega) ho
  obtain ⟨s0a, s0b⟩ := sg_tx ht p0
  obtain ⟨s1a, s1b⟩ := sg_tx ht (x := p + 1) (by omega)
  obtain ⟨s2a, s2b⟩ := sg_tx ht (x := p + 1 + 1) (by omega)
  have lt0 : isD3 (sgX N p) → p < gN T 0 1 := fun t => by
    rcases (show p < gN T 0 1 ∨ ¬ p < gN T 0 1 by omega) with q | q
    · exact q
    · rw [s0b q] at t
      unfold isD3 at t
      omega
  rcases h with ⟨h1, e⟩ | ⟨h1, h2, e⟩ | ⟨h1, h2, e⟩ | ⟨h1, h2, h3, e⟩ | ⟨h1, h2, h3, e⟩ | ⟨h1, h2, h3, e⟩
  · refine Or.inl ?_
    rw [e, grp9_9 _ _ _ _ _ _ ⟨by omega, by omega⟩, grp9_10 _ _ _ _ _ _ (Or.inl rfl)]
    refine ⟨rfl, ?_⟩
    by_cases q : p < gN T 0 1
    · exact Or.inr ⟨p0, q, ho, hx q (by rw [← s0a q]; exact h1)⟩
    · have q2 : p = gN T 0 1 := by omega
      refine Or.inl ⟨q2, by rw [← q2]; exact ho, Or.inl ?_⟩
      rw [← q2]; omega
  all_goals
    have lp := lt0 h1
    rw [s0a lp] at h1 e
    obtain ⟨a1, a2, a3, a4⟩ := rd_L p0 (by omega) ho hN h1
    have w := wOf_le (gA T 1 p)
  · refine Or.inr ?_
    rw [e, grp9_10 _ _ _ _ _ _ (Or.inr rfl), grp9_12 _ _ _ _ _ _ ⟨by omega, by omega⟩]
    refine ⟨by decide, rin_9 ⟨by omega, by omega⟩ ⟨by omega, by omega⟩ (by omega) a2 (by omega) (by omega) (fun q q1 q2 => ?_) ?_, by omega⟩
    · rw [s1a q] at h2
      rcases q2 with q2 | q2
      · exact q1 q2.1
      · exact h2 q2.2.1
    · exact gmt_s hm hg (by omega) (by omega) (fun j => by rw [← hg]; exact (a4 j).1) (fun j => by rw [← hg]; exact (a4 j).2) w (by omega)
  all_goals
    have l1 : p + 1 < gN T 0 1 := by
      rcases (show p + 1 < gN T 0 1 ∨ ¬ p + 1 < gN T 0 1 by omega) with q | q
      · exact q
      · have := s1b q; omega
    rw [s1a l1] at h2
  · refine Or.inl ?_
    rw [e, grp9_9 _ _ _ _ _ _ ⟨by omega, by omega⟩, grp9_10 _ _ _ _ _ _ (Or.inl rfl)]
    refine ⟨rfl, Or.inr ⟨by omega, l1, a2, fun q => ?_⟩⟩
    rcases q with q | q
    · have := q.1; unfold isL at this; omega
    · have := q.2.2.2.1; omega
  all_goals
    rw [s1a l1] at h3
    try rw [s1a l1] at e
    obtain ⟨c1, c2, c3, c4⟩ := rd_D (T := T) (p := p + 1) (by omega) (by omega) a2 (by unfold isDg; omega) (by omega) (by omega) (by omega)
    rw [a1] at c1 c4
  · obtain ⟨h4, h5⟩ := h3
    have l2 : p + 1 + 1 < gN T 0 1 := by
      rcases (show p + 1 + 1 < gN T 0 1 ∨ ¬ p + 1 + 1 < gN T 0 1 by omega) with q | q
      · exact q
      · have := s2b q; omega
    rw [s2a l2] at h4 h5 e
    obtain ⟨d1, d2, d3, d4⟩ := rd_D (T := T) (p := p + 1 + 1) (by omega) (by omega) c2 (by unfold isDg; omega) (by omega) (by omega) (by omega)
    rw [c1] at d1 d4
    refine Or.inr ?_
    rw [e, grp9_10 _ _ _ _ _ _ (Or.inr rfl), grp9_12 _ _ _ _ _ _ ⟨by omega, by omega⟩]
    refine ⟨by decide, rin_9 ⟨by omega, by omega⟩ ⟨by omega, by omega⟩ (by omega) d2 (by omega) (by omega) (fun q q1 q2 => ?_) ?_, by omega⟩
    · rcases q2 with q2 | q2
      · exact q1 q2.1
      · have g1 := q2.2.1
        have g2 := q2.2.2.2.2
        unfold isDg at g1
        omega
    · refine gmt_s hm hg (by omega) (by omega) (fun j => ?_) (fun j => ?_) w ⟨by omega, by omega⟩
      · rw [(d4 j).1, (c4 j).1, ← hg]; exact (a4 j).1
      · rw [(d4 j).2, (c4 j).2, (a4 j).2]
        by_cases q : j = gN N 0 12
        · rw [if_pos (by omega), if_pos q]; omega
        · rw [if_neg (by omega), if_neg (by omega), if_neg (by omega), if_neg q]
  · refine Or.inl ?_
    rw [e, grp9_9 _ _ _ _ _ _ ⟨by omega, by omega⟩, grp9_10 _ _ _ _ _ _ (Or.inl rfl)]
    refine ⟨rfl, ?_⟩
    by_cases q : p + 1 + 1 < gN T 0 1
    · rw [s2a q] at h3
      refine Or.inr ⟨by omega, q, c2, fun q2 => ?_⟩
      rcases q2 with q2 | q2
      · have := q2.2; omega
      · have g1 := q2.2.1
        unfold isDg at g1
        omega
    · have q2 : p + 1 + 1 = gN T 0 1 := by omega
      rw [q2] at c1 c2 ⊢
      exact Or.inl ⟨rfl, c2, Or.inr (by omega)⟩
  · refine Or.inr ?_
    rw [e, grp9_10 _ _ _ _ _ _ (Or.inr rfl), grp9_12 _ _ _ _ _ _ ⟨by omega, by omega⟩]
    refine ⟨by decide, rin_9 ⟨by omega, by omega⟩ ⟨by omega, by omega⟩ (by omega) c2 (by omega) (by omega) (fun q q1 q2 => ?_) ?_, by omega⟩
    · rw [s2a q] at h3
      rcases q2 with q2 | q2
      · exact q1 q2.1
      · have g1 := q2.2.1
        have g2 := q2.2.2.2.2
        unfold isDg at g1
        omega
    · refine gmt_s hm hg (by omega) (by omega) (fun j => ?_) (fun j => ?_) w ⟨by omega, by omega⟩
      · rw [(c4 j).1, ← hg]; exact (a4 j).1
      · rw [(c4 j).2, (a4 j).2]
        by_cases q : j = gN N 0 12
        · rw [if_pos (by omega), if_pos q]; omega
        · rw [if_neg (by omega), if_neg (by omega), if_neg q]
theorem rd_all {T M : gM} (hl : 0 ≤ gN T 0 1 ∧ gN T 0 1 ≤ 60) (ht : tx T M) : ∀ (n : Nat) (M' : gM), rdR M n M' → (gN M' 0 10 = 0 ∧ rfa T (gN M' 0 9)) ∨ (¬ gN M' 0 10 = 0 ∧ rin T M' ∧ 0 < gN M' 0 12)
  | 0, M', h => by
    have z : gN (rgW T 0) 0 4 = 0 := rfl
    have q9 : gN (sS (sS M 0 9 (iI 0)) 0 12 (iI 0)) 0 9 = 0 := rfl
    have q12 : gN (sS (sS M 0 9 (iI 0)) 0 12 (iI 0)) 0 12 = 0 := rfl
    refine rd_st hl (N := sS (sS M 0 9 (iI 0)) 0 12 (iI 0)) ht ?_ (Or.inr q12) h
    unfold rin
    rw [q9, q12]
    refine ⟨⟨Int.le_refl _, hl.1⟩, fun q q0 q1 => by omega, z, by show ¬ (0 : Int) = 1; decide, fun t1 t2 t3 => ?_, fun j j0 j1 => by omega⟩
    rcases t3 with t3 | t3
    · exact t2 t3.1
    · have := t3.2.2.1; omega
  | n + 1, M', h => by
    obtain ⟨N, h1, ⟨h2, h2b⟩, h3⟩ := h
    have f := rdR_fact (M := M) (by rw [ht.1]; exact hl) n N h1
    rcases rd_all hl ht n N h1 with a | ⟨a1, a2, a3⟩
    · exact absurd a.1 h2
    · refine rd_st hl ⟨by rw [f.1.2.1]; exact ht.1, fun i i0 i1 => ?_⟩ a2 (Or.inl (by rw [f.1.2.1, ht.1] at h2b; exact h2b)) h3
      unfold gA
      rw [f.2.2.2.2.1]
      exact ht.2 i i0 i1
