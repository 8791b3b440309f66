/-! one state of the moss, and the reference's row of numbers -/
def rlS (C : gM) (A : Int → Int32) : Prop := (aI A 0 = gN C 0 8 ∧ aI A 1 = gN C 0 9 ∧ aI A 2 = gN C 0 11 ∧ aI A 3 = gN C 0 12) ∧ (aI A 4 = cntI (pLy C) (gN C 7 6) ∧ aI A 5 = gN C 7 6 ∧ aI A 6 = gN C 0 13) ∧ (aI A 7 = gN C 14 5 - gN C 14 4 ∧ aI A 8 = gN C 14 5) ∧ (aI A 9 = gN C 0 10 ∧ aI A 10 = (gN C 0 10 + 5) % 10)
def rlC (C : gM) (A : Int → Int32) : Prop := ∀ c : Int, 0 ≤ c → c ≤ 9 → aI A (11 + 3 * c + 0) = gA C 4 c ∧ aI A (11 + 3 * c + 1) = gA C 5 c ∧ aI A (11 + 3 * c + 2) = gA C 6 c
def rlP (C : gM) (A : Int → Int32) : Prop := ∀ p : Int, 0 ≤ p → p ≤ 19 → aI A (41 + 3 * p + 0) = gA C 1 p ∧ aI A (41 + 3 * p + 1) = gA C 2 p ∧ aI A (41 + 3 * p + 2) = gA C 3 p
def rlR (C : gM) (A : Int → Int32) : Prop := (∀ r : Int, 0 ≤ r → r < gN C 7 6 → pLy C r → (aI A (101 + 6 * cntI (pLy C) r + 0) = r ∧ aI A (101 + 6 * cntI (pLy C) r + 1) = gA C 8 r ∧ aI A (101 + 6 * cntI (pLy C) r + 2) = gA C 9 r) ∧ aI A (101 + 6 * cntI (pLy C) r + 3) = gA C 10 r ∧ aI A (101 + 6 * cntI (pLy C) r + 4) = gA C 11 r ∧ aI A (101 + 6 * cntI (pLy C) r + 5) = gA C 12 r) ∧ wr A ∧ ∀ q : Int, 0 ≤ q → q < 60 → 0 ≤ aI A (101 + 6 * q + 5) ∧ aI A (101 + 6 * q + 5) ≤ 1
def rlD (C : gM) (A : Int → Int32) : Prop := ∀ d : Int, 0 ≤ d → d < gN C 14 5 - gN C 14 4 → aI A (461 + 4 * d + 0) = gA C 15 (gN C 14 4 + d) ∧ aI A (461 + 4 * d + 1) = gA C 16 (gN C 14 4 + d) ∧ aI A (461 + 4 * d + 2) = gA C 17 (gN C 14 4 + d) ∧ aI A (461 + 4 * d + 3) = gA C 18 (gN C 14 4 + d)
/-- what a state keeps to -/
def rlI (C : gM) : Prop := (cntI (pLy C) (gN C 7 6) ≤ 60 ∧ ∀ r : Int, gN C 7 6 ≤ r → r < 120 → ¬ pLy C r) ∧ (∀ p : Int, 0 ≤ p → p ≤ 19 → 0 ≤ gA C 1 p ∧ (0 ≤ gA C 2 p ∧ gA C 2 p ≤ 9) ∧ 0 ≤ gA C 3 p ∧ gA C 3 p ≤ 9) ∧ sumX (gA C 1) 20 + gN C 7 6 = 120 ∧ (∀ c : Int, 0 ≤ c → c ≤ 9 → 0 ≤ gA C 4 c ∧ gA C 4 c ≤ 20) ∧ ∀ d : Int, gN C 14 4 ≤ d → d < gN C 14 5 → (0 ≤ gA C 15 d ∧ gA C 15 d ≤ 9) ∧ 0 ≤ gA C 16 d ∧ gA C 16 d ≤ 9
def rl (C : gM) (A : Int → Int32) : Prop := wf C ∧ rlI C ∧ rlS C A ∧ rlC C A ∧ rlP C A ∧ rlR C A ∧ rlD C A
theorem cntI_mn (p : Int → Prop) {x : Int} (h : 0 ≤ x) : ∀ k : Nat, cntI p x ≤ cntI p (x + k)
  | 0 => by
    rw [show x + ((0 : Nat) : Int) = x by omega]
    exact Int.le_refl _
  | k + 1 => by
    have ih := cntI_mn p h k
    rw [show x + ((k + 1 : Nat) : Int) = x + k + 1 by omega]
    by_cases q : p (x + k)
    · rw [cntI_t (by omega) q]; omega
    · rw [cntI_f (by omega) q]; omega
theorem cntI_mono (p : Int → Prop) {x y : Int} (h : 0 ≤ x) (hy : x ≤ y) : cntI p x ≤ cntI p y := by
  have e := cntI_mn p h (y - x).toNat
  rwa [show x + ((y - x).toNat : Int) = y by omega] at e
theorem cntI_lt {p : Int → Prop} {x y : Int} (h : 0 ≤ x) (hy : x < y) (hp : p x) : cntI p x < cntI p y := by
  have e := cntI_mono p (x := x + 1) (y := y) (by omega) (by omega)
  rw [cntI_t h hp] at e
  omega
/-- what counts is what holds below -/
theorem cnt_cg {p q : Int → Prop} : ∀ n : Nat, (∀ r : Int, 0 ≤ r → r < n → (p r ↔ q r)) → cntI p n = cntI q n
  | 0, _ => rfl
  | n + 1, h => by
    have ih := cnt_cg n (fun r r0 r1 => h r r0 (by omega))
    rw [show ((n + 1 : Nat) : Int) = (n : Int) + 1 by omega]
    have hn := h n (by omega) (by omega)
    by_cases e : p n
    · rw [cntI_t (by omega) e, cntI_t (by omega) (hn.1 e), ih]
    · rw [cntI_f (by omega) e, cntI_f (by omega) (fun t => e (hn.2 t)), ih]
theorem cntI_cg {p q : Int → Prop} {x : Int} (hx : 0 ≤ x) (h : ∀ r : Int, 0 ≤ r → r < x → (p r ↔ q r)) : cntI p x = cntI q x := by
  have e := cnt_cg (p := p) (q := q) x.toNat (fun r r0 r1 => h r r0 (by omega))
  rwa [Int.toNat_of_nonneg hx] at e
/-- it is about the cells alone -/
theorem rlR_c {C C' : gM} {A A' : Int → Int32} (h : rlR C A) (hI : cntI (pLy C) (gN C 7 6) ≤ 60) (h1 : ∀ c : Nat, 8 ≤ c → c ≤ 13 → ∀ r, gA C' c r = gA C c r) (h2 : gN C' 7 6 = gN C 7 6) (h3 : ∀ i : Int, 101 ≤ i → i < 461 → aI A' i = aI A i) : rlR C' A' := by
  have hp : pLy C' = pLy C := by
    funext r
    unfold pLy
    rw [h1 13 (by decide) (by decide)]
  obtain ⟨g1, g2, g3⟩ := h
  have hr : ∀ q k : Int, 0 ≤ q → q < 60 → 0 ≤ k → k < 6 → aI A' (101 + 6 * q + k) = aI A (101 + 6 * q + k) := fun q k a b c d => h3 _ (by omega) (by omega)
  refine ⟨fun r r0 r1 hl => ?_, fun q q0 q1 => ?_, fun q q0 q1 => ?_⟩
  · rw [hp] at hl ⊢
    rw [h2] at r1
    have k0 := (cntI_le (pLy C) r0).1
    have k1 := cntI_lt r0 r1 hl
    rw [hr _ 0 k0 (by omega) (by decide) (by decide), hr _ 1 k0 (by omega) (by decide) (by decide), hr _ 2 k0 (by omega) (by decide) (by decide), hr _ 3 k0 (by omega) (by decide) (by decide), hr _ 4 k0 (by omega) (by decide) (by decide), hr _ 5 k0 (by omega) (by decide) (by decide), h1 8 (by decide) (by decide), h1 9 (by decide) (by decide), h1 10 (by decide) (by decide), h1 11 (by decide) (by decide), h1 12 (by decide) (by decide)]
    exact g1 r r0 r1 hl
  · rw [hr q 3 q0 q1 (by decide) (by decide), hr q 4 q0 q1 (by decide) (by decide)]; exact g2 q q0 q1
  · rw [hr q 5 q0 q1 (by decide) (by decide)]; exact g3 q q0 q1
theorem rlC_c {C C' : gM} {A A' : Int → Int32} (h : rlC C A) (h1 : ∀ c : Nat, 4 ≤ c → c ≤ 6 → ∀ r, gA C' c r = gA C c r) (h3 : ∀ i : Int, 11 ≤ i → i < 41 → aI A' i = aI A i) : rlC C' A' := by
  intro c c0 c1
  rw [h3 _ (by omega) (by omega), h3 _ (by omega) (by omega), h3 _ (by omega) (by omega), h1 4 (by decide) (by decide), h1 5 (by decide) (by decide), h1 6 (by decide) (by decide)]
  exact h c c0 c1
theorem rlP_c {C C' : gM} {A A' : Int → Int32} (h : rlP C A) (h1 : ∀ c : Nat, 1 ≤ c → c ≤ 3 → ∀ r, gA C' c r = gA C c r) (h3 : ∀ i : Int, 41 ≤ i → i < 101 → aI A' i = aI A i) : rlP C' A' := by
  intro c c0 c1
  rw [h3 _ (by omega) (by omega), h3 _ (by omega) (by omega), h3 _ (by omega) (by omega), h1 1 (by decide) (by decide), h1 2 (by decide) (by decide), h1 3 (by decide) (by decide)]
  exact h c c0 c1
theorem rlD_c {C C' : gM} {A A' : Int → Int32} (h : rlD C A) (hw : wf C) (h1 : ∀ c : Nat, 15 ≤ c → c ≤ 18 → ∀ r, gA C' c r = gA C c r) (h4 : gN C' 14 4 = gN C 14 4) (h5 : gN C' 14 5 = gN C 14 5) (h3 : ∀ i : Int, 461 ≤ i → i < 941 → aI A' i = aI A i) : rlD C' A' := by
  intro d d0 d1
  rw [h4, h5] at d1
  obtain ⟨-, w1, -⟩ := hw
  rw [h4, h3 _ (by omega) (by omega), h3 _ (by omega) (by omega), h3 _ (by omega) (by omega), h3 _ (by omega) (by omega), h1 15 (by decide) (by decide), h1 16 (by decide) (by decide), h1 17 (by decide) (by decide), h1 18 (by decide) (by decide)]
  exact h d d0 d1
theorem rlS_c {C C' : gM} {A A' : Int → Int32} (h : rlS C A) (h1 : ∀ r, gA C' 13 r = gA C 13 r) (h2 : ∀ c f : Nat, gN C' c f = gN C c f) (h3 : ∀ i : Int, 0 ≤ i → i < 11 → aI A' i = aI A i) : rlS C' A' := by
  have hp : pLy C' = pLy C := by
    funext r
    unfold pLy
    rw [h1]
  unfold rlS
  rw [hp, h2, h2, h2, h2, h2, h2, h2, h2, h2, h3 0 (by decide) (by decide), h3 1 (by decide) (by decide), h3 2 (by decide) (by decide), h3 3 (by decide) (by decide), h3 4 (by decide) (by decide), h3 5 (by decide) (by decide), h3 6 (by decide) (by decide), h3 7 (by decide) (by decide), h3 8 (by decide) (by decide), h3 9 (by decide) (by decide), h3 10 (by decide) (by decide)]
  exact h
/-- a right is lent -/
theorem rl_lend {C : gM} {A : Int → Int32} (h : rl C A) {pl co : Int} (hp : 0 ≤ pl ∧ pl ≤ 19) (hc : 0 ≤ co ∧ co ≤ 9) (hw : wf (sA C 3 pl (iI co))) : rl (sA C 3 pl (iI co)) (st A (41 + 3 * pl + 2) (iI co)) := by
  obtain ⟨w, i, a1, a2, a3, a4, a5⟩ := h
  have e : ∀ c : Nat, ¬ c = 3 → ∀ r, gA (sA C 3 pl (iI co)) c r = gA C c r := fun c q r => by rw [gA_sA, if_neg (by rintro ⟨q1, -⟩; exact q q1)]
  have hv : (iI co).toInt = co := iI_t ⟨by omega, by omega⟩
  have eN : ∀ c f : Nat, gN (sA C 3 pl (iI co)) c f = gN C c f := fun _ _ => rfl
  have hpl : pLy (sA C 3 pl (iI co)) = pLy C := by
    funext r
    unfold pLy
    rw [e 13 (by decide)]
  refine ⟨hw, ?_, rlS_c a1 (e 13 (by decide)) eN (fun i _ _ => aI_n _ _ (by omega)), rlC_c a2 (fun c _ _ => e c (by omega)) (fun i _ _ => aI_n _ _ (by omega)), ?_, rlR_c a4 i.1.1 (fun c _ _ => e c (by omega)) rfl (fun i _ _ => aI_n _ _ (by omega)), rlD_c a5 w (fun c _ _ => e c (by omega)) rfl rfl (fun i _ _ => aI_n _ _ (by omega))⟩
  · obtain ⟨b1, b2, b3, b4, b5⟩ := i
    refine ⟨?_, fun p p0 p1 => ?_, ?_, fun c c0 c1 => ?_, fun d d0 d1 => ?_⟩
    · rw [hpl]; exact ⟨b1.1, b1.2⟩
    · rw [e 1 (by decide), e 2 (by decide), gA_sA]
      refine ⟨(b2 p p0 p1).1, (b2 p p0 p1).2.1, ?_⟩
      split
      · rw [hv]; exact hc
      · exact (b2 p p0 p1).2.2
    · rw [show gA (sA C 3 pl (iI co)) 1 = gA C 1 from funext fun r => e 1 (by decide) r]; exact b3
    · rw [e 4 (by decide)]; exact b4 c c0 c1
    · rw [e 15 (by decide), e 16 (by decide)]; exact b5 d d0 d1
  · intro p p0 p1
    obtain ⟨c1, c2, c3⟩ := a3 p p0 p1
    rw [aI_n _ _ (by omega), aI_n _ _ (by omega), e 1 (by decide), e 2 (by decide), gA_sA, st_aI]
    refine ⟨c1, c2, ?_⟩
    by_cases q : p = pl
    · rw [if_pos (by omega), if_pos ⟨rfl, q⟩]
    · rw [if_neg (by omega), if_neg (by rintro ⟨-, q1⟩; exact q q1)]; exact c3
