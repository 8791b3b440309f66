/-- both sides alike, but for the day, the rows home and the turns -/
def rb (C : gM) (A : Int → Int32) : Prop := wf C ∧ rlI C ∧ ((aI A 0 = gN C 0 8 ∧ aI A 1 = gN C 0 9 ∧ aI A 3 = gN C 0 12) ∧ (aI A 4 = cntI (pLy C) (gN C 7 6) ∧ aI A 5 = gN C 7 6) ∧ aI A 7 = gN C 14 5 - gN C 14 4 ∧ aI A 8 = gN C 14 5) ∧ rlC C A ∧ rlP C A ∧ rlR C A ∧ rlD C A
theorem rl_rb {C : gM} {A : Int → Int32} (h : rl C A) : rb C A := ⟨h.1, h.2.1, ⟨⟨h.2.2.1.1.1, h.2.2.1.1.2.1, h.2.2.1.1.2.2.2⟩, ⟨h.2.2.1.2.1.1, h.2.2.1.2.1.2.1⟩, h.2.2.1.2.2.1.1, h.2.2.1.2.2.1.2⟩, h.2.2.2⟩
theorem rb_rl {C : gM} {A : Int → Int32} (h : rb C A) (q2 : aI A 2 = gN C 0 11) (q6 : aI A 6 = gN C 0 13) (q9 : aI A 9 = gN C 0 10) (q10 : aI A 10 = (gN C 0 10 + 5) % 10) : rl C A := by
  obtain ⟨w, i, ⟨⟨s0, s1, s3⟩, ⟨s4, s5⟩, s7, s8⟩, a⟩ := h
  exact ⟨w, i, ⟨⟨s0, s1, q2, s3⟩, ⟨s4, s5, q6⟩, ⟨s7, s8⟩, q9, q10⟩, a⟩
theorem rb_s {C C' : gM} {A A' : Int → Int32} (h : rb C A) (hw : wf C') (e : ∀ (c : Nat) r, gA C' c r = gA C c r) (eN : ∀ c f : Nat, ¬ (c = 0 ∧ (f = 10 ∨ f = 11 ∨ f = 13)) → gN C' c f = gN C c f) (eA : ∀ i : Int, 0 ≤ i → i < 941 → ¬ i = 2 → ¬ i = 6 → ¬ i = 9 → ¬ i = 10 → aI A' i = aI A i) : rb C' A' := by
  obtain ⟨w, i, s, a2, a3, a4, a5⟩ := h
  have hpl : pLy C' = pLy C := by
    funext r
    unfold pLy
    rw [e]
  have n1 := eN 7 6 (by decide)
  have n2 := eN 14 4 (by decide)
  have n3 := eN 14 5 (by decide)
  refine ⟨hw, ?_, ?_, rlC_c a2 (fun c _ _ => e c) (fun x _ _ => eA x (by omega) (by omega) (by omega) (by omega) (by omega) (by omega)), rlP_c a3 (fun c _ _ => e c) (fun x _ _ => eA x (by omega) (by omega) (by omega) (by omega) (by omega) (by omega)), rlR_c a4 i.1.1 (fun c _ _ => e c) n1 (fun x _ _ => eA x (by omega) (by omega) (by omega) (by omega) (by omega) (by omega)), rlD_c a5 w (fun c _ _ => e c) n2 n3 (fun x _ _ => eA x (by omega) (by omega) (by omega) (by omega) (by omega) (by omega))⟩
  · obtain ⟨b1, b2, b3, b4, b5⟩ := i
    refine ⟨by rw [hpl, n1]; exact b1, fun p p0 p1 => ?_, ?_, fun d d0 d1 => ?_, fun d d0 d1 => ?_⟩
    · rw [e, e, e]; exact b2 p p0 p1
    · rw [show gA C' 1 = gA C 1 from funext fun r => e 1 r, n1]; exact b3
    · rw [e]; exact b4 d d0 d1
    · rw [n2] at d0
      rw [n3] at d1
      rw [e, e]; exact b5 d d0 d1
  · have u : ∀ i : Int, 0 ≤ i → i < 9 → ¬ i = 2 → ¬ i = 6 → aI A' i = aI A i := fun x x0 x1 x2 x6 => eA x x0 (by omega) x2 x6 (by omega) (by omega)
    rw [u 0 (by decide) (by decide) (by decide) (by decide), u 1 (by decide) (by decide) (by decide) (by decide), u 3 (by decide) (by decide) (by decide) (by decide), u 4 (by decide) (by decide) (by decide) (by decide), u 5 (by decide) (by decide) (by decide) (by decide), u 7 (by decide) (by decide) (by decide) (by decide), u 8 (by decide) (by decide) (by decide) (by decide), hpl, n1, n2, n3, eN 0 8 (by decide), eN 0 9 (by decide), eN 0 12 (by decide)]
    exact s
theorem rb_hr {C : gM} {A : Int → Int32} (h : rb C A) {co : Int} (hc : 0 ≤ co ∧ co ≤ 9) (v : Int32) : rb (sA C 6 co v) (st A (11 + 3 * co + 2) v) := by
  obtain ⟨w, i, s, a2, a3, a4, a5⟩ := h
  have e : ∀ c : Nat, ¬ c = 6 → ∀ r, gA (sA C 6 co v) c r = gA C c r := fun c q r => by rw [gA_sA, if_neg (fun t => q t.1)]
  refine ⟨wf_A w rfl rfl rfl rfl rfl rfl rfl rfl rfl, i, ?_, fun c c0 c1 => ?_, rlP_c a3 (fun c _ _ => e c (by omega)) (fun x _ _ => aI_n _ _ (by omega)), rlR_c a4 i.1.1 (fun c _ _ => e c (by omega)) rfl (fun x _ _ => aI_n _ _ (by omega)), rlD_c a5 w (fun c _ _ => e c (by omega)) rfl rfl (fun x _ _ => aI_n _ _ (by omega))⟩
  · rw [aI_n _ _ (by omega), aI_n _ _ (by omega), aI_n _ _ (by omega), aI_n _ _ (by omega), aI_n _ _ (by omega), aI_n _ _ (by omega), aI_n _ _ (by omega)]
    exact s
  · obtain ⟨u1, u2, u3⟩ := a2 c c0 c1
    simp only [gA_sA, st_aI]
    simp (decide := true) only [true_and, false_and, if_false]
    by_cases q : c = co
    · subst q
      repeat (first | rw [if_pos rfl] | rw [if_neg (by omega)])
      exact ⟨u1, u2, rfl⟩
    · repeat (first | rw [if_neg q] | rw [if_neg (by omega)])
      exact ⟨u1, u2, u3⟩
theorem cnt_rm {L L' : Int → Prop} {r : Int} (hr : 0 ≤ r) (hl : L r) (e : ∀ q, L' q ↔ (L q ∧ ¬ q = r)) : ∀ n : Nat, cntI L' n = cntI L n - if r < n then 1 else 0
  | 0 => by
    rw [if_neg (by omega)]; rfl
  | n + 1 => by
    have ih := cnt_rm hr hl e n
    rw [show ((n + 1 : Nat) : Int) = (n : Int) + 1 by omega]
    by_cases q : (n : Int) = r
    · rw [if_neg (by omega)] at ih
      rw [cntI_f (by omega) (fun t => ((e _).1 t).2 q), cntI_t (by omega) (by rw [q]; exact hl), if_pos (by omega), ih]
      omega
    · by_cases a : L n
      · rw [cntI_t (by omega) ((e _).2 ⟨a, q⟩), cntI_t (by omega) a, ih]
        by_cases t : r < n
        · rw [if_pos t, if_pos (by omega)]; omega
        · rw [if_neg t, if_neg (by omega)]; omega
      · rw [cntI_f (by omega) (fun t => a ((e _).1 t).1), cntI_f (by omega) a, ih]
        by_cases t : r < n
        · rw [if_pos t, if_pos (by omega)]
        · rw [if_neg t, if_neg (by omega)]
theorem cnt_rmI {L L' : Int → Prop} {r x : Int} (hr : 0 ≤ r) (hl : L r) (e : ∀ q, L' q ↔ (L q ∧ ¬ q = r)) (hx : 0 ≤ x) : cntI L' x = cntI L x - if r < x then 1 else 0 := by
  have s := cnt_rm hr hl e x.toNat
  rwa [Int.toNat_of_nonneg hx] at s
theorem lvA_hi (A : Int → Int32) {p i : Int} (h0 : 0 ≤ p) (h1 : p < aI A 4) (h2 : aI A 4 ≤ 60) (h : 461 ≤ i) : aI (lvA A p) i = aI A i := by
  unfold lvA
  rw [aI_so _ _ (by omega), aI_so _ _ (by omega), aI_n _ _ (by omega)]
/-- a row leaves -/
theorem rb_lv {C : gM} {A : Int → Int32} (h : rb C A) {r : Int} (hl : lyi C r) : rb (sA C 13 r (iI 0)) (lvA A (cntI (pLy C) r)) := by
  obtain ⟨w, i, ⟨⟨s0, s1, s3⟩, ⟨s4, s5⟩, s7, s8⟩, a2, a3, a4, a5⟩ := h
  obtain ⟨i1, i2, i3, i4, i5⟩ := i
  obtain ⟨r0, r1, r2⟩ := hl
  have r2 : pLy C r := r2
  have p0 := (cntI_le (pLy C) r0).1
  have p1 := cntI_lt r0 r1 r2
  have e : ∀ c : Nat, ¬ c = 13 → ∀ q, gA (sA C 13 r (iI 0)) c q = gA C c q := fun c t q => by rw [gA_sA, if_neg (fun s => t s.1)]
  have eL : ∀ q : Int, pLy (sA C 13 r (iI 0)) q ↔ (pLy C q ∧ ¬ q = r) := by
    intro q
    unfold pLy
    rw [gA_sA]
    by_cases t : q = r
    · rw [if_pos ⟨rfl, t⟩]; exact ⟨fun s => absurd rfl s, fun s => absurd t s.2⟩
    · rw [if_neg (fun s => t s.2)]; exact ⟨fun s => ⟨s, t⟩, fun s => s.1⟩
  have cn : ∀ x : Int, 0 ≤ x → cntI (pLy (sA C 13 r (iI 0))) x = cntI (pLy C) x - if r < x then 1 else 0 := fun x hx => cnt_rmI r0 r2 eL hx
  have cN := cn (gN C 7 6) w.1.1
  rw [if_pos r1] at cN
  have lo : ∀ x : Int, x < 101 → ¬ x = 4 → aI (lvA A (cntI (pLy C) r)) x = aI A x := fun x t t4 => lvA_lo A p0 (by omega) t t4
  have hi : ∀ x : Int, 461 ≤ x → aI (lvA A (cntI (pLy C) r)) x = aI A x := fun x t => lvA_hi A p0 (by omega) (by omega) t
  have e4 := lvA_4 A p0 (show cntI (pLy C) r < aI A 4 by omega) (by omega)
  refine ⟨?_, ⟨⟨?_, fun q q0 q1 t => i1.2 q q0 q1 ((eL q).1 t).1⟩, fun p p0 p1 => ?_, ?_, fun d d0 d1 => ?_, fun d d0 d1 => ?_⟩, ⟨⟨?_, ?_, ?_⟩, ⟨?_, ?_⟩, ?_, ?_⟩, rlC_c a2 (fun c _ _ => e c (by omega)) (fun x _ _ => lo x (by omega) (by omega)), rlP_c a3 (fun c _ _ => e c (by omega)) (fun x _ _ => lo x (by omega) (by omega)), ⟨fun q q0 q1 hq => ?_, wr_lvA a4.2.1 p0 (by omega) (by omega), fun q q0 q1 => ?_⟩, rlD_c a5 w (fun c _ _ => e c (by omega)) rfl rfl (fun x _ _ => hi x (by omega))⟩
  · obtain ⟨b1, b2, b3, b4, b5, b6, b7⟩ := w
    refine ⟨b1, b2, b3, b4, b5, fun q => ?_, b7⟩
    show (if q = r then iI 0 else C.1 13 q) = 0 ∨ (if q = r then iI 0 else C.1 13 q) = 1
    split
    · exact Or.inl rfl
    · exact b6 q
  · show cntI (pLy (sA C 13 r (iI 0))) (gN C 7 6) ≤ 60
    omega
  · rw [e 1 (by decide), e 2 (by decide), e 3 (by decide)]; exact i2 p p0 p1
  · rw [show gA (sA C 13 r (iI 0)) 1 = gA C 1 from funext fun q => e 1 (by decide) q]; exact i3
  · rw [e 4 (by decide)]; exact i4 d d0 d1
  · rw [e 15 (by decide), e 16 (by decide)]; exact i5 d d0 d1
  · rw [lo 0 (by decide) (by decide)]; exact s0
  · rw [lo 1 (by decide) (by decide)]; exact s1
  · rw [lo 3 (by decide) (by decide)]; exact s3
  · rw [e4]
    show _ = cntI (pLy (sA C 13 r (iI 0))) (gN C 7 6)
    omega
  · rw [lo 5 (by decide) (by decide)]; exact s5
  · rw [lo 7 (by decide) (by decide)]; exact s7
  · rw [lo 8 (by decide) (by decide)]; exact s8
  · have q1 : q < gN C 7 6 := q1
    obtain ⟨hq1, hq2⟩ := (eL q).1 hq
    have k0 := (cntI_le (pLy C) q0).1
    have k1 := cntI_lt q0 q1 hq1
    have m := rank_lt q0 r0 hq1 r2
    have m2 := rank_lt r0 q0 r2 hq1
    have cq := cn q q0
    have g := a4.1 q q0 q1 hq1
    have key : ∀ k : Int, 0 ≤ k ∧ k < 6 → aI (lvA A (cntI (pLy C) r)) (101 + 6 * cntI (pLy (sA C 13 r (iI 0))) q + k) = aI A (101 + 6 * cntI (pLy C) q + k) := by
      intro k hk
      by_cases t : r < q
      · rw [if_pos t] at cq
        have t2 := m2.2 t
        rw [cq, lvA_row A p0 (by omega) (by omega) hk, if_neg (by omega), if_pos (by omega), show cntI (pLy C) q - 1 + 1 = cntI (pLy C) q by omega]
      · rw [if_neg t, Int.sub_zero] at cq
        have t2 := m.2 (by omega)
        rw [cq, lvA_row A p0 (by omega) (by omega) hk, if_pos t2]
    rw [key 0 (by decide), key 1 (by decide), key 2 (by decide), key 3 (by decide), key 4 (by decide), key 5 (by decide), e 8 (by decide), e 9 (by decide), e 10 (by decide), e 11 (by decide), e 12 (by decide)]
    exact g
  · rw [lvA_row A p0 (by omega) q0 (by decide)]
    by_cases t1 : q < cntI (pLy C) r
    · rw [if_pos t1]; exact a4.2.2 q q0 q1
    · rw [if_neg t1]
      by_cases t2 : q < aI A 4 - 1
      · rw [if_pos t2]; exact a4.2.2 (q + 1) (by omega) (by omega)
      · rw [if_neg t2]
        by_cases t3 : q = aI A 4 - 1
        · rw [if_pos t3]; decide
        · rw [if_neg t3]; exact a4.2.2 q q0 q1
/-- the row that a cart takes, and its place -/
theorem bs_eq {C : gM} {A : Int → Int32} (hw : wf C) (h : rlR C A) (co : Int) : ∀ n : Nat, (n : Int) ≤ gN C 7 6 → bspI A co (cntI (pLy C) n) = if bstI C co n = -5 then -5 else cntI (pLy C) (bstI C co n)
  | 0, _ => by
    rw [if_pos (show bstI C co ((0 : Nat) : Int) = -5 from rfl)]; rfl
  | n + 1, hn => by
    have ih := bs_eq hw h co n (by omega)
    rw [show ((n + 1 : Nat) : Int) = (n : Int) + 1 by omega]
    have k0 := (cntI_le (pLy C) (x := (n : Int)) (by omega)).1
    by_cases hl : pLy C n
    · obtain ⟨⟨g0, g1, g2⟩, g3, g4, g5⟩ := h.1 n (by omega) (by omega) hl
      have b12 := bz 12 (hw.2.2.2.2.1 n)
      have hq : pQ C co n ↔ qP A co (cntI (pLy C) n) := by
        unfold pQ qP
        rw [g1, g5]
        exact ⟨fun t => ⟨t.2.2, by omega⟩, fun t => ⟨hl, by omega, t.1⟩⟩
      rw [cntI_t (by omega) hl]
      have hb := bstI_le C co (x := (n : Int)) (by omega)
      by_cases q1 : bstI C co n = -5
      · rw [if_pos q1] at ih
        by_cases q2 : pQ C co n
        · rw [bstI_t (by omega) q2 (Or.inl q1), bspI_t k0 (hq.1 q2) (Or.inl ih), if_neg (by omega)]
        · rw [bstI_f (by omega) (fun t => q2 t.1), bspI_f k0 (fun t => q2 (hq.2 t.1)), ih, if_pos q1]
      · rw [if_neg q1] at ih
        have hb2 := hb.resolve_left q1
        have gb := (h.1 (bstI C co n) hb2.1 (by omega) hb2.2.2.1).2.1
        have kb := (cntI_le (pLy C) hb2.1).1
        have cmp : aI A (101 + 6 * cntI (pLy C) n + 3) < aI A (101 + 6 * bspI A co (cntI (pLy C) n) + 3) ↔ gA C 10 n < gA C 10 (bstI C co n) := by rw [ih, g3, gb]
        by_cases q2 : pQ C co n ∧ gA C 10 n < gA C 10 (bstI C co n)
        · rw [bstI_t (by omega) q2.1 (Or.inr q2.2), bspI_t k0 (hq.1 q2.1) (Or.inr (cmp.2 q2.2)), if_neg (by omega)]
        · rw [bstI_f (by omega) (fun t => q2 ⟨t.1, t.2.resolve_left q1⟩), bspI_f k0 (fun t => q2 ⟨hq.2 t.1, cmp.1 (t.2.resolve_left (by rw [ih]; omega))⟩), ih, if_neg q1]
    · rw [cntI_f (by omega) hl, bstI_f (by omega) (fun t => hl t.1.1), ih]
theorem nx_eq {C : gM} {A : Int → Int32} (h : rb C A) (co : Int) : nxA A co = if bstI C co (gN C 7 6) = -5 then -5 else cntI (pLy C) (bstI C co (gN C 7 6)) := by
  have s := bs_eq h.1 h.2.2.2.2.2.1 co (gN C 7 6).toNat (by have := h.1.1; omega)
  rw [Int.toNat_of_nonneg h.1.1.1] at s
  unfold nxA
  rw [h.2.2.1.2.1.1]
  exact s
/-- a cart takes rows -/
theorem rb_tk {C : gM} {A : Int → Int32} (h : rb C A) {co : Int} (hc : 0 ≤ co ∧ co ≤ 9) : ∀ n : Nat, rb (tk C co n) (tkA A co n) ∧ iI (gN (tk C co n) 0 13) = iI (gN C 0 13 + cnT A co n)
  | 0 => ⟨h, by
    show iI (gN C 0 13) = iI (gN C 0 13 + 0)
    rw [Int.add_zero]⟩
  | n + 1 => by
    obtain ⟨ih, e13⟩ := rb_tk h hc n
    have nx := nx_eq ih co
    rw [tk_s, tkA_s, cnT_s]
    by_cases q : bstI (tk C co n) co (gN (tk C co n) 7 6) = -5
    · rw [if_pos q] at nx
      rw [if_pos q, if_pos nx, if_pos nx]
      exact ⟨ih, e13⟩
    · rw [if_neg q] at nx
      have hl := (pQ_lyi (M := tk C co n) (co := co) ih.1.1.1).resolve_left q
      have k0 := (cntI_le (pLy (tk C co n)) hl.1).1
      rw [if_neg q, if_neg (by omega), if_neg (by omega)]
      have hwf := wf_tk co (n + 1) h.1
      rw [tk_s, if_neg q] at hwf
      have g6 := (ih.2.2.2.1 co hc.1 hc.2).2.2
      have g3 := (ih.2.2.2.2.2.1.1 _ hl.1 hl.2.1 hl.2.2).2.1
      refine ⟨?_, ?_⟩
      · have s1 := rb_hr ih hc (iI (gA (tk C co n) 6 co + max 0 (40 - gA (tk C co n) 10 (bstI (tk C co n) co (gN (tk C co n) 7 6)))))
        have s2 := rb_lv s1 (r := bstI (tk C co n) co (gN (tk C co n) 7 6)) hl
        unfold t1A
        rw [nx, g6, g3]
        exact rb_s s2 hwf (fun _ _ => rfl) (fun c f t => by
          unfold tak1
          rw [gN_sS, if_neg (by omega)]) (fun _ _ _ _ _ _ _ => rfl)
      · have e : gN (tak1 (tk C co n) co (bstI (tk C co n) co (gN (tk C co n) 7 6))) 0 13 = (iI (gN (tk C co n) 0 13 + 1)).toInt := by
          unfold tak1
          rw [gN_sS, if_pos ⟨rfl, rfl⟩]
        rw [e, iI_o, ← iI_add, e13, iI_add, Int.add_assoc]
