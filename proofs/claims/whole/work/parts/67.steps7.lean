/-- a count over rows is the count over places -/
theorem rl_cnt {C : gM} {A : Int → Int32} (h : rl C A) {P Q : Int → Prop} (hp : ∀ r : Int, 0 ≤ r → r < gN C 7 6 → pLy C r → (P r ↔ Q (cntI (pLy C) r))) (hl : ∀ r : Int, P r → pLy C r) : cntI P (gN C 7 6) = cntI Q (aI A 4) := by
  rw [h.2.2.1.2.1.1]
  exact cntI_rank h.1.1.1 (fun r r0 r1 => ⟨fun t => ⟨hl r t, (hp r r0 r1 (hl r t)).1 t⟩, fun t => (hp r r0 r1 t.1).2 t.2⟩)
theorem ly_of {C : gM} {r : Int} (h : lyi C r) : pLy C r := h.2.2
theorem bz {C : gM} (c : Nat) {r : Int} (h : C.1 c r = 0 ∨ C.1 c r = 1) : gA C c r = 0 ∨ gA C c r = 1 := by
  unfold gA
  rcases h with h | h <;> rw [h]
  · exact Or.inl rfl
  · exact Or.inr rfl
theorem cnt_St {C : gM} {A : Int → Int32} (h : rl C A) : cntI (pSt C) (gN C 7 6) = cntI (qSt A) (aI A 4) :=
  rl_cnt h (fun r r0 r1 hl => by
    have g := (h.2.2.2.2.2.1.1 r r0 r1 hl).2.2.2
    have b := bz 12 (h.1.2.2.2.2.1 r)
    unfold pSt qSt lyi
    rw [g]
    exact ⟨fun t => by omega, fun t => ⟨⟨r0, r1, hl⟩, by omega⟩⟩) (fun r t => ly_of t.1)
theorem cnt_Dr {C : gM} {A : Int → Int32} (h : rl C A) : cntI (pDr C) (gN C 7 6) = cntI (qDr A) (aI A 4) :=
  rl_cnt h (fun r r0 r1 hl => by
    have g := (h.2.2.2.2.2.1.1 r r0 r1 hl).2.1
    unfold pDr qDr lyi
    rw [g]
    exact ⟨fun t => t.2, fun t => ⟨⟨r0, r1, hl⟩, t⟩⟩) (fun r t => ly_of t.1)
theorem cnt_Of {C : gM} {A : Int → Int32} (h : rl C A) (co : Int) : cntI (pOf C co) (gN C 7 6) = cntI (qWh A co) (aI A 4) :=
  rl_cnt h (fun r r0 r1 hl => by
    have g := (h.2.2.2.2.2.1.1 r r0 r1 hl).1.2.1
    unfold pOf qWh lyi
    rw [g]
    exact ⟨fun t => t.2, fun t => ⟨⟨r0, r1, hl⟩, t⟩⟩) (fun r t => ly_of t.1)
theorem cnt_SO {C : gM} {A : Int → Int32} (h : rl C A) (co : Int) : cntI (pSO C co) (gN C 7 6) = cntI (qWS A co) (aI A 4) :=
  rl_cnt h (fun r r0 r1 hl => by
    have g := (h.2.2.2.2.2.1.1 r r0 r1 hl).1.2.1
    have g2 := (h.2.2.2.2.2.1.1 r r0 r1 hl).2.2.2
    have b := bz 12 (h.1.2.2.2.2.1 r)
    unfold pSO qWS lyi
    rw [g, g2]
    exact ⟨fun t => ⟨t.2, by omega⟩, fun t => ⟨⟨⟨r0, r1, hl⟩, by omega⟩, t.1⟩⟩) (fun r t => ly_of t.1.1)
theorem cnt_Pl {C : gM} {A : Int → Int32} (h : rl C A) (co : Int) : cntI (pEq C 2 co) 20 = cntI (qPl A co 1) 20 ∧ cntI (pEq C 3 co) 20 = cntI (qPl A co 2) 20 := by
  refine ⟨cntI_cg (by decide) (fun r r0 r1 => ?_), cntI_cg (by decide) (fun r r0 r1 => ?_)⟩
  · unfold pEq qPl
    rw [(h.2.2.2.2.1 r r0 (by omega)).2.1]
  · unfold pEq qPl
    rw [(h.2.2.2.2.1 r r0 (by omega)).2.2]
theorem cnt_sh {p : Int → Prop} {a : Int} (ha : 0 ≤ a) : ∀ n : Nat, cntI p (a + n) - cntI p a = cntI (fun d => p (a + d)) n
  | 0 => by
    rw [show a + ((0 : Nat) : Int) = a by omega, Int.sub_self]; rfl
  | n + 1 => by
    have ih := cnt_sh (p := p) ha n
    rw [show a + ((n + 1 : Nat) : Int) = a + n + 1 by omega, show ((n + 1 : Nat) : Int) = (n : Int) + 1 by omega]
    by_cases q : p (a + n)
    · rw [cntI_t (by omega) q, cntI_t (p := fun d => p (a + d)) (by omega) q]; omega
    · rw [cntI_f (by omega) q, cntI_f (p := fun d => p (a + d)) (by omega) q]; omega
theorem cnt_Di {C : gM} {A : Int → Int32} (h : rl C A) (co : Int) : cntI (pDi C co) (gN C 14 5) - cntI (pDi C co) (gN C 14 4) = cntI (qDi A co) (aI A 7) := by
  have w1 := h.1.2.1
  have e := cnt_sh (p := pDi C co) (a := gN C 14 4) w1.1 (gN C 14 5 - gN C 14 4).toNat
  rw [show gN C 14 4 + ((gN C 14 5 - gN C 14 4).toNat : Int) = gN C 14 5 by omega, show ((gN C 14 5 - gN C 14 4).toNat : Int) = gN C 14 5 - gN C 14 4 by omega] at e
  rw [e, h.2.2.1.2.2.1.1]
  refine cntI_cg (by omega) (fun d d0 d1 => ?_)
  obtain ⟨t0, t1, -⟩ := h.2.2.2.2.2.2 d d0 d1
  unfold pDi qDi
  rw [t0, t1]
theorem st_commoner {w w1 w2 : gW} {b0 b1 b2 b3 : Nat} {co q z1 z2 : Int} (h : Rel w b0 b1 b2 b3) (h1 : po_X5_commoner w b0 b1 b2 b3 co q z1 w1) (h2 : po_X6_commoner w1 co q z2 w2) : Fin z1 z2 w2 := by
  have r := h.2.1
  unfold po_X5_commoner at h1
  unfold po_X6_commoner at h2
  have ew : w1 = w := by rcases h1 with h1 | h1 | h1 | h1 | h1 | h1 | h1 | h1 | h1 | h1 <;> (first | exact h1.2.2 | exact h1.2.2.2)
  subst ew
  have fw : w2 = up w1 10 (sS (w1 10) 0 0 (iI 0)) := by rcases h2 with h2 | h2 | h2 | h2 | h2 | h2 | h2 | h2 <;> (first | exact h2.2.2 | exact h2.2.2.2)
  refine Fin_no h ?_ fw
  rw [show (((20 : Nat) : Int)) = 20 from rfl, cnt_Of r, cnt_SO r, (cnt_Pl r co).1, (cnt_Pl r co).2, cnt_Di r] at h1
  by_cases hc : 0 ≤ co ∧ co ≤ 9
  · obtain ⟨t1, t2, t3⟩ := r.2.2.2.1 co hc.1 hc.2
    have m : (0 ≤ q ∧ q ≤ 2) → aI ((w1 10).1 1) (11 + 3 * co + q) = if q = 0 then gA (w1 1) 4 co else if q = 1 then gA (w1 1) 5 co else gA (w1 1) 6 co := by
      intro hq
      rcases (show q = 0 ∨ q = 1 ∨ q = 2 by omega) with rfl | rfl | rfl
      · exact t1
      · exact t2
      · exact t3
    rcases h2 with ⟨d1, f1, -⟩ | ⟨d1, d2, f1, -⟩ | ⟨d1, d2, f1, -⟩ | ⟨d1, d2, f1, -⟩ | ⟨d1, d2, f1, -⟩ | ⟨d1, d2, f1, -⟩ | ⟨d1, d2, f1, -⟩ | ⟨d1, d2, f1, -⟩
    · exact absurd hc d1
    all_goals (try rw [m d2] at f1)
    all_goals (rcases h1 with ⟨c1, e1, -⟩ | ⟨c1, c2, e1, -⟩ | ⟨c1, c2, e1, -⟩ | ⟨c1, c2, e1, -⟩ | ⟨c1, c2, e1, -⟩ | ⟨c1, c2, e1, -⟩ | ⟨c1, c2, e1, -⟩ | ⟨c1, c2, e1, -⟩ | ⟨c1, c2, e1, -⟩ | ⟨c1, c2, e1, -⟩ <;> first | exact absurd hc c1 | omega | (subst c2; simp at f1; omega))
  · rcases h2 with ⟨d1, f1, -⟩ | ⟨d1, d2, f1, -⟩ | ⟨d1, d2, f1, -⟩ | ⟨d1, d2, f1, -⟩ | ⟨d1, d2, f1, -⟩ | ⟨d1, d2, f1, -⟩ | ⟨d1, d2, f1, -⟩ | ⟨d1, d2, f1, -⟩ <;> first | exact absurd d1 hc | skip
    rcases h1 with ⟨c1, e1, -⟩ | ⟨c1, c2, e1, -⟩ | ⟨c1, c2, e1, -⟩ | ⟨c1, c2, e1, -⟩ | ⟨c1, c2, e1, -⟩ | ⟨c1, c2, e1, -⟩ | ⟨c1, c2, e1, -⟩ | ⟨c1, c2, e1, -⟩ | ⟨c1, c2, e1, -⟩ | ⟨c1, c2, e1, -⟩ <;> first | exact absurd c1 hc | omega
