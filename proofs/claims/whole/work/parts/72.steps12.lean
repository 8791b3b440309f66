theorem rank_lt {L : Int → Prop} {r q : Int} (hr : 0 ≤ r) (hq : 0 ≤ q) (a : L r) (b : L q) : cntI L r < cntI L q ↔ r < q := by
  constructor
  · intro t
    rcases (show r < q ∨ q ≤ r by omega) with c | c
    · exact c
    · have := cntI_mono L hq c; omega
  · intro t
    exact cntI_lt hr t a
theorem rl_DO {C : gM} {A : Int → Int32} (h : rl C A) {co k r : Int} (r0 : 0 ≤ r) (r1 : r < gN C 7 6) (hl : pLy C r) : pDO C co k r ↔ qDO A co k (cntI (pLy C) r) := by
  obtain ⟨⟨g0, g1, g2⟩, g3, g4, g5⟩ := h.2.2.2.2.2.1.1 r r0 r1 hl
  unfold pDO qDO pOf lyi
  rw [g1]
  by_cases q : gA C 8 r = co
  · have e : cntI (pBf C r co) (gN C 7 6) = cntI (qBf A (cntI (pLy C) r)) (aI A 4) := rl_cnt h (fun o o0 o1 ol => by
      obtain ⟨⟨m0, m1, m2⟩, m3, m4, m5⟩ := h.2.2.2.2.2.1.1 o o0 o1 ol
      unfold pBf qBf pOf lyi
      rw [m1, m3, g1, g3, q, rank_lt o0 r0 ol hl]
      exact ⟨fun t => ⟨t.1.2, t.2⟩, fun t => ⟨⟨⟨o0, o1, ol⟩, t.1⟩, t.2⟩⟩) (fun o t => t.1.1.2.2)
    rw [e]
    exact ⟨fun t => ⟨t.1.2, t.2⟩, fun t => ⟨⟨⟨r0, r1, hl⟩, t.1⟩, t.2⟩⟩
  · exact ⟨fun t => absurd t.1.2 q, fun t => absurd t.1 q⟩
theorem st_driest {w w1 w2 : gW} {b0 b1 b2 b3 : Nat} {co k z1 z2 : Int} (h : Rel w b0 b1 b2 b3) (h1 : po_X5_driest w b0 b1 b2 b3 co k z1 w1) (h2 : po_X6_driest w1 co k z2 w2) : Fin z1 z2 w2 := by
  have r := h.2.1
  have w0 := r.1.1
  have c2 := r.2.2.1.2.1.1
  unfold po_X5_driest at h1
  unfold po_X6_driest at h2
  have ew : w1 = w := by rcases h1 with h1 | h1 | h1 <;> (first | exact h1.2.2 | exact h1.2.2.2)
  subst ew
  have fw : w2 = up w1 10 (sS (w1 10) 0 0 (iI 0)) := by rcases h2 with h2 | h2 | h2 | h2 <;> (first | exact h2.2.2 | exact h2.2.2.2 | exact h2.2.2.2.2)
  refine Fin_no h ?_ fw
  rcases h1 with ⟨c1, e1, -⟩ | ⟨c1, c3, e1, -⟩ | ⟨c1, c3, e1, -⟩
  · rcases h2 with ⟨d1, f1, -⟩ | ⟨d1, d2, f1, -⟩ | ⟨d1, d2, d3, f1, -⟩ | ⟨d1, d2, f1, -⟩ <;> first | exact absurd d1 c1 | omega
  · rcases h2 with ⟨d1, f1, -⟩ | ⟨d1, d2, f1, -⟩ | ⟨d1, d2, d3, f1, -⟩ | ⟨d1, d2, f1, -⟩ <;> first | exact absurd c1 d1 | omega
  · rcases h2 with ⟨d1, f1, -⟩ | ⟨d1, d2, f1, -⟩ | ⟨d1, d2, d3, f1, -⟩ | ⟨d1, d2, ⟨pa, p1, p2, p3, f1⟩, -⟩
    · exact absurd c1 d1
    · omega
    · rcases e1 with ⟨e1, -⟩ | ⟨x0, x1, x2, x3⟩
      · omega
      · have hl : pLy (w1 1) z1 := x2.1.1.2.2
        have k0 := (cntI_le (pLy (w1 1)) x0).1
        have k1 := cntI_lt x0 x1 hl
        exact absurd ((rl_DO r x0 x1 hl).1 x2) (d3 _ k0 (by omega))
    · obtain ⟨y, y0, y1, y2⟩ := rank_atI (L := pLy (w1 1)) (x := gN (w1 1) 7 6) (k := pa) w0.1 p1.1 (by omega)
      have gy := (r.2.2.2.2.2.1.1 y y0.1 y0.2 y1).1.1
      rw [y2] at gy
      have hy : pDO (w1 1) co k y := (rl_DO r y0.1 y0.2 y1).2 (by rw [y2]; exact p2)
      rcases e1 with ⟨e1, n1⟩ | ⟨x0, x1, x2, x3⟩
      · exact absurd hy (n1 y y0.1 y0.2)
      · have hl : pLy (w1 1) z1 := x2.1.1.2.2
        have k0 := (cntI_le (pLy (w1 1)) x0).1
        rcases (show z1 < y ∨ z1 = y ∨ y < z1 by omega) with t | t | t
        · have := cntI_lt x0 t hl
          exact absurd ((rl_DO r x0 x1 hl).1 x2) (p3 _ k0 (by omega))
        · rw [f1, gy]; exact t
        · exact absurd hy (x3 y y0.1 t)
