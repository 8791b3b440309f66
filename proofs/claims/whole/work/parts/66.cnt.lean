theorem cnt_rank {L P Q : Int → Prop} : ∀ n : Nat, (∀ r : Int, 0 ≤ r → r < n → (P r ↔ (L r ∧ Q (cntI L r)))) → cntI P n = cntI Q (cntI L n)
  | 0, _ => rfl
  | n + 1, h => by
    have ih := cnt_rank n (fun r r0 r1 => h r r0 (by omega))
    have hn := h n (by omega) (by omega)
    have k0 := (cntI_le L (x := (n : Int)) (by omega)).1
    rw [show ((n + 1 : Nat) : Int) = (n : Int) + 1 by omega]
    by_cases a : L n
    · rw [cntI_t (by omega) a]
      by_cases b : Q (cntI L n)
      · rw [cntI_t (by omega) (hn.2 ⟨a, b⟩), cntI_t k0 b, ih]
      · rw [cntI_f (by omega) (fun t => b (hn.1 t).2), cntI_f k0 b, ih]
    · rw [cntI_f (by omega) a, cntI_f (by omega) (fun t => a (hn.1 t).1), ih]
theorem cntI_rank {L P Q : Int → Prop} {x : Int} (hx : 0 ≤ x) (h : ∀ r : Int, 0 ≤ r → r < x → (P r ↔ (L r ∧ Q (cntI L r)))) : cntI P x = cntI Q (cntI L x) := by
  have e := cnt_rank (L := L) (P := P) (Q := Q) x.toNat (fun r r0 r1 => h r r0 (by omega))
  rwa [Int.toNat_of_nonneg hx] at e
/-- every place holds a row -/
theorem rank_at {L : Int → Prop} : ∀ (n : Nat) (k : Int), 0 ≤ k → k < cntI L n → ∃ r : Int, (0 ≤ r ∧ r < n) ∧ L r ∧ cntI L r = k
  | 0, k, h0, h1 => by
    have h1 : k < 0 := h1
    omega
  | n + 1, k, h0, h1 => by
    rw [show ((n + 1 : Nat) : Int) = (n : Int) + 1 by omega] at h1
    by_cases a : L n
    · rw [cntI_t (by omega) a] at h1
      by_cases q : k = cntI L n
      · exact ⟨n, by omega, a, q.symm⟩
      · obtain ⟨r, r0, r1, r2⟩ := rank_at (L := L) n k h0 (by omega)
        exact ⟨r, by omega, r1, r2⟩
    · rw [cntI_f (by omega) a] at h1
      obtain ⟨r, r0, r1, r2⟩ := rank_at (L := L) n k h0 h1
      exact ⟨r, by omega, r1, r2⟩
theorem rank_atI {L : Int → Prop} {x k : Int} (hx : 0 ≤ x) (h0 : 0 ≤ k) (h1 : k < cntI L x) : ∃ r : Int, (0 ≤ r ∧ r < x) ∧ L r ∧ cntI L r = k := by
  have e := rank_at (L := L) x.toNat k h0 (by rwa [Int.toNat_of_nonneg hx])
  rwa [Int.toNat_of_nonneg hx] at e
theorem rank_inj {L : Int → Prop} {r q : Int} (hr : 0 ≤ r) (hq : 0 ≤ q) (a : L r) (b : L q) (h : cntI L r = cntI L q) : r = q := by
  rcases (show r < q ∨ r = q ∨ q < r by omega) with c | c | c
  · have := cntI_lt hr c a; omega
  · exact c
  · have := cntI_lt hq c b; omega
/-- a row and its place -/
theorem rl_row {C : gM} {A : Int → Int32} (h : rl C A) {r : Int} (r0 : 0 ≤ r) (r1 : r < gN C 7 6) (hl : pLy C r) : plc A r (cntI (pLy C) r) := by
  have c2 := h.2.2.1.2.1.1
  have k0 := (cntI_le (pLy C) r0).1
  have k1 := cntI_lt r0 r1 hl
  refine ⟨⟨k0, by omega⟩, (h.2.2.2.2.2.1.1 r r0 r1 hl).1.1, fun q q0 q1 e => ?_⟩
  obtain ⟨x, x0, x1, x2⟩ := rank_atI (L := pLy C) (x := gN C 7 6) (k := q) (by omega) q0 (by omega)
  have g := (h.2.2.2.2.2.1.1 x x0.1 x0.2 x1).1.1
  rw [x2] at g
  have hx : x = r := g.symm.trans e
  rw [hx] at x2
  omega
theorem plc_u {A : Int → Int32} {r a b : Int} (h1 : plc A r a) (h2 : plc A r b) : a = b := by
  rcases (show a < b ∨ a = b ∨ b < a by omega) with c | c | c
  · exact absurd h1.2.1 (h2.2.2 a h1.1.1 c)
  · exact c
  · exact absurd h2.2.1 (h1.2.2 b h2.1.1 c)
theorem rl_nop {C : gM} {A : Int → Int32} (h : rl C A) {r : Int} : nop A r ↔ ¬ lyi C r := by
  have c2 := h.2.2.1.2.1.1
  have w1 := h.1.1
  constructor
  · rintro hn ⟨a, b, c⟩
    have g := rl_row h a b c
    exact hn _ g.1.1 g.1.2 g.2.1
  · intro hn q q0 q1 e
    obtain ⟨x, x0, x1, x2⟩ := rank_atI (L := pLy C) (x := gN C 7 6) (k := q) (by omega) q0 (by omega)
    have g := (h.2.2.2.2.2.1.1 x x0.1 x0.2 x1).1.1
    rw [x2] at g
    exact hn (by rw [← g.symm.trans e]; exact ⟨x0.1, x0.2, x1⟩)
