/-! sums and counts -/
theorem cntI_mn (p : Int → Prop) {x : Int} (h : 0 ≤ x) : ∀ k : Nat, cntI p x ≤ cntI p (x + k)
  | 0 => by
    rw [show x + ((0 : Nat) : Int) = x by omega]
    exact Int.le_refl _
  | k + 1 => by
    have ih := cntI_mn p h k
    rw [show x + ((k + 1 : Nat) : Int) = x + k + 1 by omega]
    by_cases q : p (x + k)
    · rw [cntI_t (by omega) q]; omega
    · rw [cntI_f (by omega) q]; omega
theorem cntI_mono (p : Int → Prop) {x y : Int} (h : 0 ≤ x) (hy : x ≤ y) : cntI p x ≤ cntI p y := by
  have e := cntI_mn p h (y - x).toNat
  rwa [show x + ((y - x).toNat : Int) = y by omega] at e
theorem cnt_cg {p q : Int → Prop} : ∀ n : Nat, (∀ r : Int, 0 ≤ r → r < n → (p r ↔ q r)) → cntI p n = cntI q n
  | 0, _ => rfl
  | n + 1, h => by
    have ih := cnt_cg n (fun r r0 r1 => h r r0 (by omega))
    rw [show ((n + 1 : Nat) : Int) = (n : Int) + 1 by omega]
    have hn := h n (by omega) (by omega)
    by_cases e : p n
    · rw [cntI_t (by omega) e, cntI_t (by omega) (hn.1 e), ih]
    · rw [cntI_f (by omega) e, cntI_f (by omega) (fun t => e (hn.2 t)), ih]
theorem cntI_cg {p q : Int → Prop} {x : Int} (hx : 0 ≤ x) (h : ∀ r : Int, 0 ≤ r → r < x → (p r ↔ q r)) : cntI p x = cntI q x := by
  have e := cnt_cg (p := p) (q := q) x.toNat (fun r r0 r1 => h r r0 (by omega))
  rwa [Int.toNat_of_nonneg hx] at e
/-- what implies counts less -/
theorem cnt_imp {p q : Int → Prop} (h : ∀ r : Int, p r → q r) : ∀ n : Nat, cntI p n ≤ cntI q n
  | 0 => Int.le_refl _
  | n + 1 => by
    have ih := cnt_imp h n
    rw [show ((n + 1 : Nat) : Int) = (n : Int) + 1 by omega]
    by_cases e : p n
    · rw [cntI_t (by omega) e, cntI_t (by omega) (h _ e)]; omega
    · rw [cntI_f (by omega) e]
      by_cases f : q n
      · rw [cntI_t (by omega) f]; omega
      · rw [cntI_f (by omega) f]; exact ih
theorem cntI_imp {p q : Int → Prop} (h : ∀ r : Int, p r → q r) {x : Int} (hx : 0 ≤ x) : cntI p x ≤ cntI q x := by
  have e := cnt_imp h x.toNat
  rwa [Int.toNat_of_nonneg hx] at e
theorem cnt_rm {L L' : Int → Prop} {r : Int} (hr : 0 ≤ r) (hl : L r) (e : ∀ q, L' q ↔ (L q ∧ ¬ q = r)) : ∀ n : Nat, cntI L' n = cntI L n - if r < n then 1 else 0
  | 0 => by
    rw [if_neg (by omega)]; rfl
  | n + 1 => by
    have ih := cnt_rm hr hl e n
    rw [show ((n + 1 : Nat) : Int) = (n : Int) + 1 by omega]
    by_cases q : (n : Int) = r
    · rw [if_neg (by omega)] at ih
      rw [cntI_f (by omega) (fun t => ((e _).1 t).2 q), cntI_t (by omega) (by rw [q]; exact hl), if_pos (by omega), ih]
      omega
    · by_cases a : L n
      · rw [cntI_t (by omega) ((e _).2 ⟨a, q⟩), cntI_t (by omega) a, ih]
        by_cases t : r < n
        · rw [if_pos t, if_pos (by omega)]; omega
        · rw [if_neg t, if_neg (by omega)]; omega
      · rw [cntI_f (by omega) (fun t => a ((e _).1 t).1), cntI_f (by omega) a, ih]
        by_cases t : r < n
        · rw [if_pos t, if_pos (by omega)]
        · rw [if_neg t, if_neg (by omega)]
theorem cnt_rmI {L L' : Int → Prop} {r x : Int} (hr : 0 ≤ r) (hl : L r) (e : ∀ q, L' q ↔ (L q ∧ ¬ q = r)) (hx : 0 ≤ x) : cntI L' x = cntI L x - if r < x then 1 else 0 := by
  have s := cnt_rm hr hl e x.toNat
  rwa [Int.toNat_of_nonneg hx] at s
theorem sum_up {f g : Int → Int} {x d : Int} (hx : 0 ≤ x) (he : g x = f x + d) (ho : ∀ r, ¬ r = x → g r = f r) : ∀ n : Nat, sumX g n = sumX f n + if x < n then d else 0
  | 0 => by
    rw [if_neg (by omega)]; rfl
  | n + 1 => by
    have ih := sum_up hx he ho n
    rw [show ((n + 1 : Nat) : Int) = (n : Int) + 1 by omega, sumX_s _ (by omega), sumX_s _ (by omega), ih]
    by_cases q : (n : Int) = x
    · rw [q, he, if_neg (by omega), if_pos (by omega)]; omega
    · rw [ho _ q]
      by_cases t : x < n
      · rw [if_pos t, if_pos (by omega)]; omega
      · rw [if_neg t, if_neg (by omega)]; omega
theorem sum_cg {f g : Int → Int} : ∀ n : Nat, (∀ r : Int, 0 ≤ r → r < n → f r = g r) → sumX f n = sumX g n
  | 0, _ => rfl
  | n + 1, h => by
    have ih := sum_cg n (fun r r0 r1 => h r r0 (by omega))
    rw [show ((n + 1 : Nat) : Int) = (n : Int) + 1 by omega, sumX_s _ (by omega), sumX_s _ (by omega), ih, h n (by omega) (by omega)]
theorem sum_nn {f : Int → Int} : ∀ n : Nat, (∀ r : Int, 0 ≤ r → r < n → 0 ≤ f r) → 0 ≤ sumX f n
  | 0, _ => Int.le_refl _
  | n + 1, h => by
    have ih := sum_nn n (fun r r0 r1 => h r r0 (by omega))
    have hn := h n (by omega) (by omega)
    rw [show ((n + 1 : Nat) : Int) = (n : Int) + 1 by omega, sumX_s _ (by omega)]
    omega
/-- one of many that are not negative is no more than all together -/
theorem sum_one {f : Int → Int} {x : Int} (hx : 0 ≤ x) : ∀ n : Nat, (∀ r : Int, 0 ≤ r → r < n → 0 ≤ f r) → x < n → f x ≤ sumX f n
  | 0, _, h => absurd h (by omega)
  | n + 1, h, hq => by
    have hn := h n (by omega) (by omega)
    rw [show ((n + 1 : Nat) : Int) = (n : Int) + 1 by omega, sumX_s _ (by omega)]
    by_cases t : x < n
    · have ih := sum_one hx n (fun r r0 r1 => h r r0 (by omega)) t
      omega
    · rw [show x = (n : Int) by omega]
      have e := sum_nn n (fun r r0 r1 => h r r0 (by omega))
      omega
/-- each of them has one owner of ten -/
theorem sum_own {L : Int → Prop} {own : Int → Int} : ∀ n : Nat, (∀ r : Int, 0 ≤ r → r < n → L r → 0 ≤ own r ∧ own r ≤ 9) → sumX (fun c => cntI (fun r => L r ∧ own r = c) n) 10 = cntI L n
  | 0, _ => rfl
  | n + 1, h => by
    have ih := sum_own n (fun r r0 r1 => h r r0 (by omega))
    have e1 : ((n + 1 : Nat) : Int) = (n : Int) + 1 := by omega
    rw [e1]
    by_cases a : L n
    · have ho := h n (by omega) (by omega) a
      rw [cntI_t (by omega) a, ← ih]
      have e := sum_up (f := fun c => cntI (fun r => L r ∧ own r = c) n) (g := fun c => cntI (fun r => L r ∧ own r = c) ((n : Int) + 1)) (x := own n) (d := 1) ho.1 (cntI_t (by omega) ⟨a, rfl⟩) (fun c hc => cntI_f (by omega) (fun t => hc t.2.symm)) 10
      rw [show ((10 : Nat) : Int) = 10 from rfl] at e
      rw [e, if_pos (by omega)]
    · rw [cntI_f (by omega) a, ← ih]
      exact sum_cg 10 (fun c _ _ => cntI_f (by omega) (fun t => a t.1))
theorem sum_ownI {L : Int → Prop} {own : Int → Int} {x : Int} (hx : 0 ≤ x) (h : ∀ r : Int, 0 ≤ r → r < x → L r → 0 ≤ own r ∧ own r ≤ 9) : sumX (fun c => cntI (fun r => L r ∧ own r = c) x) 10 = cntI L x := by
  have e := sum_own (L := L) (own := own) x.toNat (fun r r0 r1 => h r r0 (by omega))
  rwa [Int.toNat_of_nonneg hx] at e
/-! what every state keeps to, beyond wf -/
def iO (M : gM) : Prop := ∀ r : Int, 0 ≤ r → r < gN M 7 6 → 0 ≤ gA M 8 r ∧ gA M 8 r ≤ 9
def iS (M : gM) : Prop := ∀ r : Int, pSt M r → gA M 10 r ≤ 20
def iP (M : gM) : Prop := ∀ p : Int, 0 ≤ p → p ≤ 19 → (0 ≤ gA M 1 p ∧ gA M 1 p ≤ 6) ∧ (0 ≤ gA M 2 p ∧ gA M 2 p ≤ 9) ∧ 0 ≤ gA M 3 p ∧ gA M 3 p ≤ 9
def iC (M : gM) : Prop := ∀ c : Int, 0 ≤ c → c ≤ 9 → (0 ≤ gA M 4 c ∧ gA M 4 c ≤ 20) ∧ (0 ≤ gA M 5 c ∧ gA M 5 c ≤ 20) ∧ 0 ≤ gA M 6 c
def iH (M : gM) : Prop := sumX (gA M 6) 10 ≤ 40 * gN M 0 13
def iL (M : gM) : Prop := sumX (gA M 1) 20 + gN M 7 6 = 120
def iN (M : gM) : Prop := 0 ≤ gN M 0 13 ∧ cntI (pLy M) (gN M 7 6) + gN M 0 13 ≤ gN M 7 6
def iD (M : gM) : Prop := ∀ d : Int, gN M 14 4 ≤ d → d < gN M 14 5 → (0 ≤ gA M 15 d ∧ gA M 15 d ≤ 9) ∧ (0 ≤ gA M 16 d ∧ gA M 16 d ≤ 9) ∧ ¬ gA M 15 d = gA M 16 d ∧ gA M 17 d < gN M 7 6
def iE (M : gM) : Prop := ∀ d : Int, gN M 14 4 < d → d < gN M 14 5 → gA M 17 (d - 1) < gA M 17 d
def Inv (M : gM) : Prop := wf M ∧ iO M ∧ iS M ∧ iP M ∧ iC M ∧ iH M ∧ iL M ∧ iN M ∧ iD M ∧ iE M ∧ 0 ≤ gN M 0 9
theorem Inv_home {M : gM} (h : Inv M) : 0 ≤ gN M 0 13 ∧ gN M 0 13 ≤ gN M 7 6 ∧ gN M 7 6 ≤ 120 := by
  obtain ⟨h1, -, -, -, -, -, -, h8, -⟩ := h
  have c := (cntI_le (pLy M) h1.1.1).1
  have := h8.1
  have := h8.2
  have := h1.1.2
  omega
theorem Inv_hearth {M : gM} (h : Inv M) {c : Int} (h0 : 0 ≤ c) (h1 : c ≤ 9) : 0 ≤ gA M 6 c ∧ gA M 6 c ≤ 4800 := by
  have hh := Inv_home h
  obtain ⟨-, -, -, -, h5, h6, -⟩ := h
  have e := sum_one (f := gA M 6) h0 10 (fun r r0 r1 => (h5 r r0 (by omega)).2.2) (by omega)
  have e2 : sumX (gA M 6) 10 ≤ 40 * gN M 0 13 := h6
  rw [show ((10 : Nat) : Int) = 10 from rfl] at e
  exact ⟨(h5 c h0 h1).2.2, by omega⟩
theorem gA_at (M : gM) (c : Nat) (x : Int) (v : Int32) (x' : Int) : gA (sA M c x v) c x' = if x' = x then v.toInt else gA M c x' := by
  rw [gA_sA]
  by_cases q : x' = x
  · rw [if_pos ⟨rfl, q⟩, if_pos q]
  · rw [if_neg (fun t => q t.2), if_neg q]
theorem gA_of (M : gM) {c c' : Nat} (x : Int) (v : Int32) (x' : Int) (h : ¬ c' = c) : gA (sA M c x v) c' x' = gA M c' x' := by
  rw [gA_sA, if_neg (fun t => h t.1)]
/-- one number of a plot is set to a commoner -/
theorem Inv_sP {M : gM} (h : Inv M) {k : Nat} (hk : k = 2 ∨ k = 3) (pl : Int) {co : Int} (hc : 0 ≤ co ∧ co ≤ 9) : Inv (sA M k pl (iI co)) := by
  obtain ⟨h1, h2, h3, h4, h5, h6, h7, h8, h9, h10⟩ := h
  have hv : (iI co).toInt = co := iI_t ⟨by omega, by omega⟩
  rcases hk with rfl | rfl
  · refine ⟨wf_A h1 rfl rfl rfl rfl rfl rfl rfl rfl rfl, h2, h3, fun p p0 p1 => ?_, h5, h6, h7, h8, h9, h10⟩
    have e := h4 p p0 p1
    rw [gA_at, gA_of _ _ _ _ (by decide), gA_of _ _ _ _ (by decide), hv]
    refine ⟨e.1, ?_, e.2.2⟩
    split
    · exact hc
    · exact e.2.1
  · refine ⟨wf_A h1 rfl rfl rfl rfl rfl rfl rfl rfl rfl, h2, h3, fun p p0 p1 => ?_, h5, h6, h7, h8, h9, h10⟩
    have e := h4 p p0 p1
    rw [gA_at, gA_of _ _ _ _ (by decide), gA_of _ _ _ _ (by decide), hv]
    refine ⟨e.1, e.2.1, ?_⟩
    split
    · exact hc
    · exact e.2.2
/-- days by right, days used -/
theorem Inv_sC {M : gM} (h : Inv M) {k : Nat} (hk : k = 4 ∨ k = 5) (co : Int) {v : Int} (hv : 0 ≤ v ∧ v ≤ 20) : Inv (sA M k co (iI v)) := by
  obtain ⟨h1, h2, h3, h4, h5, h6, h7, h8, h9, h10⟩ := h
  have hv2 : (iI v).toInt = v := iI_t ⟨by omega, by omega⟩
  rcases hk with rfl | rfl
  · refine ⟨wf_A h1 rfl rfl rfl rfl rfl rfl rfl rfl rfl, h2, h3, h4, fun p p0 p1 => ?_, h6, h7, h8, h9, h10⟩
    have e := h5 p p0 p1
    rw [gA_at, gA_of _ _ _ _ (by decide), gA_of _ _ _ _ (by decide), hv2]
    refine ⟨?_, e.2⟩
    split
    · exact hv
    · exact e.1
  · refine ⟨wf_A h1 rfl rfl rfl rfl rfl rfl rfl rfl rfl, h2, h3, h4, fun p p0 p1 => ?_, h6, h7, h8, h9, h10⟩
    have e := h5 p p0 p1
    rw [gA_at, gA_of _ _ _ _ (by decide), gA_of _ _ _ _ (by decide), hv2]
    refine ⟨e.1, ?_, e.2.2⟩
    split
    · exact hv
    · exact e.2.1
theorem Inv_s8 {M : gM} (h : Inv M) {x : Int} (hx : 1 ≤ x ∧ x ≤ 6) : Inv (sS M 0 8 (iI x)) := by
  obtain ⟨⟨a1, a2, a3, a4, a5, a6, a7, a8, a9⟩, h2⟩ := h
  refine ⟨⟨a1, a2, a3, a4, a5, a6, a7, ?_, a9⟩, h2⟩
  show 1 ≤ (iI x).toInt ∧ (iI x).toInt ≤ 6
  rw [iI_t ⟨by omega, by omega⟩]
  exact hx
theorem Inv_s9 {M : gM} (h : Inv M) {x : Int} (hx : 0 ≤ x ∧ x ≤ 1) : Inv (sS M 0 9 (iI x)) := by
  obtain ⟨h1, h2, h3, h4, h5, h6, h7, h8, h9, h10, -⟩ := h
  refine ⟨h1, h2, h3, h4, h5, h6, h7, h8, h9, h10, ?_⟩
  show 0 ≤ (iI x).toInt
  rw [iI_t ⟨by omega, by omega⟩]
  exact hx.1
theorem Inv_tu {M : gM} (h : Inv M) (r : Int) : Inv (sA M 11 r (iI 1)) := ⟨wf_tu r h.1, h.2⟩
theorem Inv_st {M : gM} (h : Inv M) {r : Int} (hr : pDr M r) : Inv (sA M 12 r (iI 1)) := by
  obtain ⟨h1, h2, h3, h4⟩ := h
  refine ⟨wf_st r h1, h2, fun q hq => ?_, h4⟩
  show gA M 10 q ≤ 20
  by_cases e : q = r
  · rw [e]; exact hr.2
  · refine h3 q ⟨hq.1, ?_⟩
    have t := hq.2
    rwa [gA_at, if_neg e] at t
/-! a row is cut -/
theorem tk_A (C : gM) (co pl : Int) (c : Nat) (r : Int) : gA (takM0 C co pl) c r = if c = 13 ∧ r = gN C 7 6 then 1 else if c = 12 ∧ r = gN C 7 6 then 0 else if c = 11 ∧ r = gN C 7 6 then 0 else if c = 10 ∧ r = gN C 7 6 then 50 else if c = 9 ∧ r = gN C 7 6 then (iI pl).toInt else if c = 8 ∧ r = gN C 7 6 then (iI co).toInt else if c = 5 ∧ r = co then (iI (gA C 5 co + 1)).toInt else if c = 1 ∧ r = pl then (iI (gA C 1 pl - 1)).toInt else gA C c r := by
  unfold takM0 layM
  simp only [gA_sS, gA_sA, gN_sA]
  rfl
theorem Inv_tk0 {M : gM} (h : Inv M) {co pl : Int} (hc : 0 ≤ co ∧ co ≤ 9) (hp : 0 ≤ pl ∧ pl ≤ 19) (hd : pD M co) (hl : 0 < gA M 1 pl) (hn : gN M 7 6 < 120) : Inv (takM0 M co pl) := by
  obtain ⟨h1, h2, h3, h4, h5, h6, h7, h8, h9, h10⟩ := h
  have n0 := h1.1.1
  have eN : gN (takM0 M co pl) 7 6 = gN M 7 6 + 1 := iI_t (z := gN M 7 6 + 1) ⟨by omega, by omega⟩
  have eo : ∀ (c f : Nat), ¬ (c = 7 ∧ f = 6) → gN (takM0 M co pl) c f = gN M c f := fun c f q => by
    unfold takM0 layM
    simp only [gN_sS, gN_sA]
    rw [if_neg q]
  have hco : (iI co).toInt = co := iI_t ⟨by omega, by omega⟩
  have p1 := h4 pl hp.1 hp.2
  have c5 := h5 co hc.1 hc.2
  have hd2 : gA M 5 co < gA M 4 co := hd.2
  have hl1 : (iI (gA M 1 pl - 1)).toInt = gA M 1 pl - 1 := iI_t ⟨by omega, by omega⟩
  have hu1 : (iI (gA M 5 co + 1)).toInt = gA M 5 co + 1 := iI_t ⟨by omega, by omega⟩
  refine ⟨wf_tak0 co pl h1 hn, fun r r0 r1 => ?_, fun r hr => ?_, fun p p0 p2 => ?_, fun c c0 c2 => ?_, ?_, ?_, ?_, fun d d0 d1 => ?_, fun d d0 d1 => ?_, h10.2⟩
  · rw [eN] at r1
    rw [tk_A, hco]
    simp (decide := true) only [false_and, if_false, true_and]
    by_cases q : r = gN M 7 6
    · rw [if_pos q]; exact hc
    · rw [if_neg q]; exact h2 r r0 (by omega)
  · obtain ⟨⟨r0, r1, r2⟩, r3⟩ := hr
    rw [eN] at r1
    rw [tk_A] at r2 r3 ⊢
    simp (decide := true) only [false_and, if_false, true_and] at r2 r3 ⊢
    by_cases q : r = gN M 7 6
    · rw [if_pos q] at r3; exact absurd rfl r3
    · rw [if_neg q] at r2 r3 ⊢
      exact h3 r ⟨⟨r0, by omega, r2⟩, r3⟩
  · have e := h4 p p0 p2
    simp (decide := true) only [tk_A, false_and, if_false, true_and]
    refine ⟨?_, e.2⟩
    by_cases q : p = pl
    · rw [if_pos q, hl1]; omega
    · rw [if_neg q]; exact e.1
  · have e := h5 c c0 c2
    simp (decide := true) only [tk_A, false_and, if_false, true_and]
    refine ⟨e.1, ?_, e.2.2⟩
    by_cases q : c = co
    · rw [if_pos q, hu1]; omega
    · rw [if_neg q]; exact e.2.1
  · unfold iH
    rw [eo 0 13 (by decide), show gA (takM0 M co pl) 6 = gA M 6 from funext fun r => by simp (decide := true) only [tk_A, false_and, if_false]]
    exact h6
  · unfold iL
    have s := sum_up (f := gA M 1) (g := gA (takM0 M co pl) 1) (x := pl) (d := -1) hp.1 (by simp (decide := true) only [tk_A, false_and, if_false, true_and, if_true]; rw [hl1]; omega) (fun r q => by simp (decide := true) only [tk_A, false_and, if_false, true_and]; rw [if_neg q]) 20
    rw [show ((20 : Nat) : Int) = 20 from rfl, if_pos (by omega)] at s
    have h7' : sumX (gA M 1) 20 + gN M 7 6 = 120 := h7
    rw [s, eN]; omega
  · unfold iN
    have e1 : cntI (pLy (takM0 M co pl)) (gN M 7 6) = cntI (pLy M) (gN M 7 6) := cntI_cg n0 (fun r r0 r1 => by
      unfold pLy
      rw [tk_A]
      simp (decide := true) only [false_and, if_false, true_and]
      rw [if_neg (by omega)])
    rw [eo 0 13 (by decide), eN, cntI_t n0 (by unfold pLy; rw [tk_A]; simp (decide := true) only [true_and, if_true, not_false_eq_true]), e1]
    have := h8.1
    have := h8.2
    omega
  · rw [eo 14 4 (by decide)] at d0
    rw [eo 14 5 (by decide)] at d1
    have e := h9 d d0 d1
    rw [eN]
    simp (decide := true) only [tk_A, false_and, if_false]
    exact ⟨e.1, e.2.1, e.2.2.1, by omega⟩
  · rw [eo 14 4 (by decide)] at d0
    rw [eo 14 5 (by decide)] at d1
    have e := h10.1 d d0 d1
    simp (decide := true) only [tk_A, false_and, if_false]
    exact e
theorem op_A (C : gM) (co wr ro pl : Int) (c : Nat) (r : Int) : gA (opnM C co wr ro pl) c r = if c = 18 ∧ r = gN C 14 5 then (iI pl).toInt else if c = 17 ∧ r = gN C 14 5 then (iI ro).toInt else if c = 16 ∧ r = gN C 14 5 then (iI wr).toInt else if c = 15 ∧ r = gN C 14 5 then (iI co).toInt else gA C c r := by
  unfold opnM
  simp only [gA_sS, gA_sA]
theorem Inv_op {M : gM} (h : Inv M) {co wr ro : Int} (pl : Int) (hc : 0 ≤ co ∧ co ≤ 9) (hw : 0 ≤ wr ∧ wr ≤ 9) (hcw : ¬ co = wr) (hr : 0 ≤ ro) (hr2 : ro < gN M 7 6) (hn : gN M 14 5 < gN M 7 6) (hall : ∀ d : Int, gN M 14 4 ≤ d → d < gN M 14 5 → gA M 17 d < ro) : Inv (opnM M co wr ro pl) := by
  obtain ⟨h1, h2, h3, h4, h5, h6, h7, h8, h9, h10⟩ := h
  have b1 := h1.1.2
  have b2 := h1.2.1.1
  have b3 := h1.2.1.2.1
  have e5 : gN (opnM M co wr ro pl) 14 5 = gN M 14 5 + 1 := iI_t (z := gN M 14 5 + 1) ⟨by omega, by omega⟩
  have hv1 : (iI co).toInt = co := iI_t ⟨by omega, by omega⟩
  have hv2 : (iI wr).toInt = wr := iI_t ⟨by omega, by omega⟩
  have hv3 : (iI ro).toInt = ro := iI_t ⟨by omega, by omega⟩
  refine ⟨wf_opn _ _ _ _ h1 hn, h2, h3, h4, h5, h6, h7, h8, fun d d0 d1 => ?_, fun d d0 d1 => ?_, h10.2⟩
  · rw [e5] at d1
    have d0 : gN M 14 4 ≤ d := d0
    show _ ∧ _ ∧ _ ∧ gA (opnM M co wr ro pl) 17 d < gN M 7 6
    simp (decide := true) only [op_A, false_and, if_false, true_and]
    by_cases q : d = gN M 14 5
    · simp only [if_pos q]
      rw [hv1, hv2, hv3]
      exact ⟨hc, hw, hcw, hr2⟩
    · simp only [if_neg q]
      exact h9 d d0 (by omega)
  · rw [e5] at d1
    have d0 : gN M 14 4 < d := d0
    simp (decide := true) only [op_A, false_and, if_false, true_and]
    rw [if_neg (by omega)]
    by_cases q : d = gN M 14 5
    · rw [if_pos q, hv3]; exact hall _ (by omega) (by omega)
    · rw [if_neg q]; exact h10.1 d d0 (by omega)
theorem Inv_tak {M : gM} (h : Inv M) {co pl : Int} (hc : 0 ≤ co ∧ co ≤ 9) (hp : 0 ≤ pl ∧ pl ≤ 19) (hd : pD M co) (hl : 0 < gA M 1 pl) (hn : gN M 7 6 < 120) : Inv (takM M co pl) := by
  have h0 := Inv_tk0 h hc hp hd hl hn
  unfold takM
  split
  · exact h0
  · next q =>
    obtain ⟨h1, -, -, h4, -, -, -, -, h9, -⟩ := h
    have n0 := h1.1.1
    have n5 := h1.2.2.2.2.2.2.2.2
    have eN : gN (takM0 M co pl) 7 6 = gN M 7 6 + 1 := iI_t (z := gN M 7 6 + 1) ⟨by omega, by omega⟩
    have e5 : gN (takM0 M co pl) 14 5 = gN M 14 5 := rfl
    have e4 : gN (takM0 M co pl) 14 4 = gN M 14 4 := rfl
    refine Inv_op h0 pl hc (h4 pl hp.1 hp.2).2.2 (fun t => q t.symm) n0 (by omega) (by omega) (fun d d0 d1 => ?_)
    rw [e4] at d0
    rw [e5] at d1
    rw [tk_A]
    simp (decide := true) only [false_and, if_false]
    exact (h9 d d0 d1).2.2.2
/-! a dispute is settled -/
theorem Inv_stl1 {M : gM} (h : Inv M) (ho : gN M 14 4 < gN M 14 5) : Inv (stl1 M) := by
  obtain ⟨h1, h2, h3, h4, h5, h6, h7, h8, h9, h10⟩ := h
  have b := h1.2.1
  have e4 : gN (stl1 M) 14 4 = gN M 14 4 + 1 := iI_t (z := gN M 14 4 + 1) ⟨by omega, by omega⟩
  refine ⟨wf_stl1 h1 ho, h2, h3, h4, h5, h6, h7, h8, fun d d0 d1 => ?_, fun d d0 d1 => ?_, h10.2⟩
  · rw [e4] at d0
    exact h9 d (by omega) d1
  · rw [e4] at d0
    exact h10.1 d (by omega) d1
theorem Inv_usd {M : gM} (h : Inv M) (co : Int) : Inv (usdM M co) := by
  unfold usdM
  by_cases q : pD M co
  · rw [@if_pos _ (Classical.propDecidable _) q]
    have e := h.2.2.2.2.1 co q.1.1 q.1.2
    have q2 := q.2
    exact Inv_sC h (Or.inr rfl) co ⟨by omega, by omega⟩
  · rw [@if_neg _ (Classical.propDecidable _) q]; exact h
theorem Inv_own {M : gM} (h : Inv M) (x : Int) {v : Int} (hv : 0 ≤ v ∧ v ≤ 9) : Inv (sA M 8 x (iI v)) := by
  obtain ⟨h1, h2, h3, h4, h5, h6, h7, h8, h9, h10⟩ := h
  refine ⟨wf_A h1 rfl rfl rfl rfl rfl rfl rfl rfl rfl, fun r r0 r1 => ?_, h3, h4, h5, h6, h7, h8, h9, h10⟩
  rw [gA_at, iI_t ⟨by omega, by omega⟩]
  split
  · exact hv
  · exact h2 r r0 r1
/-- the hearths change -/
theorem Inv_hr {M : gM} (h : Inv M) (A : Int → Int32) (hA : ∀ c : Int, 0 ≤ c → c ≤ 9 → 0 ≤ (A c).toInt) (hs : sumX (fun c => (A c).toInt) 10 ≤ 40 * gN M 0 13) : Inv (sF M 6 A) := by
  obtain ⟨h1, h2, h3, h4, h5, h6, h7, h8, h9, h10⟩ := h
  exact ⟨wf_A h1 rfl rfl rfl rfl rfl rfl rfl rfl rfl, h2, h3, h4, fun c c0 c1 => ⟨(h5 c c0 c1).1, (h5 c c0 c1).2.1, hA c c0 c1⟩, hs, h7, h8, h9, h10⟩
theorem sA_sA2 (M : gM) (c : Nat) (a : Int) (x : Int32) (b : Int) (y : Int32) : sA (sA M c a x) c b y = sF M c (fun i => if i = b then y else if i = a then x else M.1 c i) := by
  rw [show sA M c a x = sF M c (fun i => if i = a then x else M.1 c i) from rfl, sA_sF]
theorem Inv_giv {M : gM} (h : Inv M) (a b : Int) : Inv (givM M a b) := by
  unfold givM
  split
  · next q =>
    obtain ⟨qa, qb⟩ := q
    have ha := Inv_hearth h qa.1 qa.2
    have hb := Inv_hearth h qb.1 qb.2
    obtain ⟨t, et⟩ : ∃ t : Int, t = min 20 (gA M 6 a) := ⟨_, rfl⟩
    rw [← et]
    have t0 : 0 ≤ t ∧ t ≤ gA M 6 a := by omega
    have v1 : (iI (gA M 6 a - t)).toInt = gA M 6 a - t := iI_t ⟨by omega, by omega⟩
    have eb : gA (sA M 6 a (iI (gA M 6 a - t))) 6 b = if b = a then gA M 6 a - t else gA M 6 b := by rw [gA_at, v1]
    have v2 : (iI (gA (sA M 6 a (iI (gA M 6 a - t))) 6 b + t)).toInt = gA (sA M 6 a (iI (gA M 6 a - t))) 6 b + t := iI_t (by rw [eb]; split <;> exact ⟨by omega, by omega⟩)
    have hC := h.2.2.2.2.1
    have h6 : sumX (gA M 6) 10 ≤ 40 * gN M 0 13 := h.2.2.2.2.2.1
    rw [sA_sA2]
    refine Inv_hr h _ (fun c c0 c1 => ?_) ?_
    · show 0 ≤ (if c = b then iI (gA (sA M 6 a (iI (gA M 6 a - t))) 6 b + t) else if c = a then iI (gA M 6 a - t) else M.1 6 c).toInt
      split
      · rw [v2, eb]; split <;> omega
      · split
        · rw [v1]; omega
        · exact (hC c c0 c1).2.2
    · have s1 := sum_up (f := gA M 6) (g := gA (sA M 6 a (iI (gA M 6 a - t))) 6) (x := a) (d := - t) qa.1 (by rw [gA_at, if_pos rfl, v1]; omega) (fun r q => by rw [gA_at, if_neg q]) 10
      have s2 := sum_up (f := gA (sA M 6 a (iI (gA M 6 a - t))) 6) (g := fun c => (if c = b then iI (gA (sA M 6 a (iI (gA M 6 a - t))) 6 b + t) else if c = a then iI (gA M 6 a - t) else M.1 6 c).toInt) (x := b) (d := t) qb.1 (by show (if b = b then _ else _ : Int32).toInt = _; rw [if_pos rfl, v2]) (fun r q => by
        show (if r = b then _ else _ : Int32).toInt = _
        rw [if_neg q, gA_at]
        split <;> rfl) 10
      rw [show ((10 : Nat) : Int) = 10 from rfl] at s1 s2
      rw [if_pos (by omega)] at s1 s2
      have s3 : sumX (fun c => (if c = b then iI (gA (sA M 6 a (iI (gA M 6 a - t))) 6 b + t) else if c = a then iI (gA M 6 a - t) else M.1 6 c).toInt) 10 ≤ 40 * gN M 0 13 := by rw [s2, s1]; omega
      exact s3
  · exact h
theorem Inv_stl {M : gM} (h : Inv M) (ho : gN M 14 4 < gN M 14 5) : Inv (stlM M) := by
  have h1 := Inv_stl1 h ho
  have e := h.2.2.2.2.2.2.2.2.1 _ (Int.le_refl _) ho
  unfold stlM
  split
  · exact Inv_usd h1 _
  · by_cases q : lyi (stl1 M) (gA M 17 (gN M 14 4))
    · rw [@if_pos _ (Classical.propDecidable _) q]; exact Inv_own h1 _ e.2.1
    · rw [@if_neg _ (Classical.propDecidable _) q]; exact Inv_giv h1 _ _
/-! a year ends -/
theorem Inv_yr {M : gM} (h : Inv M) : Inv (yrM M) := by
  obtain ⟨h1, h2, h3, h4, h5, h6, h7, h8, h9, h10⟩ := h
  obtain ⟨a1, a2, a3, a4, a5, a6, a7, a8, a9⟩ := h1
  have e13 : ∀ r : Int, (yrM M).1 13 r = if 0 ≤ r ∧ r < gN M 7 6 then iI 0 else M.1 13 r := fun r => rfl
  have e4 : gN (yrM M) 14 4 = gN M 14 5 := iI_t (z := gN M 14 5) (gN_r M 14 5)
  have e5 : ∀ c : Int, gA (yrM M) 5 c = if 0 ≤ c ∧ c < 10 then 0 else gA M 5 c := fun c => by
    show (if 0 ≤ c ∧ c < 10 then iI 0 else M.1 5 c).toInt = _
    split <;> rfl
  refine ⟨⟨a1, ⟨by rw [e4]; omega, by rw [e4]; exact Int.le_refl _, a2.2.2⟩, a3, a4, a5, fun r => ?_, a7, a8, a9⟩, h2, fun r hr => ?_, fun p p0 p1 => ?_, fun c c0 c1 => ?_, h6, h7, ?_, fun d d0 d1 => ?_, fun d d0 d1 => ?_, h10.2⟩
  · rw [e13]
    split
    · exact Or.inl rfl
    · exact a6 r
  · obtain ⟨⟨r0, r1, r2⟩, r3⟩ := hr
    unfold gA at r2
    rw [e13, if_pos ⟨r0, r1⟩] at r2
    exact absurd rfl r2
  · have e := h4 p p0 p1
    exact ⟨e.1, e.2.1, e.2.1⟩
  · have e := h5 c c0 c1
    rw [e5, if_pos ⟨c0, by omega⟩]
    exact ⟨e.1, by omega, e.2.2⟩
  · show 0 ≤ gN M 0 13 ∧ cntI (pLy (yrM M)) (gN M 7 6) + gN M 0 13 ≤ gN M 7 6
    have e := cntI_cg (p := pLy (yrM M)) (q := fun _ => False) (x := gN M 7 6) a1.1 (fun r r0 r1 => by
      unfold pLy gA
      rw [e13, if_pos ⟨r0, r1⟩]
      exact ⟨fun t => t rfl, fun t => t.elim⟩)
    have z : ∀ n : Nat, cntI (fun _ => False) n = 0 := fun n => by
      induction n with
      | zero => rfl
      | succ n ih => rw [show ((n + 1 : Nat) : Int) = (n : Int) + 1 by omega, cntI_f (by omega) (fun t => t), ih]
    have z2 := z (gN M 7 6).toNat
    rw [Int.toNat_of_nonneg a1.1] at z2
    rw [e, z2]
    have c := (cntI_le (pLy M) a1.1).1
    have := h8.1
    have := h8.2
    omega
  · rw [e4] at d0
    have d1 : d < gN M 14 5 := d1
    exact absurd d0 (by omega)
  · rw [e4] at d0
    have d1 : d < gN M 14 5 := d1
    exact absurd d0 (by omega)
/-! days pass -/
theorem Inv_wet {M : gM} (h : Inv M) (wt : Int) : Inv (wet1 M wt) := by
  obtain ⟨h1, h2, h3, h4⟩ := h
  refine ⟨wf_wet wt h1, h2, fun r hr => ?_, h4⟩
  have hr : pSt M r := hr
  show gA (sF M 10 (wetF M wt (gN M 7 6))) 10 r ≤ 20
  rw [gA_sF, if_pos rfl]
  unfold wetF
  rw [if_neg (fun t => hr.2 t.2.2.2)]
  exact h3 r hr
theorem Inv_tak1 {M : gM} (h : Inv M) {co r : Int} (hc : 0 ≤ co ∧ co ≤ 9) (hr : lyi M r) : Inv (tak1 M co r) ∧ gN (tak1 M co r) 0 13 = gN M 0 13 + 1 := by
  have hh := Inv_home h
  have hb := Inv_hearth h hc.1 hc.2
  obtain ⟨h1, h2, h3, h4, h5, h6, h7, h8, h9, h10⟩ := h
  obtain ⟨a1, a2, a3, a4, a5, a6, a7⟩ := h1
  have hw := a3 r
  obtain ⟨r0, r1, r2⟩ := hr
  have e13 : gN (tak1 M co r) 0 13 = gN M 0 13 + 1 := iI_t (z := gN M 0 13 + 1) ⟨by omega, by omega⟩
  have v : (iI (gA M 6 co + max 0 (40 - gA M 10 r))).toInt = gA M 6 co + max 0 (40 - gA M 10 r) := iI_t ⟨by omega, by omega⟩
  have eA : ∀ q : Int, gA (tak1 M co r) 13 q = if q = r then 0 else gA M 13 q := fun q => by
    show gA (sA _ 13 r (iI 0)) 13 q = _
    rw [gA_at]
    rfl
  have e6 : ∀ q : Int, gA (tak1 M co r) 6 q = if q = co then gA M 6 co + max 0 (40 - gA M 10 r) else gA M 6 q := fun q => by
    show gA (sA M 6 co (iI (gA M 6 co + max 0 (40 - gA M 10 r)))) 6 q = _
    rw [gA_at, v]
  have hp : ∀ q, pLy (tak1 M co r) q ↔ (pLy M q ∧ ¬ q = r) := fun q => by
    unfold pLy
    rw [eA]
    by_cases t : q = r
    · rw [if_pos t]; exact ⟨fun u => absurd rfl u, fun u => absurd t u.2⟩
    · rw [if_neg t]; exact ⟨fun u => ⟨u, t⟩, fun u => u.1⟩
  refine ⟨⟨⟨a1, a2, a3, a4, a5, fun q => ?_, a7⟩, h2, fun q hq => ?_, h4, fun c c0 c1 => ?_, ?_, h7, ?_, h9, h10⟩, e13⟩
  · show (if q = r then iI 0 else M.1 13 q) = 0 ∨ (if q = r then iI 0 else M.1 13 q) = 1
    split
    · exact Or.inl rfl
    · exact a6 q
  · obtain ⟨⟨q0, q1, q2⟩, q3⟩ := hq
    exact h3 q ⟨⟨q0, q1, ((hp q).1 q2).1⟩, q3⟩
  · have e := h5 c c0 c1
    rw [e6]
    refine ⟨e.1, e.2.1, ?_⟩
    split
    · omega
    · exact e.2.2
  · unfold iH
    have s := sum_up (f := gA M 6) (g := gA (tak1 M co r) 6) (x := co) (d := max 0 (40 - gA M 10 r)) hc.1 (by rw [e6, if_pos rfl]) (fun q t => by rw [e6, if_neg t]) 10
    rw [show ((10 : Nat) : Int) = 10 from rfl, if_pos (by omega)] at s
    have h6 : sumX (gA M 6) 10 ≤ 40 * gN M 0 13 := h6
    rw [s, e13]
    omega
  · unfold iN
    have e := cnt_rmI (L := pLy M) (L' := pLy (tak1 M co r)) (r := r) (x := gN M 7 6) r0 r2 hp a1.1
    rw [if_pos r1] at e
    rw [e13]
    show _ ∧ cntI (pLy (tak1 M co r)) (gN M 7 6) + _ ≤ gN M 7 6
    rw [e]
    have := h8.1
    have := h8.2
    omega
theorem Inv_tk {M : gM} (h : Inv M) {co : Int} (hc : 0 ≤ co ∧ co ≤ 9) : ∀ n : Nat, Inv (tk M co n) ∧ gN M 0 13 ≤ gN (tk M co n) 0 13
  | 0 => ⟨h, Int.le_refl _⟩
  | n + 1 => by
    have ih := Inv_tk h hc n
    rw [tk_s]
    split
    · exact ih
    · next q =>
      have e := Inv_tak1 ih.1 hc ((pQ_lyi ih.1.1.1.1).resolve_left q)
      refine ⟨e.1, ?_⟩
      rw [e.2]
      have := ih.2
      omega
theorem Inv_srv {M : gM} (h : Inv M) {co : Int} (hc : 0 ≤ co ∧ co ≤ 9) : Inv (srvM M co) ∧ gN M 0 13 ≤ gN (srvM M co) 0 13 := Inv_tk h hc _
theorem Inv_day {M : gM} (h : Inv M) (wt : Int) : Inv (dayM M wt) ∧ gN M 0 13 ≤ gN (dayM M wt) 0 13 := by
  have hr := h.1.2.2.2.2.2.2.1
  have s1 := Inv_srv (Inv_wet h wt) (co := gN M 0 10 % 10) ⟨by omega, by omega⟩
  have s2 := Inv_srv s1.1 (co := (gN M 0 10 + 5) % 10) ⟨by omega, by omega⟩
  have e : gN M 0 13 ≤ gN (srvM (srvM (wet1 M wt) (gN M 0 10 % 10)) ((gN M 0 10 + 5) % 10)) 0 13 := Int.le_trans s1.2 s2.2
  obtain ⟨⟨⟨a1, a2, a3, a4, a5, a6, a7, a8, a9⟩, h2⟩, -⟩ := s2
  refine ⟨⟨⟨a1, a2, a3, a4, a5, a6, ?_, a8, a9⟩, h2⟩, e⟩
  show 0 ≤ (iI ((gN M 0 10 + 1) % 10)).toInt ∧ (iI ((gN M 0 10 + 1) % 10)).toInt ≤ 9
  rw [iI_t ⟨by omega, by omega⟩]
  omega
theorem Inv_dy {M : gM} (h : Inv M) (wt : Int) : ∀ n : Nat, Inv (dyM M wt n) ∧ gN M 0 13 ≤ gN (dyM M wt n) 0 13
  | 0 => ⟨h, Int.le_refl _⟩
  | n + 1 => by
    have ih := Inv_dy h wt n
    have e := Inv_day ih.1 wt
    exact ⟨e.1, Int.le_trans ih.2 e.2⟩
theorem Inv_dyX {M : gM} (h : Inv M) (wt n : Int) : Inv (dyX M wt n) ∧ gN M 0 13 ≤ gN (dyX M wt n) 0 13 := Inv_dy h wt _
