theorem grp9_9 (M : gM) (a b wt v g : Int) (h : 0 ≤ a ∧ a ≤ 70) : gN (grp9 M a b wt v g) 0 9 = a := iI_t (z := a) ⟨by omega, by omega⟩
theorem grp9_10 (M : gM) (a b wt v g : Int) (h : b = 0 ∨ b = 1) : gN (grp9 M a b wt v g) 0 10 = b := by rcases h with rfl | rfl <;> rfl
theorem grp9_12 (M : gM) (a b wt v g : Int) (h : 0 ≤ g ∧ g ≤ 70) : gN (grp9 M a b wt v g) 0 12 = g := iI_t (z := g) ⟨by omega, by omega⟩
theorem grp9_8 (M : gM) (a b wt v g : Int) : gN (grp9 M a b wt v g) 0 8 = gN M 0 8 := rfl
theorem isD3_lt {M : gM} {x : Int} (h : isD3 (sgX M x)) : x < gN M 0 8 := sgX_lt (by unfold isD3 at h; omega)
theorem stG_fact {N M' : gM} (h : stG N M') (ha : 0 ≤ gN N 0 9 ∧ gN N 0 9 ≤ gN N 0 8) (hl : gN N 0 8 ≤ 60) (hg : 0 ≤ gN N 0 12 ∧ gN N 0 12 ≤ gN N 0 9) :
    gN M' 0 8 = gN N 0 8 ∧ (gN N 0 9 ≤ gN M' 0 9 ∧ gN M' 0 9 ≤ gN N 0 8) ∧ (0 ≤ gN M' 0 12 ∧ gN M' 0 12 ≤ gN M' 0 9) ∧ (0 ≤ gN M' 0 10 ∧ gN M' 0 10 ≤ 1) ∧ (¬ gN M' 0 10 = 0 → gN N 0 9 < gN M' 0 9) := by
  have key : ∀ (a b v g : Int), (gN N 0 9 ≤ a ∧ a ≤ gN N 0 8) → (b = 0 ∨ b = 1) → (0 ≤ g ∧ g ≤ a) → (b = 1 → gN N 0 9 < a) → M' = grp9 N a b (wOf (sgX N (gN N 0 9))) v g → gN M' 0 8 = gN N 0 8 ∧ (gN N 0 9 ≤ gN M' 0 9 ∧ gN M' 0 9 ≤ gN N 0 8) ∧ (0 ≤ gN M' 0 12 ∧ gN M' 0 12 ≤ gN M' 0 9) ∧ (0 ≤ gN M' 0 10 ∧ gN M' 0 10 ≤ 1) ∧ (¬ gN M' 0 10 = 0 → gN N 0 9 < gN M' 0 9) := by
    intro a b v g h1 h2 h3 h4 e
    rw [e, grp9_8, grp9_9 _ _ _ _ _ _ (by omega), grp9_10 _ _ _ _ _ _ h2, grp9_12 _ _ _ _ _ _ (by omega)]
    refine ⟨rfl, h1, h3, by omega, fun q => h4 (by omega)⟩
  rcases h with ⟨h1, e⟩ | ⟨h1, h2, e⟩ | ⟨h1, h2, e⟩ | ⟨h1, h2, h3, e⟩ | ⟨h1, h2, h3, e⟩ | ⟨h1, h2, h3, e⟩
  · exact key _ _ _ _ (by omega) (Or.inl rfl) (by omega) (by omega) e
  · have l1 := isD3_lt h1
    exact key _ _ _ _ (by omega) (Or.inr rfl) (by omega) (by omega) e
  · have l1 := isD3_lt h1
    exact key _ _ _ _ (by omega) (Or.inl rfl) (by omega) (by omega) e
  · have l1 := isD3_lt h1
    have l2 := sgX_lt (M := N) (x := gN N 0 9 + 1) (by omega)
    have l3 := sgX_lt (M := N) (x := gN N 0 9 + 1 + 1) (by omega)
    exact key _ _ _ _ (by omega) (Or.inr rfl) (by omega) (by omega) e
  · have l1 := isD3_lt h1
    have l2 := sgX_lt (M := N) (x := gN N 0 9 + 1) (by omega)
    exact key _ _ _ _ (by omega) (Or.inl rfl) (by omega) (by omega) e
  · have l1 := isD3_lt h1
    have l2 := sgX_lt (M := N) (x := gN N 0 9 + 1) (by omega)
    exact key _ _ _ _ (by omega) (Or.inr rfl) (by omega) (by omega) e
/-- the reference's reader behind n + 1 groups -/
def rdR (M : gM) : Nat → gM → Prop
  | 0, M' => stG (sS (sS M 0 9 (iI 0)) 0 12 (iI 0)) M'
  | n + 1, M' => ∃ N, rdR M n N ∧ (¬ gN N 0 10 = 0 ∧ gN N 0 9 < gN N 0 8) ∧ stG N M'
theorem recS_1 (M : gM) : (recS M).1 1 = M.1 1 := rfl
theorem recS_4 (M : gM) : (recS M).1 4 = M.1 4 := rfl
theorem recS_5 (M : gM) : (recS M).1 5 = M.1 5 := rfl
theorem recS_6 (M : gM) : (recS M).1 6 = M.1 6 := rfl
theorem gN_rec (M : gM) {f : Nat} (h : ¬ f = 4) : gN (recS M) 0 f = gN M 0 f := by
  unfold recS
  rw [gN_sS, if_neg (by omega)]
  rfl
/-- what the reference keeps to -/
def mO (w : gW) : Prop := wA ((w 10).1 1) ∧ (0 ≤ aI ((w 10).1 1) 7 ∧ aI ((w 10).1 1) 7 ≤ 120) ∧ (∀ d : Int, 0 ≤ d → d < aI ((w 10).1 1) 7 → (0 ≤ aI ((w 10).1 1) (461 + 4 * d + 0) ∧ aI ((w 10).1 1) (461 + 4 * d + 0) ≤ 9) ∧ (0 ≤ aI ((w 10).1 1) (461 + 4 * d + 1) ∧ aI ((w 10).1 1) (461 + 4 * d + 1) ≤ 9)) ∧ (0 ≤ gN (w 10) 0 4 ∧ gN (w 10) 0 4 ≤ 4) ∧ (0 ≤ gN (w 10) 0 8 ∧ gN (w 10) 0 8 ≤ 60) ∧ (∀ co : Int, 0 ≤ co → co ≤ 9 → 0 ≤ aI ((w 10).1 1) (11 + 3 * co + 0) ∧ aI ((w 10).1 1) (11 + 3 * co + 0) ≤ 20) ∧ (∀ q : Int, 0 ≤ q → q < 60 → 0 ≤ aI ((w 10).1 1) (101 + 6 * q + 5) ∧ aI ((w 10).1 1) (101 + 6 * q + 5) ≤ 1)
def pRA (A : Int → Int32) (co pl : Int) : Prop := (0 ≤ pl ∧ pl ≤ 19) ∧ aI A (41 + 3 * pl + 2) = co
def rsA (A : Int → Int32) (co pl z : Int) : Prop := (z = 1 ∧ aI A (11 + 3 * co + 0) ≤ aI A (11 + 3 * co + 1)) ∨ (aI A (11 + 3 * co + 1) < aI A (11 + 3 * co + 0) ∧ ((z = 2 ∧ aI A (41 + 3 * pl + 0) = 0) ∨ (¬ aI A (41 + 3 * pl + 0) = 0 ∧ ((z = 3 ∧ aI A 4 = 60) ∨ (¬ aI A 4 = 60 ∧ ((z = 0 ∧ (pRA A co pl ∨ pRA A co (pl - 1) ∨ pRA A co (pl + 1))) ∨ (z = 4 ∧ ¬ pRA A co pl ∧ ¬ pRA A co (pl - 1) ∧ ¬ pRA A co (pl + 1))))))))
/-- counts by place -/
def qWh (A : Int → Int32) (co p : Int) : Prop := aI A (101 + 6 * p + 1) = co
def qWS (A : Int → Int32) (co p : Int) : Prop := aI A (101 + 6 * p + 1) = co ∧ aI A (101 + 6 * p + 5) = 1
def qDr (A : Int → Int32) (p : Int) : Prop := aI A (101 + 6 * p + 3) ≤ 20
def qPl (A : Int → Int32) (co k p : Int) : Prop := aI A (41 + 3 * p + k) = co
def qDi (A : Int → Int32) (co d : Int) : Prop := aI A (461 + 4 * d + 0) = co ∨ aI A (461 + 4 * d + 1) = co
def qBf (A : Int → Int32) (pl o : Int) : Prop := aI A (101 + 6 * o + 1) = aI A (101 + 6 * pl + 1) ∧ (aI A (101 + 6 * o + 3) < aI A (101 + 6 * pl + 3) ∨ (aI A (101 + 6 * o + 3) = aI A (101 + 6 * pl + 3) ∧ o < pl))
/-- the place of a row -/
def plc (A : Int → Int32) (r pl : Int) : Prop := (0 ≤ pl ∧ pl < aI A 4) ∧ aI A (101 + 6 * pl + 0) = r ∧ ∀ q : Int, 0 ≤ q → q < pl → ¬ aI A (101 + 6 * q + 0) = r
def nop (A : Int → Int32) (r : Int) : Prop := ∀ q : Int, 0 ≤ q → q < aI A 4 → ¬ aI A (101 + 6 * q + 0) = r
theorem st_st (A : Int → Int32) (i : Int) (u v : Int32) : st (st A i u) i v = st A i v := by
  funext x
  simp only [st]
  split <;> rfl
/-- days of a weather, one behind the other -/
noncomputable def dA (A : Int → Int32) (wt : Int) : Nat → Int → Int32
  | 0 => A
  | n + 1 => psA (dA A wt n) wt
noncomputable def dAX (A : Int → Int32) (wt x : Int) : Int → Int32 := dA A wt x.toNat
theorem dAX_0 (A : Int → Int32) (wt : Int) : dAX A wt 0 = A := rfl
theorem dAX_s (A : Int → Int32) (wt : Int) {x : Int} (h : 0 ≤ x) : dAX A wt (x + 1) = psA (dAX A wt x) wt := by
  unfold dAX
  rw [toNat_s h]
  rfl
theorem wA_d {A : Int → Int32} (wt : Int) (h : wA A) : ∀ n : Nat, wA (dA A wt n)
  | 0 => h
  | n + 1 => wA_ps wt (wA_d wt h n)
theorem wA_dX {A : Int → Int32} (wt x : Int) (h : wA A) : wA (dAX A wt x) := wA_d wt h _
noncomputable def nA (A : Int → Int32) (wt : Int) (k : Int) : Int := psN (dAX A wt k) wt
theorem nA_le {A : Int → Int32} (wt : Int) (h : wA A) : ∀ n : Nat, 0 ≤ sumI (nA A wt) n ∧ sumI (nA A wt) n ≤ 12 * n
  | 0 => ⟨Int.le_refl _, Int.le_refl _⟩
  | n + 1 => by
    have a := nA_le wt h n
    have b := psN_le (dAX A wt n) wt (wA_dX wt n h)
    show 0 ≤ sumI (nA A wt) n + nA A wt n ∧ sumI (nA A wt) n + nA A wt n ≤ _
    unfold nA at *
    omega
theorem nAX_le {A : Int → Int32} (wt : Int) (h : wA A) {x : Int} (hx : 0 ≤ x) : 0 ≤ sumX (nA A wt) x ∧ sumX (nA A wt) x ≤ 12 * x := by
  have := nA_le wt h x.toNat
  unfold sumX
  omega
def qSt (A : Int → Int32) (p : Int) : Prop := aI A (101 + 6 * p + 5) = 1
def vG (T : Int → Int32) (g : Int) : Int := max 0 (aI T (2 * g + 1))
noncomputable def grA (A T : Int → Int32) : Nat → Int → Int32
  | 0 => A
  | n + 1 => dAX (grA A T n) (aI T (2 * n)) (vG T n)
noncomputable def grX (A T : Int → Int32) (x : Int) : Int → Int32 := grA A T x.toNat
theorem grX_0 (A T : Int → Int32) : grX A T 0 = A := rfl
theorem grX_s (A T : Int → Int32) {x : Int} (h : 0 ≤ x) : grX A T (x + 1) = dAX (grX A T x) (aI T (2 * x)) (vG T x) := by
  unfold grX
  rw [toNat_s h]
  show dAX _ (aI T (2 * (x.toNat : Int))) (vG T (x.toNat : Int)) = _
  rw [Int.toNat_of_nonneg h]
theorem wA_gr {A T : Int → Int32} (h : wA A) : ∀ n : Nat, wA (grA A T n)
  | 0 => h
  | n + 1 => wA_dX _ _ (wA_gr h n)
theorem wA_grX {A : Int → Int32} (T : Int → Int32) (x : Int) (h : wA A) : wA (grX A T x) := wA_gr h _
/-- what reading leaves as it was -/
theorem stG_keep {N M' : gM} (h : stG N M') : M'.1 1 = N.1 1 ∧ M'.1 3 = N.1 3 ∧ M'.1 4 = N.1 4 ∧ M'.1 5 = N.1 5 ∧ gN M' 0 4 = gN N 0 4 ∧ gN M' 0 6 = gN N 0 6 := by
  rcases h with ⟨h1, e⟩ | ⟨h1, h2, e⟩ | ⟨h1, h2, e⟩ | ⟨h1, h2, h3, e⟩ | ⟨h1, h2, h3, e⟩ | ⟨h1, h2, h3, e⟩ <;> (rw [e]; exact ⟨rfl, rfl, rfl, rfl, rfl, rfl⟩)
theorem rdR_fact {M : gM} (hl : 0 ≤ gN M 0 8 ∧ gN M 0 8 ≤ 60) : ∀ (n : Nat) (M' : gM), rdR M n M' → ((0 ≤ gN M' 0 9 ∧ gN M' 0 9 ≤ gN M 0 8) ∧ gN M' 0 8 = gN M 0 8 ∧ (0 ≤ gN M' 0 12 ∧ gN M' 0 12 ≤ gN M' 0 9) ∧ (0 ≤ gN M' 0 10 ∧ gN M' 0 10 ≤ 1)) ∧ (M'.1 1 = M.1 1 ∧ M'.1 3 = M.1 3 ∧ M'.1 4 = M.1 4 ∧ M'.1 5 = M.1 5 ∧ gN M' 0 4 = gN M 0 4 ∧ gN M' 0 6 = gN M 0 6)
  | 0, M', h => by
    have q9 : gN (sS (sS M 0 9 (iI 0)) 0 12 (iI 0)) 0 9 = 0 := rfl
    have q12 : gN (sS (sS M 0 9 (iI 0)) 0 12 (iI 0)) 0 12 = 0 := rfl
    have q8 : gN (sS (sS M 0 9 (iI 0)) 0 12 (iI 0)) 0 8 = gN M 0 8 := rfl
    have hf := stG_fact h (by omega) (by omega) (by omega)
    have hk := stG_keep h
    exact ⟨by omega, hk⟩
  | n + 1, M', h => by
    obtain ⟨N, h1, h2, h3⟩ := h
    obtain ⟨f1, k1⟩ := rdR_fact hl n N h1
    have hf := stG_fact h3 (by omega) (by omega) (by omega)
    obtain ⟨a1, a2, a3, a4, a5, a6⟩ := stG_keep h3
    obtain ⟨b1, b2, b3, b4, b5, b6⟩ := k1
    exact ⟨by omega, a1.trans b1, a2.trans b2, a3.trans b3, a4.trans b4, a5.trans b5, a6.trans b6⟩
theorem gA_sx (M : gM) (i : Int) : gA (recS M) 4 i = gA M 4 i := rfl
def qDO (A : Int → Int32) (co k pl : Int) : Prop := aI A (101 + 6 * pl + 1) = co ∧ cntI (qBf A pl) (aI A 4) = k
theorem gA_rec6 (M : gM) (i : Int) : gA (recS M) 6 i = aI (M.1 6) i := rfl
