/-! the reference: one row of numbers -/
def aI (A : Int → Int32) (i : Int) : Int := (A i).toInt
def st (A : Int → Int32) (i : Int) (v : Int32) : Int → Int32 := fun i' => if i' = i then v else A i'
theorem aI_r (A : Int → Int32) (i : Int) : inR (aI A i) := inR_o _
theorem aI_i (A : Int → Int32) (i : Int) : iI (aI A i) = A i := iI_o _
theorem st_aI (A : Int → Int32) (i : Int) (v : Int32) (x : Int) : aI (st A i v) x = if x = i then v.toInt else aI A x := by
  unfold aI st
  split <;> rfl
theorem st_n (A : Int → Int32) {i : Int} (v : Int32) {x : Int} (h : ¬ x = i) : st A i v x = A x := if_neg h
theorem st_e (A : Int → Int32) (i : Int) (v : Int32) : st A i v i = v := if_pos rfl
theorem aI_n (A : Int → Int32) {i : Int} (v : Int32) {x : Int} (h : ¬ x = i) : aI (st A i v) x = aI A x := congrArg Int32.toInt (st_n A v h)
theorem aI_e (A : Int → Int32) (i : Int) (v : Int32) : aI (st A i v) i = v.toInt := congrArg Int32.toInt (st_e A i v)
/-- B within lo to hi, else A -/
def selG (A B : Int → Int32) (lo hi : Int) : Int → Int32 := fun i => if lo ≤ i ∧ i < hi then B i else A i
theorem selG_0 (A B : Int → Int32) {lo hi : Int} (h : hi ≤ lo) : selG A B lo hi = A := by
  funext i
  unfold selG
  rw [if_neg (by omega)]
theorem selG_s (A B : Int → Int32) {lo x : Int} (h : lo ≤ x) : selG A B lo (x + 1) = st (selG A B lo x) x (B x) := by
  funext i
  show (if lo ≤ i ∧ i < x + 1 then B i else A i) = if i = x then B x else if lo ≤ i ∧ i < x then B i else A i
  by_cases hi : i = x
  · rw [if_pos hi, if_pos (by omega), hi]
  · rw [if_neg hi]
    by_cases hq : lo ≤ i ∧ i < x
    · rw [if_pos hq, if_pos (by omega)]
    · rw [if_neg hq, if_neg (by omega)]
theorem selG_o (A B : Int → Int32) {lo hi x : Int} (h : x < lo ∨ hi ≤ x) : selG A B lo hi x = A x := if_neg (by omega)
theorem selG_i (A B : Int → Int32) {lo hi x : Int} (h : lo ≤ x ∧ x < hi) : selG A B lo hi x = B x := if_pos h
theorem aI_so (A B : Int → Int32) {lo hi x : Int} (h : x < lo ∨ hi ≤ x) : aI (selG A B lo hi) x = aI A x := congrArg Int32.toInt (selG_o A B h)
theorem aI_si (A B : Int → Int32) {lo hi x : Int} (h : lo ≤ x ∧ x < hi) : aI (selG A B lo hi) x = aI B x := congrArg Int32.toInt (selG_i A B h)
/-- how a block's arrays are read -/
theorem gA_s (M : gM) (c : Nat) (A : Int → Int32) (i : Int) : gA (sF M c A) c i = aI A i := by rw [gA_sF, if_pos rfl]; rfl
theorem gA_sn (M : gM) {c c' : Nat} (A : Int → Int32) (i : Int) (h : ¬ c' = c) : gA (sF M c A) c' i = gA M c' i := by rw [gA_sF, if_neg h]
theorem sA_st (M : gM) (c : Nat) (x : Int) (v : Int32) : sA M c x v = sF M c (st (M.1 c) x v) := rfl
theorem arr_s (M : gM) (c : Nat) (A : Int → Int32) : (sF M c A).1 c = A := if_pos rfl
theorem arr_n (M : gM) {c c' : Nat} (A : Int → Int32) (h : ¬ c' = c) : (sF M c A).1 c' = M.1 c' := if_neg h
theorem arr_S (M : gM) (c f c' : Nat) (v : Int32) : (sS M c f v).1 c' = M.1 c' := rfl
theorem sF_sS (M : gM) (c f c' : Nat) (v : Int32) (A : Int → Int32) : sF (sS M c f v) c' A = sS (sF M c' A) c f v := rfl
theorem sS_sS (M : gM) (c f : Nat) (u v : Int32) : sS (sS M c f u) c f v = sS M c f v := by
  refine Prod.ext rfl ?_
  funext c' f'
  simp only [sS]
  split <;> rfl
theorem gA_aI (M : gM) (i : Int) : gA M 1 i = aI (M.1 1) i := rfl
/-- a state is recorded -/
def many (M : gM) : Int := if gN M 0 4 = 4 then 3 else gN M 0 4
def savA (M : gM) : Int → Int32 := if gN M 0 4 = 4 then selG (M.1 3) (fun i => M.1 3 (i + 941)) 0 2823 else M.1 3
def recS (M : gM) : gM := sS (sF M 3 (selG (savA M) (fun i => M.1 1 (i - 941 * many M)) (941 * many M) (941 * many M + 941))) 0 4 (iI (many M + 1))
/-- a day's weather -/
def clp (x : Int) : Int := if x < 0 then 0 else if 60 < x then 60 else x
def drr (wt t : Int) : Int := if wt = 2 then -4 else (if wt = 0 then 6 else 3) + 2 * t
def wthA (A : Int → Int32) (wt : Int) : Nat → Int → Int32
  | 0 => A
  | n + 1 => if aI (wthA A wt n) (101 + 6 * n + 5) = 0 then st (wthA A wt n) (101 + 6 * n + 3) (iI (clp (aI (wthA A wt n) (101 + 6 * n + 3) - drr wt (aI (wthA A wt n) (101 + 6 * n + 4))))) else wthA A wt n
theorem wthA_s (A : Int → Int32) (wt : Int) (n : Nat) : wthA A wt (n + 1) = if aI (wthA A wt n) (101 + 6 * n + 5) = 0 then st (wthA A wt n) (101 + 6 * n + 3) (iI (clp (aI (wthA A wt n) (101 + 6 * n + 3) - drr wt (aI (wthA A wt n) (101 + 6 * n + 4))))) else wthA A wt n := rfl
def wthX (A : Int → Int32) (wt x : Int) : Int → Int32 := wthA A wt x.toNat
theorem wthX_0 (A : Int → Int32) (wt : Int) : wthX A wt 0 = A := rfl
theorem wthX_t {A : Int → Int32} {wt x : Int} (h : 0 ≤ x) (h5 : aI (wthX A wt x) (101 + 6 * x + 5) = 0) : wthX A wt (x + 1) = st (wthX A wt x) (101 + 6 * x + 3) (iI (clp (aI (wthX A wt x) (101 + 6 * x + 3) - drr wt (aI (wthX A wt x) (101 + 6 * x + 4))))) := by
  unfold wthX at *
  rw [toNat_s h]
  rw [wthA_s, Int.toNat_of_nonneg h, if_pos h5]
theorem wthX_f {A : Int → Int32} {wt x : Int} (h : 0 ≤ x) (h5 : ¬ aI (wthX A wt x) (101 + 6 * x + 5) = 0) : wthX A wt (x + 1) = wthX A wt x := by
  unfold wthX at *
  rw [toNat_s h]
  rw [wthA_s, Int.toNat_of_nonneg h, if_neg h5]
theorem wthA_lo (A : Int → Int32) (wt : Int) : ∀ (n : Nat) (i : Int), i < 101 → wthA A wt n i = A i
  | 0, _, _ => rfl
  | n + 1, i, h => by
    rw [wthA_s]
    split
    · rw [st_n _ _ (by omega)]; exact wthA_lo A wt n i h
    · exact wthA_lo A wt n i h
theorem wthX_lo (A : Int → Int32) (wt x : Int) {i : Int} (h : i < 101) : aI (wthX A wt x) i = aI A i := congrArg Int32.toInt (wthA_lo A wt _ i h)
/-- the wetness and the turning of every place are small -/
def wr (A : Int → Int32) : Prop := ∀ p : Int, 0 ≤ p → p < 60 → (0 ≤ aI A (101 + 6 * p + 3) ∧ aI A (101 + 6 * p + 3) ≤ 60) ∧ (0 ≤ aI A (101 + 6 * p + 4) ∧ aI A (101 + 6 * p + 4) ≤ 1)
theorem clp_le (x : Int) : 0 ≤ clp x ∧ clp x ≤ 60 := by
  unfold clp
  split
  · omega
  · split <;> omega
theorem wr_st {A : Int → Int32} (h : wr A) {i : Int} (v : Int32) (hi : ¬ ∃ p : Int, 0 ≤ p ∧ p < 60 ∧ (i = 101 + 6 * p + 3 ∨ i = 101 + 6 * p + 4)) : wr (st A i v) := by
  intro p h0 h1
  rw [aI_n _ _ (fun q => hi ⟨p, h0, h1, Or.inl q.symm⟩), aI_n _ _ (fun q => hi ⟨p, h0, h1, Or.inr q.symm⟩)]
  exact h p h0 h1
theorem wr_wth {A : Int → Int32} (wt : Int) (h : wr A) : ∀ n : Nat, wr (wthA A wt n)
  | 0 => h
  | n + 1 => by
    have ih := wr_wth wt h n
    rw [wthA_s]
    split
    · intro p h0 h1
      have h4 : ¬ 101 + 6 * p + 4 = 101 + 6 * (n : Int) + 3 := by omega
      rw [aI_n _ _ h4]
      refine ⟨?_, (ih p h0 h1).2⟩
      rw [st_aI]
      split
      · have := clp_le (aI (wthA A wt n) (101 + 6 * n + 3) - drr wt (aI (wthA A wt n) (101 + 6 * n + 4)))
        rw [iI_t ⟨by omega, by omega⟩]; exact this
      · exact (ih p h0 h1).1
    · exact ih
theorem wr_wthX {A : Int → Int32} (wt x : Int) (h : wr A) : wr (wthX A wt x) := wr_wth wt h _
/-- a row leaves its place -/
def lvA (A : Int → Int32) (p : Int) : Int → Int32 := selG (selG (st A 4 (iI (aI A 4 - 1))) (fun i => A (i + 6)) (101 + 6 * p) (101 + 6 * (aI A 4 - 1))) (fun _ => iI 0) (101 + 6 * (aI A 4 - 1)) (101 + 6 * (aI A 4 - 1) + 6)
/-- the driest stacked row of a commoner, by place -/
def qP (A : Int → Int32) (co p : Int) : Prop := aI A (101 + 6 * p + 1) = co ∧ aI A (101 + 6 * p + 5) = 1
noncomputable def bsp (A : Int → Int32) (co : Int) : Nat → Int
  | 0 => -5
  | n + 1 => @ite _ (qP A co n ∧ (bsp A co n = -5 ∨ aI A (101 + 6 * n + 3) < aI A (101 + 6 * bsp A co n + 3))) (Classical.propDecidable _) (n : Int) (bsp A co n)
theorem bsp_s (A : Int → Int32) (co : Int) (n : Nat) : bsp A co (n + 1) = @ite _ (qP A co n ∧ (bsp A co n = -5 ∨ aI A (101 + 6 * n + 3) < aI A (101 + 6 * bsp A co n + 3))) (Classical.propDecidable _) (n : Int) (bsp A co n) := rfl
noncomputable def bspI (A : Int → Int32) (co x : Int) : Int := bsp A co x.toNat
theorem bspI_0 (A : Int → Int32) (co : Int) : bspI A co 0 = -5 := rfl
theorem bspI_t {A : Int → Int32} {co x : Int} (h : 0 ≤ x) (hq : qP A co x) (hd : bspI A co x = -5 ∨ aI A (101 + 6 * x + 3) < aI A (101 + 6 * bspI A co x + 3)) : bspI A co (x + 1) = x := by
  unfold bspI at *
  rw [toNat_s h, bsp_s, @if_pos _ (Classical.propDecidable _) (by rw [Int.toNat_of_nonneg h]; exact ⟨hq, hd⟩), Int.toNat_of_nonneg h]
theorem bspI_f {A : Int → Int32} {co x : Int} (h : 0 ≤ x) (hq : ¬ (qP A co x ∧ (bspI A co x = -5 ∨ aI A (101 + 6 * x + 3) < aI A (101 + 6 * bspI A co x + 3)))) : bspI A co (x + 1) = bspI A co x := by
  unfold bspI at *
  rw [toNat_s h, bsp_s, @if_neg _ (Classical.propDecidable _) (by rw [Int.toNat_of_nonneg h]; exact hq)]
theorem bsp_le (A : Int → Int32) (co : Int) : ∀ n : Nat, bsp A co n = -5 ∨ (0 ≤ bsp A co n ∧ bsp A co n < n)
  | 0 => Or.inl rfl
  | n + 1 => by
    have h := bsp_le A co n
    rw [bsp_s]
    by_cases hq : qP A co n ∧ (bsp A co n = -5 ∨ aI A (101 + 6 * n + 3) < aI A (101 + 6 * bsp A co n + 3))
    · rw [@if_pos _ (Classical.propDecidable _) hq]; omega
    · rw [@if_neg _ (Classical.propDecidable _) hq]; omega
theorem bspI_le (A : Int → Int32) (co : Int) {x : Int} (h : 0 ≤ x) : bspI A co x = -5 ∨ (0 ≤ bspI A co x ∧ bspI A co x < x) := by
  have := bsp_le A co x.toNat
  unfold bspI
  omega
/-- a cart takes a row, if there is one; how many it took -/
noncomputable def nxA (A : Int → Int32) (co : Int) : Int := bspI A co (aI A 4)
noncomputable def t1A (A : Int → Int32) (co : Int) : Int → Int32 := lvA (st A (11 + 3 * co + 2) (iI (aI A (11 + 3 * co + 2) + max 0 (40 - aI A (101 + 6 * nxA A co + 3))))) (nxA A co)
noncomputable def tkA (A : Int → Int32) (co : Int) : Nat → Int → Int32
  | 0 => A
  | n + 1 => if nxA (tkA A co n) co = -5 then tkA A co n else t1A (tkA A co n) co
noncomputable def cnT (A : Int → Int32) (co : Int) : Nat → Int
  | 0 => 0
  | n + 1 => if nxA (tkA A co n) co = -5 then cnT A co n else cnT A co n + 1
theorem tkA_s (A : Int → Int32) (co : Int) (n : Nat) : tkA A co (n + 1) = if nxA (tkA A co n) co = -5 then tkA A co n else t1A (tkA A co n) co := rfl
theorem cnT_s (A : Int → Int32) (co : Int) (n : Nat) : cnT A co (n + 1) = if nxA (tkA A co n) co = -5 then cnT A co n else cnT A co n + 1 := rfl
theorem tkA_stop {A : Int → Int32} {co : Int} {n : Nat} (h : nxA (tkA A co n) co = -5) : ∀ k, tkA A co (n + k) = tkA A co n ∧ cnT A co (n + k) = cnT A co n
  | 0 => ⟨rfl, rfl⟩
  | k + 1 => by
    obtain ⟨h1, h2⟩ := tkA_stop h k
    rw [show n + (k + 1) = (n + k) + 1 from rfl, tkA_s, cnT_s, h1, h2, if_pos h, if_pos h]
    exact ⟨rfl, rfl⟩
noncomputable def srvA (A : Int → Int32) (q : Int) : Int → Int32 :=
  let B := tkA A (aI A (9 + q)) (aI A 0).toNat
  let B2 := st B (9 + q) (iI ((aI A (9 + q) + 1) % 10))
  st B2 6 (iI (aI B2 6 + cnT A (aI A (9 + q)) (aI A 0).toNat))
noncomputable def srvN (A : Int → Int32) (q : Int) : Int := cnT A (aI A (9 + q)) (aI A 0).toNat
noncomputable def psA (A : Int → Int32) (wt : Int) : Int → Int32 :=
  let B := srvA (srvA (wthX A wt (aI A 4)) 0) 1
  st B 2 (iI (aI B 2 + 1))
noncomputable def psN (A : Int → Int32) (wt : Int) : Int := srvN (wthX A wt (aI A 4)) 0 + srvN (srvA (wthX A wt (aI A 4)) 0) 1
/-- what the reference's row keeps to -/
def wA (A : Int → Int32) : Prop := (0 ≤ aI A 4 ∧ aI A 4 ≤ 60) ∧ wr A ∧ ((0 ≤ aI A 9 ∧ aI A 9 ≤ 9) ∧ (0 ≤ aI A 10 ∧ aI A 10 ≤ 9)) ∧ (1 ≤ aI A 0 ∧ aI A 0 ≤ 6)
theorem lvA_lo (A : Int → Int32) {p : Int} (h0 : 0 ≤ p) (h1 : p < aI A 4) {i : Int} (h : i < 101) (h4 : ¬ i = 4) : aI (lvA A p) i = aI A i := by
  unfold lvA
  rw [aI_so _ _ (by omega), aI_so _ _ (by omega), aI_n _ _ h4]
theorem lvA_4 (A : Int → Int32) {p : Int} (h0 : 0 ≤ p) (h1 : p < aI A 4) (h2 : aI A 4 ≤ 60) : aI (lvA A p) 4 = aI A 4 - 1 := by
  unfold lvA
  rw [aI_so _ _ (by omega), aI_so _ _ (by omega), aI_e, iI_t ⟨by omega, by omega⟩]
theorem lvA_row (A : Int → Int32) {p : Int} (h0 : 0 ≤ p) (h1 : p < aI A 4) {q k : Int} (hq : 0 ≤ q) (hk : 0 ≤ k ∧ k < 6) : aI (lvA A p) (101 + 6 * q + k) = if q < p then aI A (101 + 6 * q + k) else if q < aI A 4 - 1 then aI A (101 + 6 * (q + 1) + k) else if q = aI A 4 - 1 then 0 else aI A (101 + 6 * q + k) := by
  unfold lvA
  by_cases c1 : q < p
  · rw [if_pos c1, aI_so _ _ (by omega), aI_so _ _ (by omega), aI_n _ _ (by omega)]
  · rw [if_neg c1]
    by_cases c2 : q < aI A 4 - 1
    · rw [if_pos c2, aI_so _ _ (by omega), aI_si _ _ (by omega)]
      show aI A (101 + 6 * q + k + 6) = _
      rw [show 101 + 6 * q + k + 6 = 101 + 6 * (q + 1) + k by omega]
    · rw [if_neg c2]
      by_cases c3 : q = aI A 4 - 1
      · rw [if_pos c3, aI_si _ _ (by omega)]; rfl
      · rw [if_neg c3, aI_so _ _ (by omega), aI_so _ _ (by omega), aI_n _ _ (by omega)]
theorem wr_lvA {A : Int → Int32} (hw : wr A) {p : Int} (h0 : 0 ≤ p) (h1 : p < aI A 4) (h2 : aI A 4 ≤ 60) : wr (lvA A p) := by
  intro q q0 q1
  rw [lvA_row A h0 h1 q0 (by omega), lvA_row A h0 h1 q0 (by omega)]
  by_cases c1 : q < p
  · rw [if_pos c1, if_pos c1]; exact hw q q0 q1
  · rw [if_neg c1, if_neg c1]
    by_cases c2 : q < aI A 4 - 1
    · rw [if_pos c2, if_pos c2]; exact hw (q + 1) (by omega) (by omega)
    · rw [if_neg c2, if_neg c2]
      by_cases c3 : q = aI A 4 - 1
      · rw [if_pos c3, if_pos c3]; omega
      · rw [if_neg c3, if_neg c3]; exact hw q q0 q1
