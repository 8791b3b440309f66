/-! numbers that a block holds, read as whole numbers -/
def gA (M : gM) (c : Nat) (x : Int) : Int := (M.1 c x).toInt
def gN (M : gM) (c f : Nat) : Int := (M.2 c f).toInt
theorem gA_r (M : gM) (c : Nat) (x : Int) : inR (gA M c x) := inR_o _
theorem gN_r (M : gM) (c f : Nat) : inR (gN M c f) := inR_o _
theorem gA_i (M : gM) (c : Nat) (x : Int) : iI (gA M c x) = M.1 c x := iI_o _
theorem gN_i (M : gM) (c f : Nat) : iI (gN M c f) = M.2 c f := iI_o _
theorem up_s (w : gW) (j : Nat) (M : gM) : up w j M j = M := if_pos rfl
theorem up_n (w : gW) {j j' : Nat} (M : gM) (h : ¬ j' = j) : up w j M j' = w j' := if_neg h
theorem up_up (w : gW) (j : Nat) (M N : gM) : up (up w j M) j N = up w j N := by
  funext j'
  simp only [up]
  split <;> rfl
theorem up_id (w : gW) (j : Nat) : up w j (w j) = w := by
  funext j'
  simp only [up]
  split
  · next h => rw [h]
  · rfl
theorem gA_sF (M : gM) (c c' : Nat) (A : Int → Int32) (x : Int) : gA (sF M c A) c' x = if c' = c then (A x).toInt else gA M c' x := by
  simp only [gA, sF]
  split <;> rfl
theorem gA_sA (M : gM) (c c' : Nat) (x x' : Int) (v : Int32) : gA (sA M c x v) c' x' = if c' = c ∧ x' = x then v.toInt else gA M c' x' := by
  unfold sA
  rw [gA_sF]
  by_cases h : c' = c
  · subst h
    by_cases h2 : x' = x
    · simp [h2]
    · simp [h2, gA]
  · simp [h]
theorem gN_sF (M : gM) (c c' : Nat) (A : Int → Int32) (f : Nat) : gN (sF M c A) c' f = gN M c' f := rfl
theorem gN_sA (M : gM) (c c' : Nat) (x : Int) (v : Int32) (f : Nat) : gN (sA M c x v) c' f = gN M c' f := rfl
theorem gA_sS (M : gM) (c f c' : Nat) (v : Int32) (x : Int) : gA (sS M c f v) c' x = gA M c' x := rfl
theorem gN_sS (M : gM) (c f c' f' : Nat) (v : Int32) : gN (sS M c f v) c' f' = if c' = c ∧ f' = f then v.toInt else gN M c' f' := by
  simp only [gN, sS]
  split <;> rfl
theorem gv_i {z : Int} (h1 : -2147483648 ≤ z) (h2 : z < 2147483648) : (iI z).toInt = z := iI_t ⟨h1, h2⟩
theorem iI_fitz {z : Int} (hz : z = 0 ∨ z = 1) : fits .boolean (.int (iI z)) = true := by
  rcases hz with rfl | rfl <;> rfl
theorem iI_narz {z : Int} (hz : z = 0 ∨ z = 1) : vp_nar .boolean (iI z) = iI z := by
  rcases hz with rfl | rfl <;> rfl
/-- how many of the places below n have it -/
noncomputable def cnt (p : Int → Prop) : Nat → Int
  | 0 => 0
  | n + 1 => cnt p n + @ite _ (p n) (Classical.propDecidable _) 1 0
noncomputable def cntI (p : Int → Prop) (x : Int) : Int := cnt p x.toNat
theorem cntI_0 (p : Int → Prop) : cntI p 0 = 0 := rfl
theorem toNat_s {x : Int} (h : 0 ≤ x) : (x + 1).toNat = x.toNat + 1 := by omega
theorem cntI_t {p : Int → Prop} {x : Int} (h : 0 ≤ x) (hp : p x) : cntI p (x + 1) = cntI p x + 1 := by
  unfold cntI
  rw [toNat_s h]
  show cnt p x.toNat + _ = _
  rw [@if_pos _ (Classical.propDecidable _) (by rw [Int.toNat_of_nonneg h]; exact hp)]
theorem cntI_f {p : Int → Prop} {x : Int} (h : 0 ≤ x) (hp : ¬ p x) : cntI p (x + 1) = cntI p x := by
  unfold cntI
  rw [toNat_s h]
  show cnt p x.toNat + _ = _
  rw [@if_neg _ (Classical.propDecidable _) (by rw [Int.toNat_of_nonneg h]; exact hp), Int.add_zero]
theorem cnt_le (p : Int → Prop) : ∀ n : Nat, 0 ≤ cnt p n ∧ cnt p n ≤ n
  | 0 => ⟨Int.le_refl _, Int.le_refl _⟩
  | n + 1 => by
    have h := cnt_le p n
    show 0 ≤ cnt p n + _ ∧ cnt p n + _ ≤ _
    by_cases hp : p n
    · rw [@if_pos _ (Classical.propDecidable _) hp]; omega
    · rw [@if_neg _ (Classical.propDecidable _) hp]; omega
theorem cntI_le (p : Int → Prop) {x : Int} (h : 0 ≤ x) : 0 ≤ cntI p x ∧ cntI p x ≤ x := by
  have := cnt_le p x.toNat
  unfold cntI
  omega
section RT
variable {p : Program} {l : Launch} {e : Env} {R : Room} {s : State} {m : MethodId} {args : Array Value} {below : List Frame} {meth : Method} {c : Code} {H : Heap} {locs : List Loc} {cells slots : Nat} {Q : State → Prop}
variable {cc : ByteArray} {pc : Nat} {ls : Array Slot} {rest : List Value}
theorem r_tabOut (hx : p.tables.exec = Jvm.exec) (hb : c.code = cc) {dflt lo hi : Int} {offs : Array Int} {len : Nat} {x : Int} {tgt : Nat} (rx : inR x) (hdg : decode cc pc = .ok (.tableswitch dflt lo hi offs, len)) (h : x < lo ∨ hi < x) (ht : (pc : Int) + dflt = (tgt : Int)) (k : W p l e R s m args below meth c H locs cells slots Q (F0 m tgt ls rest)) : W p l e R s m args below meth c H locs cells slots Q (F0 m pc ls (.int (iI x) :: rest)) := lv_tableOut hx hb hdg (by rw [iI_t rx]; exact h) ht k
theorem r_tabIn (hx : p.tables.exec = Jvm.exec) (hb : c.code = cc) {dflt lo hi : Int} {offs : Array Int} {len : Nat} {x : Int} {off : Int} {tgt : Nat} (rx : inR x) (hdg : decode cc pc = .ok (.tableswitch dflt lo hi offs, len)) (h1 : ¬ x < lo) (h2 : ¬ hi < x) (ho : offs[(x - lo).toNat]? = some off) (ht : (pc : Int) + off = (tgt : Int)) (k : W p l e R s m args below meth c H locs cells slots Q (F0 m tgt ls rest)) : W p l e R s m args below meth c H locs cells slots Q (F0 m pc ls (.int (iI x) :: rest)) := lv_tableIn hx hb hdg (by rw [iI_t rx]; exact h1) (by rw [iI_t rx]; exact h2) (by rw [iI_t rx]; exact ho) ht k
end RT
/-! a state of the class: what its rows are -/
def lyi (M : gM) (r : Int) : Prop := 0 ≤ r ∧ r < gN M 7 6 ∧ ¬ gA M 13 r = 0
def pLy (M : gM) (r : Int) : Prop := ¬ gA M 13 r = 0
def pSt (M : gM) (r : Int) : Prop := lyi M r ∧ ¬ gA M 12 r = 0
def pDr (M : gM) (r : Int) : Prop := lyi M r ∧ gA M 10 r ≤ 20
def pOf (M : gM) (c r : Int) : Prop := lyi M r ∧ gA M 8 r = c
def pSO (M : gM) (c r : Int) : Prop := (lyi M r ∧ ¬ gA M 12 r = 0) ∧ gA M 8 r = c
/-- what every state keeps to -/
def wf (M : gM) : Prop := (0 ≤ gN M 7 6 ∧ gN M 7 6 ≤ 120) ∧ (0 ≤ gN M 14 4 ∧ gN M 14 4 ≤ gN M 14 5 ∧ gN M 14 5 ≤ 120) ∧ (∀ r : Int, 0 ≤ gA M 10 r ∧ gA M 10 r ≤ 60) ∧ (∀ r : Int, M.1 11 r = 0 ∨ M.1 11 r = 1) ∧ (∀ r : Int, M.1 12 r = 0 ∨ M.1 12 r = 1) ∧ (∀ r : Int, M.1 13 r = 0 ∨ M.1 13 r = 1) ∧ (0 ≤ gN M 0 10 ∧ gN M 0 10 ≤ 9) ∧ (1 ≤ gN M 0 8 ∧ gN M 0 8 ≤ 6) ∧ gN M 14 5 ≤ gN M 7 6
/-- before another row of the same commoner -/
def pBf (M : gM) (r co o : Int) : Prop := pOf M co o ∧ (gA M 10 o < gA M 10 r ∨ (gA M 10 o = gA M 10 r ∧ o < r))
def pDO (M : gM) (co k r : Int) : Prop := pOf M co r ∧ cntI (pBf M r co) (gN M 7 6) = k
/-- a stacked row of a commoner; the driest of those below n -/
def pQ (M : gM) (co r : Int) : Prop := ¬ gA M 13 r = 0 ∧ ¬ gA M 12 r = 0 ∧ gA M 8 r = co
noncomputable def bst (M : gM) (co : Int) : Nat → Int
  | 0 => -5
  | n + 1 => @ite _ (pQ M co n ∧ (bst M co n = -5 ∨ gA M 10 n < gA M 10 (bst M co n))) (Classical.propDecidable _) (n : Int) (bst M co n)
theorem bst_s (M : gM) (co : Int) (n : Nat) : bst M co (n + 1) = @ite _ (pQ M co n ∧ (bst M co n = -5 ∨ gA M 10 n < gA M 10 (bst M co n))) (Classical.propDecidable _) (n : Int) (bst M co n) := rfl
noncomputable def bstI (M : gM) (co x : Int) : Int := bst M co x.toNat
theorem bstI_0 (M : gM) (co : Int) : bstI M co 0 = -5 := rfl
theorem bstI_t {M : gM} {co x : Int} (h : 0 ≤ x) (hq : pQ M co x) (hd : bstI M co x = -5 ∨ gA M 10 x < gA M 10 (bstI M co x)) : bstI M co (x + 1) = x := by
  unfold bstI at *
  rw [toNat_s h, bst_s, @if_pos _ (Classical.propDecidable _) (by rw [Int.toNat_of_nonneg h]; exact ⟨hq, hd⟩), Int.toNat_of_nonneg h]
theorem bstI_f {M : gM} {co x : Int} (h : 0 ≤ x) (hq : ¬ (pQ M co x ∧ (bstI M co x = -5 ∨ gA M 10 x < gA M 10 (bstI M co x)))) : bstI M co (x + 1) = bstI M co x := by
  unfold bstI at *
  rw [toNat_s h, bst_s, @if_neg _ (Classical.propDecidable _) (by rw [Int.toNat_of_nonneg h]; exact hq)]
theorem bst_le (M : gM) (co : Int) : ∀ n : Nat, bst M co n = -5 ∨ (0 ≤ bst M co n ∧ bst M co n < n ∧ pQ M co (bst M co n))
  | 0 => Or.inl rfl
  | n + 1 => by
    have h := bst_le M co n
    rw [bst_s]
    by_cases hq : pQ M co n ∧ (bst M co n = -5 ∨ gA M 10 n < gA M 10 (bst M co n))
    · rw [@if_pos _ (Classical.propDecidable _) hq]; exact Or.inr ⟨by omega, by omega, hq.1⟩
    · rw [@if_neg _ (Classical.propDecidable _) hq]
      rcases h with h | ⟨h1, h2, h3⟩
      · exact Or.inl h
      · exact Or.inr ⟨h1, by omega, h3⟩
theorem bstI_le (M : gM) (co : Int) {x : Int} (h : 0 ≤ x) : bstI M co x = -5 ∨ (0 ≤ bstI M co x ∧ bstI M co x < x ∧ pQ M co (bstI M co x)) := by
  have := bst_le M co x.toNat
  unfold bstI
  rcases this with q | ⟨q1, q2, q3⟩
  · exact Or.inl q
  · exact Or.inr ⟨q1, by omega, q3⟩
/-- how a day changes the wetness -/
def chg (wt t : Int) : Int := if wt = 0 then (if t = 0 then -6 else -8) else if wt = 1 then (if t = 0 then -3 else -5) else 4
theorem chg_le (wt t : Int) : -8 ≤ chg wt t ∧ chg wt t ≤ 4 := by
  unfold chg
  repeat' split
  all_goals omega
def wetF (M : gM) (wt n : Int) : Int → Int32 := fun r => if 0 ≤ r ∧ r < n ∧ ¬ gA M 13 r = 0 ∧ gA M 12 r = 0 then iI (max 0 (min 60 (gA M 10 r + chg wt (gA M 11 r)))) else M.1 10 r
theorem sF_sF (M : gM) (c : Nat) (A B : Int → Int32) : sF (sF M c A) c B = sF M c B := by
  refine Prod.ext ?_ rfl
  funext c'
  simp only [sF]
  split <;> rfl
theorem sA_sF (M : gM) (c : Nat) (A : Int → Int32) (x : Int) (v : Int32) : sA (sF M c A) c x v = sF M c (fun i => if i = x then v else A i) := by
  unfold sA
  rw [sF_sF]
  simp [sF]
theorem sF_id (M : gM) (c : Nat) : sF M c (M.1 c) = M := by
  refine Prod.ext ?_ rfl
  funext c'
  simp only [sF]
  split
  · next h => rw [h]
  · rfl
theorem wetF_0 (M : gM) (wt : Int) : wetF M wt 0 = M.1 10 := by
  funext r
  unfold wetF
  rw [if_neg (by omega)]
theorem wetF_t {M : gM} {wt x : Int} (h : 0 ≤ x) (h1 : ¬ gA M 13 x = 0) (h2 : gA M 12 x = 0) : wetF M wt (x + 1) = fun i => if i = x then iI (max 0 (min 60 (gA M 10 x + chg wt (gA M 11 x)))) else wetF M wt x i := by
  funext r
  unfold wetF
  by_cases hr : r = x
  · subst hr
    rw [if_pos ⟨h, by omega, h1, h2⟩, if_pos rfl]
  · rw [if_neg hr]
    by_cases hq : 0 ≤ r ∧ r < x ∧ ¬ gA M 13 r = 0 ∧ gA M 12 r = 0
    · rw [if_pos hq, if_pos ⟨hq.1, by omega, hq.2.2⟩]
    · rw [if_neg hq, if_neg (fun z => hq ⟨z.1, by omega, z.2.2⟩)]
theorem wetF_f {M : gM} {wt x : Int} (h1 : ¬ (¬ gA M 13 x = 0 ∧ gA M 12 x = 0)) : wetF M wt (x + 1) = wetF M wt x := by
  funext r
  unfold wetF
  by_cases hr : r = x
  · subst hr
    rw [if_neg (fun z => h1 z.2.2), if_neg (fun z => h1 z.2.2)]
  · by_cases hq : 0 ≤ r ∧ r < x ∧ ¬ gA M 13 r = 0 ∧ gA M 12 r = 0
    · rw [if_pos hq, if_pos ⟨hq.1, by omega, hq.2.2⟩]
    · rw [if_neg hq, if_neg (fun z => hq ⟨z.1, by omega, z.2.2⟩)]
theorem gA_wet (M : gM) (wt n x : Int) (h : n ≤ x) : gA (sF M 10 (wetF M wt n)) 10 x = gA M 10 x := by
  rw [gA_sF, if_pos rfl]
  unfold wetF
  rw [if_neg (by omega)]
  rfl
/-- places below n are emptied -/
def zeF (M : gM) (c : Nat) (n : Int) : Int → Int32 := fun r => if 0 ≤ r ∧ r < n then iI 0 else M.1 c r
theorem zeF_0 (M : gM) (c : Nat) : zeF M c 0 = M.1 c := by
  funext r
  unfold zeF
  rw [if_neg (by omega)]
theorem zeF_s (M : gM) (c : Nat) {x : Int} (h : 0 ≤ x) : zeF M c (x + 1) = fun i => if i = x then iI 0 else zeF M c x i := by
  funext r
  unfold zeF
  by_cases hr : r = x
  · subst hr
    rw [if_pos ⟨h, by omega⟩, if_pos rfl]
  · rw [if_neg hr]
    by_cases hq : 0 ≤ r ∧ r < x
    · rw [if_pos hq, if_pos ⟨hq.1, by omega⟩]
    · rw [if_neg hq, if_neg (fun z => hq ⟨z.1, by omega⟩)]
/-- a fresh row -/
def layM (M : gM) (co pl : Int) : gM := sS (sA (sA (sA (sA (sA (sA M 8 (gN M 7 6) (iI co)) 9 (gN M 7 6) (iI pl)) 10 (gN M 7 6) (iI 50)) 11 (gN M 7 6) (iI 0)) 12 (gN M 7 6) (iI 0)) 13 (gN M 7 6) (iI 1)) 7 6 (iI (gN M 7 6 + 1))
def pDi (M : gM) (co d : Int) : Prop := gA M 15 d = co ∨ gA M 16 d = co
def opnM (M : gM) (co wr ro pl : Int) : gM := sS (sA (sA (sA (sA M 15 (gN M 14 5) (iI co)) 16 (gN M 14 5) (iI wr)) 17 (gN M 14 5) (iI ro)) 18 (gN M 14 5) (iI pl)) 14 5 (iI (gN M 14 5 + 1))
theorem wetF_x (M : gM) (wt n : Int) : wetF M wt n n = M.1 10 n := by
  unfold wetF
  rw [if_neg (by omega)]
theorem gA_wx (M : gM) (wt n : Int) : (wetF M wt n n).toInt = gA M 10 n := by rw [wetF_x]; rfl
def rowC (M N : gM) : gM := sS (sF (sF (sF (sF (sF (sF M 8 (N.1 8)) 9 (N.1 9)) 10 (N.1 10)) 11 (N.1 11)) 12 (N.1 12)) 13 (N.1 13)) 7 6 (N.2 7 6)
def disC (M N : gM) : gM := sS (sS (sF (sF (sF (sF M 15 (N.1 15)) 16 (N.1 16)) 17 (N.1 17)) 18 (N.1 18)) 14 4 (N.2 14 4)) 14 5 (N.2 14 5)
/-- what the picture shows of a state is all that counts of it -/
theorem WL_eqM (G : gG) (w : gW) {j : Nat} (M N : gM) (h : ∀ c, c < bs j → ceX G j c (M.1 c) (M.2 c) = ceX G j c (N.1 c) (N.2 c)) : WL G (up w j M) = WL G (up w j N) := by
  unfold WL
  apply List.map_congr_left
  intro k hk
  obtain ⟨g1, g2, g3⟩ := bo_bj k (List.mem_range.mp hk)
  by_cases hj : bj k = j
  · rw [hj] at g3 ⊢
    rw [up_s, up_s, h _ g3]
  · rw [up_n _ _ hj, up_n _ _ hj]
theorem wo_eqM {G : gG} {w : gW} {s : State} {H : Heap} {locs : List Loc} {j : Nat} {M : gM} (N : gM) (h : ∀ c, c < bs j → ceX G j c (M.1 c) (M.2 c) = ceX G j c (N.1 c) (N.2 c)) (hW : wo G (up w j M) s H locs) : wo G (up w j N) s H locs := by
  unfold wo at *
  rw [← WL_eqM G w M N h]
  exact hW
def sumI (f : Int → Int) : Nat → Int
  | 0 => 0
  | n + 1 => sumI f n + f n
def sumX (f : Int → Int) (x : Int) : Int := sumI f x.toNat
theorem sumX_0 (f : Int → Int) : sumX f 0 = 0 := rfl
theorem sumX_s (f : Int → Int) {x : Int} (h : 0 ≤ x) : sumX f (x + 1) = sumX f x + f x := by
  unfold sumX
  rw [toNat_s h]
  show sumI f x.toNat + f (x.toNat : Int) = _
  rw [Int.toNat_of_nonneg h]
def pEq (M : gM) (k0 : Nat) (v x : Int) : Prop := gA M k0 x = v
theorem wf_A {M N : gM} (h : wf M) (h10 : N.1 10 = M.1 10) (h11 : N.1 11 = M.1 11) (h12 : N.1 12 = M.1 12) (h13 : N.1 13 = M.1 13) (a1 : N.2 7 6 = M.2 7 6) (a2 : N.2 14 4 = M.2 14 4) (a3 : N.2 14 5 = M.2 14 5) (a4 : N.2 0 10 = M.2 0 10) (a5 : N.2 0 8 = M.2 0 8) : wf N := by
  unfold wf gN gA at *
  rw [h10, h11, h12, h13, a1, a2, a3, a4, a5]
  exact h
def pD (M : gM) (co : Int) : Prop := (0 ≤ co ∧ co ≤ 9) ∧ gA M 5 co < gA M 4 co
def pR (M : gM) (co pl : Int) : Prop := (0 ≤ pl ∧ pl ≤ 19) ∧ gA M 3 pl = co
/-- the reason against a cut -/
def rsn (M : gM) (co pl z : Int) : Prop := (z = 1 ∧ ¬ pD M co) ∨ (z = 2 ∧ pD M co ∧ (¬ (0 ≤ pl ∧ pl ≤ 19) ∨ gA M 1 pl ≤ 0)) ∨ (pD M co ∧ (0 ≤ pl ∧ pl ≤ 19) ∧ 0 < gA M 1 pl ∧ ((z = 3 ∧ 60 ≤ cntI (pLy M) (gN M 7 6)) ∨ (cntI (pLy M) (gN M 7 6) < 60 ∧ ((z = 0 ∧ (pR M co pl ∨ pR M co (pl - 1) ∨ pR M co (pl + 1))) ∨ (z = 4 ∧ ¬ pR M co pl ∧ ¬ pR M co (pl - 1) ∧ ¬ pR M co (pl + 1))))))
def takM0 (M : gM) (co pl : Int) : gM := layM (sA (sA M 1 pl (iI (gA M 1 pl - 1))) 5 co (iI (gA M 5 co + 1))) co pl
def takM (M : gM) (co pl : Int) : gM := if gA M 3 pl = co then takM0 M co pl else opnM (takM0 M co pl) co (gA M 3 pl) (gN M 7 6) pl
/-- a row is brought home -/
def tak1 (M : gM) (co r : Int) : gM := sS (sA (sA M 6 co (iI (gA M 6 co + max 0 (40 - gA M 10 r)))) 13 r (iI 0)) 0 13 (iI (gN M 0 13 + 1))
noncomputable def tk (M : gM) (co : Int) : Nat → gM
  | 0 => M
  | n + 1 => if bstI (tk M co n) co (gN (tk M co n) 7 6) = -5 then tk M co n else tak1 (tk M co n) co (bstI (tk M co n) co (gN (tk M co n) 7 6))
noncomputable def srvM (M : gM) (co : Int) : gM := tk M co (gN M 0 8).toNat
theorem tk_s (M : gM) (co : Int) (n : Nat) : tk M co (n + 1) = if bstI (tk M co n) co (gN (tk M co n) 7 6) = -5 then tk M co n else tak1 (tk M co n) co (bstI (tk M co n) co (gN (tk M co n) 7 6)) := rfl
theorem tk_stop {M : gM} {co : Int} {n : Nat} (h : bstI (tk M co n) co (gN (tk M co n) 7 6) = -5) : ∀ k, tk M co (n + k) = tk M co n
  | 0 => rfl
  | k + 1 => by
    rw [show n + (k + 1) = (n + k) + 1 from rfl, tk_s, tk_stop h k, if_pos h]
theorem pQ_lyi {M : gM} {co : Int} (h : 0 ≤ gN M 7 6) : bstI M co (gN M 7 6) = -5 ∨ lyi M (bstI M co (gN M 7 6)) := by
  rcases bstI_le M co h with q | ⟨q1, q2, q3⟩
  · exact Or.inl q
  · exact Or.inr ⟨q1, q2, q3.1⟩
theorem tak1_keep (M : gM) (co r : Int) : (∀ c f, ¬ (c = 0 ∧ f = 13) → (tak1 M co r).2 c f = M.2 c f) ∧ ∀ c, ¬ c = 6 → ¬ c = 13 → (tak1 M co r).1 c = M.1 c := by
  refine ⟨fun c f h => ?_, fun c h1 h2 => ?_⟩
  · show (if c = 0 ∧ f = 13 then _ else M.2 c f) = M.2 c f
    rw [if_neg h]
  · show (if c = 13 then _ else (if c = 6 then _ else M.1 c)) = M.1 c
    rw [if_neg h2, if_neg h1]
theorem tk_keep (M : gM) (co : Int) : ∀ n : Nat, (∀ c f, ¬ (c = 0 ∧ f = 13) → (tk M co n).2 c f = M.2 c f) ∧ ∀ c, ¬ c = 6 → ¬ c = 13 → (tk M co n).1 c = M.1 c
  | 0 => ⟨fun _ _ _ => rfl, fun _ _ _ => rfl⟩
  | n + 1 => by
    have h := tk_keep M co n
    rw [tk_s]
    by_cases hb : bstI (tk M co n) co (gN (tk M co n) 7 6) = -5
    · rw [if_pos hb]; exact h
    · rw [if_neg hb]
      have h2 := tak1_keep (tk M co n) co (bstI (tk M co n) co (gN (tk M co n) 7 6))
      exact ⟨fun c f q => (h2.1 c f q).trans (h.1 c f q), fun c q1 q2 => (h2.2 c q1 q2).trans (h.2 c q1 q2)⟩
theorem tk_13 {M : gM} (co : Int) (hb : ∀ r : Int, M.1 13 r = 0 ∨ M.1 13 r = 1) : ∀ (n : Nat) (r : Int), (tk M co n).1 13 r = 0 ∨ (tk M co n).1 13 r = 1
  | 0, r => hb r
  | n + 1, r => by
    rw [tk_s]
    by_cases hq : bstI (tk M co n) co (gN (tk M co n) 7 6) = -5
    · rw [if_pos hq]; exact tk_13 co hb n r
    · rw [if_neg hq]
      show (if r = bstI (tk M co n) co (gN (tk M co n) 7 6) then iI 0 else (tk M co n).1 13 r) = 0 ∨ (if r = bstI (tk M co n) co (gN (tk M co n) 7 6) then iI 0 else (tk M co n).1 13 r) = 1
      split
      · exact Or.inl rfl
      · exact tk_13 co hb n r
theorem wf_tk {M : gM} (co : Int) (n : Nat) (h : wf M) : wf (tk M co n) := by
  obtain ⟨k1, k2⟩ := tk_keep M co n
  obtain ⟨a1, a2, a3, a4, a5, a6, a7⟩ := h
  unfold wf gN gA at *
  rw [k1 7 6 (by decide), k1 14 4 (by decide), k1 14 5 (by decide), k1 0 10 (by decide), k1 0 8 (by decide), k2 10 (by decide) (by decide), k2 11 (by decide) (by decide), k2 12 (by decide) (by decide)]
  exact ⟨a1, a2, a3, a4, a5, tk_13 co a6 n, a7⟩
theorem gN_tk (M : gM) (co : Int) (n : Nat) {c f : Nat} (h : ¬ (c = 0 ∧ f = 13)) : gN (tk M co n) c f = gN M c f := by
  unfold gN
  rw [(tk_keep M co n).1 c f h]
/-- a day -/
def wet1 (M : gM) (wt : Int) : gM := sF M 10 (wetF M wt (gN M 7 6))
theorem wf_wet {M : gM} (wt : Int) (h : wf M) : wf (wet1 M wt) := by
  obtain ⟨a1, a2, a3, a4⟩ := h
  refine ⟨a1, a2, fun r => ?_, a4⟩
  show 0 ≤ gA (sF M 10 (wetF M wt (gN M 7 6))) 10 r ∧ gA (sF M 10 (wetF M wt (gN M 7 6))) 10 r ≤ 60
  rw [gA_sF, if_pos rfl]
  unfold wetF
  split
  · rw [iI_t ⟨by omega, by omega⟩]; omega
  · exact a3 r
noncomputable def dayM (M : gM) (wt : Int) : gM := let N := srvM (srvM (wet1 M wt) (gN M 0 10 % 10)) ((gN M 0 10 + 5) % 10); sS (sS N 0 10 (iI ((gN M 0 10 + 1) % 10))) 0 11 (iI (gN M 0 11 + 1))
theorem wf_day {M : gM} (wt : Int) (h : wf M) : wf (dayM M wt) := by
  have h1 := wf_tk ((gN M 0 10 + 5) % 10) (gN (srvM (wet1 M wt) (gN M 0 10 % 10)) 0 8).toNat (wf_tk (gN M 0 10 % 10) (gN (wet1 M wt) 0 8).toNat (wf_wet wt h))
  have hr := h.2.2.2.2.2.2.1
  obtain ⟨a1, a2, a3, a4, a5, a6, a7, a8⟩ := h1
  refine ⟨a1, a2, a3, a4, a5, a6, ?_, a8⟩
  show 0 ≤ (iI ((gN M 0 10 + 1) % 10)).toInt ∧ (iI ((gN M 0 10 + 1) % 10)).toInt ≤ 9
  rw [iI_t ⟨by omega, by omega⟩]
  omega
noncomputable def dyM (M : gM) (wt : Int) : Nat → gM
  | 0 => M
  | n + 1 => dayM (dyM M wt n) wt
theorem wf_dy {M : gM} (wt : Int) (h : wf M) : ∀ n : Nat, wf (dyM M wt n)
  | 0 => h
  | n + 1 => wf_day wt (wf_dy wt h n)
noncomputable def dyX (M : gM) (wt n : Int) : gM := dyM M wt n.toNat
theorem dyX_s (M : gM) (wt : Int) {n : Int} (h : 0 ≤ n) : dyX M wt (n + 1) = dayM (dyX M wt n) wt := by
  unfold dyX
  rw [toNat_s h]
  rfl
/-- a dispute is settled -/
def givM (M : gM) (a b : Int) : gM := if (0 ≤ a ∧ a ≤ 9) ∧ (0 ≤ b ∧ b ≤ 9) then sA (sA M 6 a (iI (gA M 6 a - min 20 (gA M 6 a)))) 6 b (iI (gA (sA M 6 a (iI (gA M 6 a - min 20 (gA M 6 a)))) 6 b + min 20 (gA M 6 a))) else M
noncomputable def usdM (M : gM) (co : Int) : gM := @ite _ (pD M co) (Classical.propDecidable _) (sA M 5 co (iI (gA M 5 co + 1))) M
def yrM (M : gM) : gM :=
  let M1 := sF M 13 (zeF M 13 (gN M 7 6))
  let M2 := sS M1 14 4 (iI (gN M1 14 5))
  let M3 := sF M2 3 (M2.1 2)
  let M4 := sF M3 5 (zeF M3 5 10)
  let M5 := sS M4 0 11 (iI 0)
  sS M5 0 12 (iI (gN M5 0 12 + 1))
theorem lay_keep (M : gM) (co pl : Int) : (∀ c f, ¬ (c = 7 ∧ f = 6) → (layM M co pl).2 c f = M.2 c f) ∧ ∀ c, (c < 8 ∨ 13 < c) → (layM M co pl).1 c = M.1 c := by
  refine ⟨fun c f h => if_neg h, fun c h => ?_⟩
  show (if c = 13 then _ else if c = 12 then _ else if c = 11 then _ else if c = 10 then _ else if c = 9 then _ else if c = 8 then _ else M.1 c) = M.1 c
  rw [if_neg (by omega), if_neg (by omega), if_neg (by omega), if_neg (by omega), if_neg (by omega), if_neg (by omega)]
theorem wf_lay {M : gM} (co pl : Int) (h : wf M) (hn : gN M 7 6 < 120) : wf (layM M co pl) := by
  obtain ⟨a1, a2, a3, a4, a5, a6, a7, a8, a9⟩ := h
  have e76 : gN (layM M co pl) 7 6 = gN M 7 6 + 1 := iI_t ⟨by omega, by omega⟩
  have bz : ∀ (A : Int → Int32) (x : Int) (v : Int), (v = 0 ∨ v = 1) → (∀ r : Int, A r = 0 ∨ A r = 1) → ∀ r : Int, (if r = x then iI v else A r) = 0 ∨ (if r = x then iI v else A r) = 1 := by
    intro A x v hv hA r
    by_cases q : r = x
    · rw [if_pos q]; rcases hv with rfl | rfl
      · exact Or.inl rfl
      · exact Or.inr rfl
    · rw [if_neg q]; exact hA r
  refine ⟨by rw [e76]; omega, a2, fun r => ?_, bz _ _ 0 (Or.inl rfl) a4, bz _ _ 0 (Or.inl rfl) a5, bz _ _ 1 (Or.inr rfl) a6, a7, a8, by rw [e76]; show gN M 14 5 ≤ _; omega⟩
  have e : gA (layM M co pl) 10 r = if r = gN M 7 6 then 50 else gA M 10 r := by
    show (if r = gN M 7 6 then iI 50 else M.1 10 r).toInt = _
    split
    · rfl
    · rfl
  rw [e]
  split
  · omega
  · exact a3 r
theorem wf_opn {M : gM} (co wr ro pl : Int) (h : wf M) (hn : gN M 14 5 < gN M 7 6) : wf (opnM M co wr ro pl) := by
  obtain ⟨a1, a2, a3, a4, a5, a6, a7, a8, a9⟩ := h
  have e : gN (opnM M co wr ro pl) 14 5 = gN M 14 5 + 1 := iI_t ⟨by omega, by omega⟩
  exact ⟨a1, ⟨a2.1, by rw [e]; show gN M 14 4 ≤ _; omega, by rw [e]; omega⟩, a3, a4, a5, a6, a7, a8, by rw [e]; show _ ≤ gN M 7 6; omega⟩
theorem tkw_keep (M : gM) (co pl : Int) : wf M → wf (sA (sA M 1 pl (iI (gA M 1 pl - 1))) 5 co (iI (gA M 5 co + 1))) := fun h => wf_A h rfl rfl rfl rfl rfl rfl rfl rfl rfl
theorem wf_tak0 {M : gM} (co pl : Int) (h : wf M) (hn : gN M 7 6 < 120) : wf (takM0 M co pl) := wf_lay co pl (tkw_keep M co pl h) hn
theorem wf_tak {M : gM} (co pl : Int) (h : wf M) (hn : gN M 7 6 < 120) : wf (takM M co pl) := by
  unfold takM
  split
  · exact wf_tak0 co pl h hn
  · refine wf_opn _ _ _ _ (wf_tak0 co pl h hn) ?_
    have e76 : gN (takM0 M co pl) 7 6 = gN M 7 6 + 1 := iI_t (z := gN M 7 6 + 1) ⟨by have := h.1; omega, by omega⟩
    rw [e76]
    show gN M 14 5 < _
    have := h.2.2.2.2.2.2.2.2
    omega
