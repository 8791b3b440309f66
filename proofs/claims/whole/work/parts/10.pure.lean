/-! numbers that a block holds, read as whole numbers -/
def gA (M : gM) (c : Nat) (x : Int) : Int := (M.1 c x).toInt
def gN (M : gM) (c f : Nat) : Int := (M.2 c f).toInt
theorem gA_r (M : gM) (c : Nat) (x : Int) : inR (gA M c x) := inR_o _
theorem gN_r (M : gM) (c f : Nat) : inR (gN M c f) := inR_o _
theorem gA_i (M : gM) (c : Nat) (x : Int) : iI (gA M c x) = M.1 c x := iI_o _
theorem gN_i (M : gM) (c f : Nat) : iI (gN M c f) = M.2 c f := iI_o _
theorem up_s (w : gW) (j : Nat) (M : gM) : up w j M j = M := if_pos rfl
theorem up_n (w : gW) {j j' : Nat} (M : gM) (h : ¬ j' = j) : up w j M j' = w j' := if_neg h
theorem up_up (w : gW) (j : Nat) (M N : gM) : up (up w j M) j N = up w j N := by
  funext j'
  simp only [up]
  split <;> rfl
theorem up_id (w : gW) (j : Nat) : up w j (w j) = w := by
  funext j'
  simp only [up]
  split
  · next h => rw [h]
  · rfl
theorem gA_sF (M : gM) (c c' : Nat) (A : Int → Int32) (x : Int) : gA (sF M c A) c' x = if c' = c then (A x).toInt else gA M c' x := by
  simp only [gA, sF]
  split <;> rfl
theorem gA_sA (M : gM) (c c' : Nat) (x x' : Int) (v : Int32) : gA (sA M c x v) c' x' = if c' = c ∧ x' = x then v.toInt else gA M c' x' := by
  unfold sA
  rw [gA_sF]
  by_cases h : c' = c
  · subst h
    by_cases h2 : x' = x
    · simp [h2]
    · simp [h2, gA]
  · simp [h]
theorem gN_sF (M : gM) (c c' : Nat) (A : Int → Int32) (f : Nat) : gN (sF M c A) c' f = gN M c' f := rfl
theorem gN_sA (M : gM) (c c' : Nat) (x : Int) (v : Int32) (f : Nat) : gN (sA M c x v) c' f = gN M c' f := rfl
theorem gA_sS (M : gM) (c f c' : Nat) (v : Int32) (x : Int) : gA (sS M c f v) c' x = gA M c' x := rfl
theorem gN_sS (M : gM) (c f c' f' : Nat) (v : Int32) : gN (sS M c f v) c' f' = if c' = c ∧ f' = f then v.toInt else gN M c' f' := by
  simp only [gN, sS]
  split <;> rfl
theorem gv_i {z : Int} (h1 : -2147483648 ≤ z) (h2 : z < 2147483648) : (iI z).toInt = z := iI_t ⟨h1, h2⟩
theorem iI_fitz {z : Int} (hz : z = 0 ∨ z = 1) : fits .boolean (.int (iI z)) = true := by
  rcases hz with rfl | rfl <;> rfl
theorem iI_narz {z : Int} (hz : z = 0 ∨ z = 1) : vp_nar .boolean (iI z) = iI z := by
  rcases hz with rfl | rfl <;> rfl
/-- how many of the places below n have it -/
noncomputable def cnt (p : Int → Prop) : Nat → Int
  | 0 => 0
  | n + 1 => cnt p n + @ite _ (p n) (Classical.propDecidable _) 1 0
noncomputable def cntI (p : Int → Prop) (x : Int) : Int := cnt p x.toNat
theorem cntI_0 (p : Int → Prop) : cntI p 0 = 0 := rfl
theorem toNat_s {x : Int} (h : 0 ≤ x) : (x + 1).toNat = x.toNat + 1 := by omega
theorem cntI_t {p : Int → Prop} {x : Int} (h : 0 ≤ x) (hp : p x) : cntI p (x + 1) = cntI p x + 1 := by
  unfold cntI
  rw [toNat_s h]
  show cnt p x.toNat + _ = _
  rw [@if_pos _ (Classical.propDecidable _) (by rw [Int.toNat_of_nonneg h]; exact hp)]
theorem cntI_f {p : Int → Prop} {x : Int} (h : 0 ≤ x) (hp : ¬ p x) : cntI p (x + 1) = cntI p x := by
  unfold cntI
  rw [toNat_s h]
  show cnt p x.toNat + _ = _
  rw [@if_neg _ (Classical.propDecidable _) (by rw [Int.toNat_of_nonneg h]; exact hp), Int.add_zero]
theorem cnt_le (p : Int → Prop) : ∀ n : Nat, 0 ≤ cnt p n ∧ cnt p n ≤ n
  | 0 => ⟨Int.le_refl _, Int.le_refl _⟩
  | n + 1 => by
    have h := cnt_le p n
    show 0 ≤ cnt p n + _ ∧ cnt p n + _ ≤ _
    by_cases hp : p n
    · rw [@if_pos _ (Classical.propDecidable _) hp]; omega
    · rw [@if_neg _ (Classical.propDecidable _) hp]; omega
theorem cntI_le (p : Int → Prop) {x : Int} (h : 0 ≤ x) : 0 ≤ cntI p x ∧ cntI p x ≤ x := by
  have := cnt_le p x.toNat
  unfold cntI
  omega
section RT
variable {p : Program} {l : Launch} {e : Env} {R : Room} {s : State} {m : MethodId} {args : Array Value} {below : List Frame} {meth : Method} {c : Code} {H : Heap} {locs : List Loc} {cells slots : Nat} {Q : State → Prop}
variable {cc : ByteArray} {pc : Nat} {ls : Array Slot} {rest : List Value}
theorem r_tabOut (hx : p.tables.exec = Jvm.exec) (hb : c.code = cc) {dflt lo hi : Int} {offs : Array Int} {len : Nat} {x : Int} {tgt : Nat} (rx : inR x) (hdg : decode cc pc = .ok (.tableswitch dflt lo hi offs, len)) (h : x < lo ∨ hi < x) (ht : (pc : Int) + dflt = (tgt : Int)) (k : W p l e R s m args below meth c H locs cells slots Q (F0 m tgt ls rest)) : W p l e R s m args below meth c H locs cells slots Q (F0 m pc ls (.int (iI x) :: rest)) := lv_tableOut hx hb hdg (by rw [iI_t rx]; exact h) ht k
theorem r_tabIn (hx : p.tables.exec = Jvm.exec) (hb : c.code = cc) {dflt lo hi : Int} {offs : Array Int} {len : Nat} {x : Int} {off : Int} {tgt : Nat} (rx : inR x) (hdg : decode cc pc = .ok (.tableswitch dflt lo hi offs, len)) (h1 : ¬ x < lo) (h2 : ¬ hi < x) (ho : offs[(x - lo).toNat]? = some off) (ht : (pc : Int) + off = (tgt : Int)) (k : W p l e R s m args below meth c H locs cells slots Q (F0 m tgt ls rest)) : W p l e R s m args below meth c H locs cells slots Q (F0 m pc ls (.int (iI x) :: rest)) := lv_tableIn hx hb hdg (by rw [iI_t rx]; exact h1) (by rw [iI_t rx]; exact h2) (by rw [iI_t rx]; exact ho) ht k
end RT
/-! a state of the class: what its rows are -/
def lyi (M : gM) (r : Int) : Prop := 0 ≤ r ∧ r < gN M 7 6 ∧ ¬ gA M 13 r = 0
def pLy (M : gM) (r : Int) : Prop := ¬ gA M 13 r = 0
def pSt (M : gM) (r : Int) : Prop := lyi M r ∧ ¬ gA M 12 r = 0
def pDr (M : gM) (r : Int) : Prop := lyi M r ∧ gA M 10 r ≤ 20
def pOf (M : gM) (c r : Int) : Prop := lyi M r ∧ gA M 8 r = c
def pSO (M : gM) (c r : Int) : Prop := (lyi M r ∧ ¬ gA M 12 r = 0) ∧ gA M 8 r = c
/-- what every state keeps to -/
def wf (M : gM) : Prop := (0 ≤ gN M 7 6 ∧ gN M 7 6 ≤ 120) ∧ (0 ≤ gN M 14 4 ∧ gN M 14 4 ≤ gN M 14 5 ∧ gN M 14 5 ≤ 120) ∧ (∀ r : Int, 0 ≤ gA M 10 r ∧ gA M 10 r ≤ 60) ∧ (∀ r : Int, M.1 11 r = 0 ∨ M.1 11 r = 1) ∧ (∀ r : Int, M.1 12 r = 0 ∨ M.1 12 r = 1) ∧ (∀ r : Int, M.1 13 r = 0 ∨ M.1 13 r = 1) ∧ (0 ≤ gN M 0 10 ∧ gN M 0 10 ≤ 9) ∧ (1 ≤ gN M 0 8 ∧ gN M 0 8 ≤ 6)
