/-! long compares -/
def cmpZ (x y : Int64) : Int := (lg_cmp x y).toInt
theorem cmpZ_r (x y : Int64) : inR (cmpZ x y) := inR_o _
theorem cmpZ_e (x : Int64) : cmpZ x x = 0 := by
  unfold cmpZ lg_cmp
  simp
section RLC
variable {p : Program} {l : Launch} {e : Env} {R : Room} {s : State} {m : MethodId} {args : Array Value} {below : List Frame} {meth : Method} {c : Code} {H : Heap} {locs : List Loc} {cells slots : Nat} {Q : State → Prop}
variable {cc : ByteArray} {pc : Nat} {ls : Array Slot} {rest : List Value}
theorem r_lcmp (hx : p.tables.exec = Jvm.exec) (hb : c.code = cc) {x y : Int64} (hdg : decode cc pc = .ok (.lcmp, 1)) (k : W p l e R s m args below meth c H locs cells slots Q (F0 m (pc + 1) ls (.int (iI (cmpZ x y)) :: rest))) : W p l e R s m args below meth c H locs cells slots Q (F0 m pc ls (.long y :: .long x :: rest)) := W.lcmp hx hb hdg (by unfold cmpZ at k; rw [iI_o] at k; exact k)
end RLC
/-! the answers of the queries -/
noncomputable def cntF (M : gM) (q : Int) : Int := if q = 0 then gN M 0 11 else if q = 1 then gN M 0 12 else if q = 2 then cntI (pLy M) (gN M 7 6) else if q = 3 then gN M 7 6 else if q = 4 then cntI (pSt M) (gN M 7 6) else if q = 5 then cntI (pDr M) (gN M 7 6) else if q = 6 then gN M 0 13 else if q = 7 then sumX (gA M 6) 10 else if q = 8 then sumX (gA M 1) 20 else if q = 9 then gN M 14 5 - gN M 14 4 else if q = 10 then gN M 14 5 else if q = 11 then gN M 0 8 else gN M 0 9
noncomputable def comF (M : gM) (k q : Int) : Int := if q = 0 then gA M 4 k else if q = 1 then gA M 5 k else if q = 2 then gA M 6 k else if q = 3 then cntI (pOf M k) (gN M 7 6) else if q = 4 then cntI (pSO M k) (gN M 7 6) else if q = 5 then cntI (pEq M 2 k) 20 else if q = 6 then cntI (pEq M 3 k) 20 else cntI (pDi M k) (gN M 14 5) - cntI (pDi M k) (gN M 14 4)
def ploF (M : gM) (p q : Int) : Int := if q = 0 then gA M 1 p else if q = 1 then gA M 2 p else if q = 2 then gA M 3 p else if gA M 3 p = gA M 2 p then 0 else 1
noncomputable def rowF (M : gM) (r q : Int) : Int := @ite _ (lyi M r) (Classical.propDecidable _) (if q = 0 then gA M 8 r else if q = 1 then gA M 9 r else if q = 2 then gA M 10 r else if q = 3 then (if gA M 11 r = 0 then 0 else 1) else if q = 4 then (if gA M 12 r = 0 then 0 else 1) else @ite _ (pDr M r) (Classical.propDecidable _) 1 0) (-1)
def carF (M : gM) (v : Int) : Int := (gN M 0 10 + v * 5) % 10
theorem rowF_n {M : gM} {r : Int} (h : ¬ lyi M r) (q : Int) : rowF M r q = -1 := @if_neg _ (Classical.propDecidable _) h _ _ _
theorem rowF_l {M : gM} {r : Int} (h : lyi M r) (q : Int) : rowF M r q = (if q = 0 then gA M 8 r else if q = 1 then gA M 9 r else if q = 2 then gA M 10 r else if q = 3 then (if gA M 11 r = 0 then 0 else 1) else if q = 4 then (if gA M 12 r = 0 then 0 else 1) else @ite _ (pDr M r) (Classical.propDecidable _) 1 0) := @if_pos _ (Classical.propDecidable _) h _ _ _
theorem row_2 (M : gM) (r : Int) : rowF M r 2 = @ite _ (lyi M r) (Classical.propDecidable _) (gA M 10 r) (-1) := rfl
theorem cv_commoner {w w1 : gW} {b0 b1 b2 b3 : Nat} {co q z : Int} (h : po_X5_commoner w b0 b1 b2 b3 co q z w1) (h0 : 0 ≤ co ∧ co ≤ 9) (h1 : 0 ≤ q ∧ q ≤ 6) : z = comF (w 1) co q ∧ w = w1 := by
  unfold po_X5_commoner at h
  rcases h with ⟨d0, e, ew⟩ | ⟨d0, d1, e, ew⟩ | ⟨d0, d1, e, ew⟩ | ⟨d0, d1, e, ew⟩ | ⟨d0, d1, e, ew⟩ | ⟨d0, d1, e, ew⟩ | ⟨d0, d1, e, ew⟩ | ⟨d0, d1, e, ew⟩ | ⟨d0, d1, e, ew⟩ | ⟨d0, d1, e, ew⟩
  · omega
  · omega
  · subst d1; refine ⟨?_, ew.symm⟩; rw [e]; rfl
  · subst d1; refine ⟨?_, ew.symm⟩; rw [e]; rfl
  · subst d1; refine ⟨?_, ew.symm⟩; rw [e]; rfl
  · subst d1; refine ⟨?_, ew.symm⟩; rw [e]; rfl
  · subst d1; refine ⟨?_, ew.symm⟩; rw [e]; rfl
  · subst d1; refine ⟨?_, ew.symm⟩; rw [e]; rfl
  · subst d1; refine ⟨?_, ew.symm⟩; rw [e]; rfl
  · omega
theorem cv_plot {w w1 : gW} {b0 b1 b2 b3 : Nat} {pl q z : Int} (h : po_X5_plot w b0 b1 b2 b3 pl q z w1) (h0 : 0 ≤ pl ∧ pl ≤ 19) (h1 : 0 ≤ q ∧ q ≤ 3) : z = ploF (w 1) pl q ∧ w = w1 := by
  unfold po_X5_plot at h
  rcases h with ⟨d0, e, ew⟩ | ⟨d0, d1, e, ew⟩ | ⟨d0, d1, e, ew⟩ | ⟨d0, d1, e, ew⟩ | ⟨d0, d1, e, ew⟩ | ⟨d0, d1, d2, e, ew⟩ | ⟨d0, d1, d2, e, ew⟩
  · omega
  · omega
  · subst d1; refine ⟨?_, ew.symm⟩; rw [e]; rfl
  · subst d1; refine ⟨?_, ew.symm⟩; rw [e]; rfl
  · subst d1; refine ⟨?_, ew.symm⟩; rw [e]; rfl
  · subst d1; refine ⟨?_, ew.symm⟩; rw [e]; show _ = (if gA (w 1) 3 pl = gA (w 1) 2 pl then 0 else 1 : Int); first | (rw [if_pos d2]) | (rw [if_neg d2])
  · subst d1; refine ⟨?_, ew.symm⟩; rw [e]; show _ = (if gA (w 1) 3 pl = gA (w 1) 2 pl then 0 else 1 : Int); first | (rw [if_pos d2]) | (rw [if_neg d2])
theorem cv_row {w w1 : gW} {b0 b1 b2 b3 : Nat} {r q z : Int} (h : po_X5_row w b0 b1 b2 b3 r q z w1) (h1 : 0 ≤ q ∧ q ≤ 5) : z = rowF (w 1) r q ∧ w = w1 := by
  unfold po_X5_row at h
  rcases h with ⟨d0, e, ew⟩ | ⟨d0, d1, e, ew⟩ | ⟨d0, d1, e, ew⟩ | ⟨d0, d1, e, ew⟩ | ⟨d0, d1, e, ew⟩ | ⟨d0, d1, e, ew⟩ | ⟨d0, d1, e, ew⟩ | ⟨d0, d1, e, ew⟩ | ⟨d0, d1, e, ew⟩
  · exact ⟨by rw [e, rowF_n d0], ew.symm⟩
  · omega
  · subst d1; refine ⟨?_, ew.symm⟩; rw [rowF_l d0, e]; rfl
  · subst d1; refine ⟨?_, ew.symm⟩; rw [rowF_l d0, e]; rfl
  · subst d1; refine ⟨?_, ew.symm⟩; rw [rowF_l d0, e]; rfl
  · subst d1; refine ⟨?_, ew.symm⟩; rw [rowF_l d0]; simp (decide := true) only [if_true, if_false]; rcases e with ⟨e, f⟩ | ⟨e, f⟩ <;> first | (rw [e, if_neg f]) | (rw [e, if_pos f]) | (rw [e, @if_pos _ (Classical.propDecidable _) f]) | (rw [e, @if_neg _ (Classical.propDecidable _) f])
  · subst d1; refine ⟨?_, ew.symm⟩; rw [rowF_l d0]; simp (decide := true) only [if_true, if_false]; rcases e with ⟨e, f⟩ | ⟨e, f⟩ <;> first | (rw [e, if_neg f]) | (rw [e, if_pos f]) | (rw [e, @if_pos _ (Classical.propDecidable _) f]) | (rw [e, @if_neg _ (Classical.propDecidable _) f])
  · subst d1; refine ⟨?_, ew.symm⟩; rw [rowF_l d0]; simp (decide := true) only [if_true, if_false]; rcases e with ⟨e, f⟩ | ⟨e, f⟩ <;> first | (rw [e, if_neg f]) | (rw [e, if_pos f]) | (rw [e, @if_pos _ (Classical.propDecidable _) f]) | (rw [e, @if_neg _ (Classical.propDecidable _) f])
  · omega
theorem cv_cart {w w1 : gW} {b0 b1 b2 b3 : Nat} {v z : Int} (h : po_X5_cart w b0 b1 b2 b3 v z w1) (h0 : 0 ≤ v ∧ v ≤ 1) : z = carF (w 1) v ∧ w = w1 := by
  unfold po_X5_cart at h
  rcases h with ⟨d0, e, ew⟩ | ⟨d0, e, ew⟩
  · omega
  · exact ⟨by rw [e]; rfl, ew.symm⟩
theorem cv_count {w w1 : gW} {b0 b1 b2 b3 : Nat} {q z : Int} (h : po_X5_count w b0 b1 b2 b3 q z w1) (h1 : 0 ≤ q ∧ q ≤ 12) : iI z = iI (cntF (w 1) q) ∧ w = w1 := by
  unfold po_X5_count at h
  rcases h with ⟨d0, e, ew⟩ | ⟨d0, e, ew⟩ | ⟨d0, e, ew⟩ | ⟨d0, e, ew⟩ | ⟨d0, e, ew⟩ | ⟨d0, e, ew⟩ | ⟨d0, e, ew⟩ | ⟨d0, e, ew⟩ | ⟨d0, e, ew⟩ | ⟨d0, e, ew⟩ | ⟨d0, e, ew⟩ | ⟨d0, e, ew⟩ | ⟨d0, e, ew⟩ | ⟨d0, e, ew⟩ | ⟨d0, e, ew⟩ | ⟨d0, e, ew⟩
  · omega
  · subst d0; refine ⟨?_, ew.symm⟩; rw [e]; rfl
  · subst d0; refine ⟨?_, ew.symm⟩; rw [e]; rfl
  · subst d0; refine ⟨?_, ew.symm⟩; rw [e]; rfl
  · subst d0; refine ⟨?_, ew.symm⟩; rw [e]; rfl
  · subst d0; refine ⟨?_, ew.symm⟩; rw [e]; rfl
  · subst d0; refine ⟨?_, ew.symm⟩; rw [e]; rfl
  · subst d0; refine ⟨?_, ew.symm⟩; rw [e]; rfl
  · subst d0; refine ⟨?_, ew.symm⟩; exact e
  · subst d0; refine ⟨?_, ew.symm⟩; exact e
  · subst d0; refine ⟨?_, ew.symm⟩; rw [e]; rfl
  · subst d0; refine ⟨?_, ew.symm⟩; rw [e]; rfl
  · subst d0; refine ⟨?_, ew.symm⟩; rw [e]; rfl
  · subst d0; refine ⟨?_, ew.symm⟩; rw [e]; rfl
  · omega
  · omega
theorem cv_cnt {w w1 : gW} {b0 b1 b2 b3 : Nat} {q z : Int} (h : po_X5_count w b0 b1 b2 b3 q z w1) (rz : inR z) (h1 : 0 ≤ q ∧ q ≤ 6 ∨ 9 ≤ q ∧ q ≤ 12) : z = cntF (w 1) q ∧ w = w1 := by
  have e9 := cv_count h (by omega)
  refine ⟨(iI_eq rz ?_).1 e9.1, e9.2⟩
  unfold po_X5_count at h
  rcases h with ⟨d, e, ew⟩ | ⟨d, e, ew⟩ | ⟨d, e, ew⟩ | ⟨d, e, ew⟩ | ⟨d, e, ew⟩ | ⟨d, e, ew⟩ | ⟨d, e, ew⟩ | ⟨d, e, ew⟩ | ⟨d, e, ew⟩ | ⟨d, e, ew⟩ | ⟨d, e, ew⟩ | ⟨d, e, ew⟩ | ⟨d, e, ew⟩ | ⟨d, e, ew⟩ | ⟨d, e, ew⟩ | ⟨d, e, ew⟩
  · omega
  · subst d; rw [e] at rz; exact rz
  · subst d; rw [e] at rz; exact rz
  · subst d; rw [e] at rz; exact rz
  · subst d; rw [e] at rz; exact rz
  · subst d; rw [e] at rz; exact rz
  · subst d; rw [e] at rz; exact rz
  · subst d; rw [e] at rz; exact rz
  · omega
  · omega
  · subst d; rw [e] at rz; exact rz
  · subst d; rw [e] at rz; exact rz
  · subst d; rw [e] at rz; exact rz
  · subst d; rw [e] at rz; exact rz
  · omega
  · omega
theorem cv_13 {w w1 : gW} {b0 b1 b2 b3 : Nat} {z : Int} (h : po_X5_count w b0 b1 b2 b3 13 z w1) : z = gN (w 4) 0 4 ∧ w = w1 := by
  unfold po_X5_count at h
  rcases h with ⟨d, e, ew⟩ | ⟨d, e, ew⟩ | ⟨d, e, ew⟩ | ⟨d, e, ew⟩ | ⟨d, e, ew⟩ | ⟨d, e, ew⟩ | ⟨d, e, ew⟩ | ⟨d, e, ew⟩ | ⟨d, e, ew⟩ | ⟨d, e, ew⟩ | ⟨d, e, ew⟩ | ⟨d, e, ew⟩ | ⟨d, e, ew⟩ | ⟨d, e, ew⟩ | ⟨d, e, ew⟩ | ⟨d, e, ew⟩
  · omega
  · omega
  · omega
  · omega
  · omega
  · omega
  · omega
  · omega
  · omega
  · omega
  · omega
  · omega
  · omega
  · omega
  · exact ⟨e, ew.symm⟩
  · omega
/-- commoner's seventh answer is told too -/
theorem cv_com7 {w w1 : gW} {b0 b1 b2 b3 : Nat} {co q z : Int} (h : po_X5_commoner w b0 b1 b2 b3 co q z w1) (h0 : 0 ≤ co ∧ co ≤ 9) (h1 : 0 ≤ q ∧ q ≤ 7) : z = comF (w 1) co q ∧ w = w1 := by
  by_cases h7 : q ≤ 6
  · exact cv_commoner h h0 ⟨h1.1, h7⟩
  · have e7 : q = 7 := by omega
    subst e7
    unfold po_X5_commoner at h
    rcases h with ⟨d0, e, ew⟩ | ⟨d0, d1, e, ew⟩ | ⟨d0, d1, e, ew⟩ | ⟨d0, d1, e, ew⟩ | ⟨d0, d1, e, ew⟩ | ⟨d0, d1, e, ew⟩ | ⟨d0, d1, e, ew⟩ | ⟨d0, d1, e, ew⟩ | ⟨d0, d1, e, ew⟩ | ⟨d0, d1, e, ew⟩
    · omega
    · omega
    · omega
    · omega
    · omega
    · omega
    · omega
    · omega
    · omega
    · exact ⟨e, ew.symm⟩
/-! the law's hash -/
def itL (f : Int64 → Int → Int64) (h : Int64) : Nat → Int64
  | 0 => h
  | n + 1 => f (itL f h n) n
def itX (f : Int64 → Int → Int64) (h : Int64) (x : Int) : Int64 := itL f h x.toNat
theorem itX_0 (f : Int64 → Int → Int64) (h : Int64) : itX f h 0 = h := rfl
theorem itX_s (f : Int64 → Int → Int64) (h : Int64) {x : Int} (hx : 0 ≤ x) : itX f h (x + 1) = f (itX f h x) x := by
  unfold itX
  rw [toNat_s hx]
  show f (itL f h x.toNat) (x.toNat : Int) = _
  rw [Int.toNat_of_nonneg hx]
noncomputable def fC (M : gM) (h : Int64) (q : Int) : Int64 := 31 * h + (iI (cntF M q)).toInt64
noncomputable def fKq (M : gM) (k : Int) (h : Int64) (q : Int) : Int64 := 31 * h + (iI (comF M k q)).toInt64
noncomputable def fK (M : gM) (h : Int64) (k : Int) : Int64 := itX (fKq M k) h 8
noncomputable def fP (M : gM) (h : Int64) (k : Int) : Int64 := 31 * (31 * h + (iI (ploF M k 0)).toInt64) + (iI (ploF M k 2)).toInt64
noncomputable def fRq (M : gM) (k : Int) (h : Int64) (q : Int) : Int64 := 31 * h + (iI (rowF M k q)).toInt64
noncomputable def fR (M : gM) (h : Int64) (k : Int) : Int64 := itX (fRq M k) h 5
noncomputable def tdF (M : gM) : Int64 := 31 * (31 * itX (fR M) (itX (fP M) (itX (fK M) (itX (fC M) 3 13) 10) 20) (gN M 7 6) + (iI (carF M 0)).toInt64) + (iI (carF M 1)).toInt64
