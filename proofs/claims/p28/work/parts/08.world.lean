/-! THE WORLD: 139 cells at an address, in ten blocks: 0 the system, 1 now, 2 kept, 3 trial, 4 the history, 5 to 8 its four states, 9 the text. A block holds arrays (by cell, place) and numbers (by cell, field). -/
abbrev gM : Type := (Nat → Int → Int32) × (Nat → Nat → Int32)
abbrev gW : Type := Nat → gM
abbrev gG : Type := va_G × (ClassId × ClassId × ClassId) × Nat
def bo (j : Nat) : Nat := match j with
  | 0 => 0 | 1 => 1 | 2 => 20 | 3 => 39 | 4 => 58 | 5 => 59 | 6 => 78 | 7 => 97 | 8 => 116 | 9 => 135 | _ => 139
def bs (j : Nat) : Nat := match j with
  | 0 => 1 | 1 => 19 | 2 => 19 | 3 => 19 | 4 => 1 | 5 => 19 | 6 => 19 | 7 => 19 | 8 => 19 | 9 => 4 | _ => 0
def bk (j : Nat) : Nat := match j with
  | 0 => 0 | 1 => 1 | 2 => 1 | 3 => 1 | 4 => 2 | 5 => 1 | 6 => 1 | 7 => 1 | 8 => 1 | 9 => 3 | _ => 4
def bj (k : Nat) : Nat := if k < 1 then 0 else if k < 20 then 1 else if k < 39 then 2 else if k < 58 then 3 else if k < 59 then 4 else if k < 78 then 5 else if k < 97 then 6 else if k < 116 then 7 else if k < 135 then 8 else 9
def ad (G : gG) (j c : Nat) : Nat := G.2.2 + (bo j + c)
def cI (G : gG) (n : Nat) (A : Int → Int32) : va_E := .inl (G.2.1.1, n, .inl (fun i : Nat => A (i : Int)))
def cZ (G : gG) (n : Nat) (A : Int → Int32) : va_E := .inl (G.2.1.2.1, n, .inl (fun i : Nat => A (i : Int)))
def cC (G : gG) (n : Nat) (A : Int → Int32) : va_E := .inl (G.2.1.2.2, n, .inl (fun i : Nat => A (i : Int)))
def tysG (G : gG) : List (ClassId × FieldType) := [(G.2.1.1, .int), (G.2.1.2.1, .boolean), (G.2.1.2.2, .char)]
def cM (G : gG) (j c : Nat) (A : Int → Int32) (F : Nat → Int32) : va_E := match c with
  | 0 => .inr (3, [.ref (ad G j 1), .ref (ad G j 2), .ref (ad G j 3), .ref (ad G j 4), .ref (ad G j 5), .ref (ad G j 6), .ref (ad G j 7), .ref (ad G j 14), .int (F 8), .int (F 9), .int (F 10), .int (F 11), .int (F 12), .int (F 13)])
  | 1 => cI G 20 A
  | 2 => cI G 20 A
  | 3 => cI G 20 A
  | 4 => cI G 10 A
  | 5 => cI G 10 A
  | 6 => cI G 10 A
  | 7 => .inr (4, [.ref (ad G j 8), .ref (ad G j 9), .ref (ad G j 10), .ref (ad G j 11), .ref (ad G j 12), .ref (ad G j 13), .int (F 6)])
  | 8 => cI G 120 A
  | 9 => cI G 120 A
  | 10 => cI G 120 A
  | 11 => cZ G 120 A
  | 12 => cZ G 120 A
  | 13 => cZ G 120 A
  | 14 => .inr (1, [.ref (ad G j 15), .ref (ad G j 16), .ref (ad G j 17), .ref (ad G j 18), .int (F 4), .int (F 5)])
  | _ => cI G 120 A
def cP (G : gG) (F : Nat → Int32) : va_E := .inr (5, [.ref (ad G 1 0), .ref (ad G 2 0), .ref (ad G 3 0), .ref (ad G 4 0), .ref (ad G 9 0), .int (F 5)])
/-- the history: its four fields hold the numbers of blocks -/
def hb (F : Nat → Int32) (k : Nat) : Nat := (F k).toInt.toNat
def cH (G : gG) (F : Nat → Int32) : va_E := .inr (2, [.ref (ad G (hb F 0) 0), .ref (ad G (hb F 1) 0), .ref (ad G (hb F 2) 0), .ref (ad G (hb F 3) 0), .int (F 4)])
def cT (G : gG) (c : Nat) (A : Int → Int32) (F : Nat → Int32) : va_E := match c with
  | 0 => .inr (0, [.ref (ad G 9 1), .int (F 1), .ref (ad G 9 2), .ref (ad G 9 3), .int (F 4)])
  | 1 => cC G 60 A
  | _ => cI G 60 A
def ceX (G : gG) (j c : Nat) (A : Int → Int32) (F : Nat → Int32) : va_E := match bk j with
  | 0 => cP G F
  | 1 => cM G j c A F
  | 2 => cH G F
  | 3 => cT G c A F
  | _ => cP G F
/-- a block of a state of the moss -/
def ms (j : Nat) : Prop := j = 1 ∨ j = 2 ∨ j = 3 ∨ j = 5 ∨ j = 6 ∨ j = 7 ∨ j = 8
theorem ceX_m {j : Nat} (h : ms j) (G : gG) (c : Nat) (A : Int → Int32) (F : Nat → Int32) : ceX G j c A F = cM G j c A F := by
  rcases h with rfl | rfl | rfl | rfl | rfl | rfl | rfl <;> rfl
theorem ms_lt {j : Nat} (h : ms j) (c : Nat) (hc : c < 19) : j < 11 ∧ c < bs j := by
  rcases h with rfl | rfl | rfl | rfl | rfl | rfl | rfl <;> exact ⟨by omega, hc⟩
def WL (G : gG) (w : gW) : va_W := (List.range 139).map fun k => (G.2.2 + k, ceX G (bj k) (k - bo (bj k)) ((w (bj k)).1 (k - bo (bj k))) ((w (bj k)).2 (k - bo (bj k))))
theorem bj_bo : ∀ j, j < 11 → ∀ c, c < 19 → c < bs j → bj (bo j + c) = j ∧ bo j + c < 139 := by decide +kernel
theorem bo_bj : ∀ k, k < 139 → bo (bj k) + (k - bo (bj k)) = k ∧ bj k < 11 ∧ k - bo (bj k) < bs (bj k) := by decide +kernel
theorem bs_le : ∀ j, j < 11 → bs j ≤ 19 := by decide +kernel
theorem bj_bo' {j c : Nat} (h : j < 11 ∧ c < bs j) : bj (bo j + c) = j ∧ bo j + c < 139 := bj_bo j h.1 c (Nat.lt_of_lt_of_le h.2 (bs_le j h.1)) h.2
theorem WL_get (G : gG) (w : gW) {j c : Nat} (h : j < 11 ∧ c < bs j) : (WL G w)[bo j + c]? = some (ad G j c, ceX G j c ((w j).1 c) ((w j).2 c)) := by
  obtain ⟨h1, h2⟩ := bj_bo' h
  unfold WL
  rw [List.getElem?_map, List.getElem?_range h2]
  simp only [Option.map_some, h1, Nat.add_sub_cancel_left]
  rfl
theorem WL_len (G : gG) (w : gW) : (WL G w).length = 139 := by simp [WL]
def up (w : gW) (j : Nat) (M : gM) : gW := fun j' => if j' = j then M else w j'
def sC (M : gM) (c : Nat) (A : Int → Int32) (F : Nat → Int32) : gM := (fun c' => if c' = c then A else M.1 c', fun c' => if c' = c then F else M.2 c')
/-- an array whole; an array at a place; a number -/
def sF (M : gM) (c : Nat) (A : Int → Int32) : gM := (fun c' => if c' = c then A else M.1 c', M.2)
def sA (M : gM) (c : Nat) (x : Int) (v : Int32) : gM := sF M c (fun i => if i = x then v else M.1 c i)
def sS (M : gM) (c f : Nat) (v : Int32) : gM := (M.1, fun c' f' => if c' = c ∧ f' = f then v else M.2 c' f')
theorem sC_F (M : gM) (c : Nat) (A : Int → Int32) : sC M c A (M.2 c) = sF M c A := by
  refine Prod.ext rfl ?_
  funext c'
  show (if c' = c then M.2 c else M.2 c') = M.2 c'
  split
  · next h => rw [h]
  · rfl
theorem sC_S (M : gM) (c f : Nat) (v : Int32) : sC M c (M.1 c) (fun f' => if f' = f then v else M.2 c f') = sS M c f v := by
  refine Prod.ext ?_ ?_
  · funext c'
    show (if c' = c then M.1 c else M.1 c') = M.1 c'
    split
    · next h => rw [h]
    · rfl
  · funext c' f'
    show (if c' = c then (fun f' => if f' = f then v else M.2 c f') else M.2 c') f' = if c' = c ∧ f' = f then v else M.2 c' f'
    by_cases h : c' = c
    · subst h; simp
    · simp [h]
theorem WL_set (G : gG) (w : gW) {j c : Nat} (h : j < 11 ∧ c < bs j) (A : Int → Int32) (F : Nat → Int32) : (WL G w).set (bo j + c) (ad G j c, ceX G j c A F) = WL G (up w j (sC (w j) c A F)) := by
  obtain ⟨h1, h2⟩ := bj_bo' h
  apply List.ext_getElem?
  intro k
  by_cases hk : k < 139
  · obtain ⟨g1, g2, g3⟩ := bo_bj k hk
    have e := WL_get G (up w j (sC (w j) c A F)) (j := bj k) (c := k - bo (bj k)) ⟨g2, g3⟩
    have e0 := WL_get G w (j := bj k) (c := k - bo (bj k)) ⟨g2, g3⟩
    rw [g1] at e e0
    by_cases hq : k = bo j + c
    · subst hq
      rw [List.getElem?_set_self (by rw [WL_len]; exact h2), e, h1, Nat.add_sub_cancel_left]
      simp [up, sC]
    · rw [List.getElem?_set_ne (Ne.symm hq), e0, e]
      by_cases hj : bj k = j
      · have hc : ¬ k - bo (bj k) = c := by rw [hj] at g1 ⊢; omega
        simp [up, sC, hj]
        rw [hj] at hc
        simp [hc]
      · simp [up, hj]
  · rw [List.getElem?_eq_none (by rw [List.length_set, WL_len]; omega), List.getElem?_eq_none (by rw [WL_len]; omega)]
theorem WL_D (G : gG) (w : gW) : va_D (fun q : Nat => G.2.2 ≤ q) (WL G w) := by
  have key : ∀ (k : Nat) (q : Nat × va_E), (WL G w)[k]? = some q → q.1 = G.2.2 + k := by
    intro k q hk
    unfold WL at hk
    rw [List.getElem?_map] at hk
    by_cases h : k < 139
    · rw [List.getElem?_range h] at hk
      simp at hk
      rw [← hk]
    · rw [List.getElem?_eq_none (by simp; omega)] at hk
      simp at hk
  refine ⟨fun i j p q hi hj hpq => ?_, fun k q hk => ?_⟩
  · rw [key i p hi, key j q hj] at hpq; omega
  · rw [key k q hk]; omega
/-- the words of calls of a nest mate's private methods -/

def nst (U : State) : Prop := va_Nw (.methodLinkNest RX3 48 yX5_copyNumbers RX5) U ∧ va_Nw (.methodLinkNest RX4 31 yX5_copyNumbers RX5) U ∧ va_Nw (.methodLinkNest RX4 35 yX5_copyFlags RX5) U ∧ va_Nw (.methodLinkNest RX1 24 yX5_copyNumbers RX5) U ∧ va_Nw (.methodLinkNest RX4 68 yX5_oneIf RX5) U ∧ va_Nw (.methodLinkNest RX4 57 yX5_isWithin RX5) U ∧ va_Nw (.methodLinkNest RX1 52 yX5_oneIf RX5) U ∧ va_Nw (.methodLinkNest RX3 89 yX5_isCommoner RX5) U ∧ va_Nw (.methodLinkNest RX3 78 yX5_isPlot RX5) U ∧ va_Nw (.methodLinkNest RX1 48 yX5_isWithin RX5) U
theorem nst_warm {s U : State} (hW : s.WarmedH U.vm) (h : nst s) : nst U := by
  obtain ⟨h1, h2, h3, h4, h5, h6, h7, h8, h9, h10⟩ := h
  exact ⟨va_Nw.warmM hW h1, va_Nw.warmM hW h2, va_Nw.warmM hW h3, va_Nw.warmM hW h4, va_Nw.warmM hW h5, va_Nw.warmM hW h6, va_Nw.warmM hW h7, va_Nw.warmM hW h8, va_Nw.warmM hW h9, va_Nw.warmM hW h10⟩
theorem nst_same {u U : State} (hv : u.vm = U.vm) (h : nst u) : nst U := by
  obtain ⟨h1, h2, h3, h4, h5, h6, h7, h8, h9, h10⟩ := h
  exact ⟨va_Nw.same rfl hv h1, va_Nw.same rfl hv h2, va_Nw.same rfl hv h3, va_Nw.same rfl hv h4, va_Nw.same rfl hv h5, va_Nw.same rfl hv h6, va_Nw.same rfl hv h7, va_Nw.same rfl hv h8, va_Nw.same rfl hv h9, va_Nw.same rfl hv h10⟩
/-- the world at a heap; what else stands -/
def wo (G : gG) (w : gW) (s : State) (H : Heap) (locs : List Loc) : Prop := va_P G.1 vwCl (WL G w) H ∧ va_K G.1 vwCl (tysG G) s ∧ va_S (fun q : Nat => G.2.2 ≤ q) s.heap H locs
def wpre (G : gG) (w : gW) (U : State) : Prop := va_P G.1 vwCl (WL G w) U.heap ∧ va_K G.1 vwCl (tysG G) U ∧ nst U
def qi (G : gG) (post : Int → gW → Prop) : Array Value → State → Outcome → State → Prop := va_Qi (fun (r : Int32) (w' : gW) => ∃ z : Int, inR z ∧ r = iI z ∧ post z w') (fun w' t => va_P G.1 vwCl (WL G w') t.heap) (fun q : Nat => G.2.2 ≤ q)
def qv (G : gG) (post : gW → Prop) : Array Value → State → Outcome → State → Prop := va_Qv post (fun w' t => va_P G.1 vwCl (WL G w') t.heap) (fun q : Nat => G.2.2 ≤ q)
/-- a method's contract over the world: it answers an int, or nothing -/
def mI (l : Launch) (G : gG) (y : MethodName) (ws : List Cond) (rm : Room) (av : List Value) (w : gW) (post : Int → gW → Prop) : Prop := Met l y ws rm (va_Pc av (wpre G w)) (qi G post) 0 0 (fun q : Nat => G.2.2 ≤ q)
def mV (l : Launch) (G : gG) (y : MethodName) (ws : List Cond) (rm : Room) (av : List Value) (w : gW) (post : gW → Prop) : Prop := Met l y ws rm (va_Pc av (wpre G w)) (qv G post) 0 0 (fun q : Nat => G.2.2 ≤ q)
def rmL (d n : Nat) : Room := { frames := d, cells := 0, slots := 0, locals := n }
/-- what stands all through a body -/
def cx (p : Program) (s : State) (m : MethodId) (args : Array Value) (meth : Method) (c : Code) (y : MethodName) (cc : ByteArray) (n : Nat) (ret : Option FieldType) : Prop := p.tables.exec = Jvm.exec ∧ c.code = cc ∧ meth.sig.returnType = ret ∧ c.maxLocals = n ∧ (∀ w ∈ wU y cc n ret, w.before args s = true) ∧ s.vm.findClass y.cls = some m.cls ∧ meth.locks = false ∧ nst s
theorem cx.w {p : Program} {s : State} {m : MethodId} {args : Array Value} {meth : Method} {c : Code} {y : MethodName} {cc : ByteArray} {n : Nat} {ret : Option FieldType} (C0 : cx p s m args meth c y cc n ret) {w : Cond} (h : w ∈ wsG) : w.before args s = true := C0.2.2.2.2.1 w (wU_in h)
abbrev QI (G : gG) (post : Int → gW → Prop) (below : List Frame) (args : Array Value) (s : State) : State → Prop := MQ below (qi G post) args s 0 0 (fun q : Nat => G.2.2 ≤ q)
abbrev QV (G : gG) (post : gW → Prop) (below : List Frame) (args : Array Value) (s : State) : State → Prop := MQ below (qv G post) args s 0 0 (fun q : Nat => G.2.2 ≤ q)
theorem mI_of {l : Launch} {G : gG} {y : MethodName} {cc : ByteArray} {n : Nat} {ret : Option FieldType} {d k : Nat} {av : List Value} {w : gW} {post : Int → gW → Prop} (hy : plainName y.cls = true) (hn : (lg_sl av).length ≤ n)
    (body : ∀ (p : Program) (e : Env) (s : State) (m : MethodId) (args : Array Value) (below : List Frame) (meth : Method) (c : Code) (ls : Array Slot), cx p s m args meth c y cc n ret → wo G w s s.heap [] → lv_has ls n (lv_args 0 av) → W p l e (rmL d k) s m args below meth c s.heap [] 0 0 (QI G post below args s) (F0 m 0 ls [])) : mI l G y (wU y cc n ret) (rmL d k) av w post := by
  refine Met.ofW (cc := cc) (maxL := n) (ret := ret) hy rfl ?_
  intro p e s m args below meth c s₁ B hml hv
  obtain ⟨rfl, hP, hK, hN⟩ := hv
  rw [lg_entry_eq]
  exact body p e s m _ below meth c _ ⟨B.exec, B.bytes, B.returns, hml, atoms_spec (ws := wU y cc n ret) B.pre, findClass_of_methodNamed B.named, B.notSynchronized, hN⟩ ⟨hP, hK, va_S.rf⟩ (lv_entry av hn)
theorem mV_of {l : Launch} {G : gG} {y : MethodName} {cc : ByteArray} {n : Nat} {ret : Option FieldType} {d k : Nat} {av : List Value} {w : gW} {post : gW → Prop} (hy : plainName y.cls = true) (hn : (lg_sl av).length ≤ n)
    (body : ∀ (p : Program) (e : Env) (s : State) (m : MethodId) (args : Array Value) (below : List Frame) (meth : Method) (c : Code) (ls : Array Slot), cx p s m args meth c y cc n ret → wo G w s s.heap [] → lv_has ls n (lv_args 0 av) → W p l e (rmL d k) s m args below meth c s.heap [] 0 0 (QV G post below args s) (F0 m 0 ls [])) : mV l G y (wU y cc n ret) (rmL d k) av w post := by
  refine Met.ofW (cc := cc) (maxL := n) (ret := ret) hy rfl ?_
  intro p e s m args below meth c s₁ B hml hv
  obtain ⟨rfl, hP, hK, hN⟩ := hv
  rw [lg_entry_eq]
  exact body p e s m _ below meth c _ ⟨B.exec, B.bytes, B.returns, hml, atoms_spec (ws := wU y cc n ret) B.pre, findClass_of_methodNamed B.named, B.notSynchronized, hN⟩ ⟨hP, hK, va_S.rf⟩ (lv_entry av hn)
theorem wpre_blind {G : gG} {w : gW} (av : List Value) : FrameBlind (va_Pc av (wpre G w)) := fun a U g mk q => by
  obtain ⟨q0, qP, qK, qN⟩ := q
  exact ⟨q0, qP, va_K.moved (u := U) (U := U.calling g mk a) (Vm.Alike.refl U.vm) qK, nst_same rfl qN⟩
theorem wpre_at {G : gG} {w : gW} {s : State} {H : Heap} {locs : List Loc} (av : List Value) (hW : wo G w s H locs) (hN : nst s) : ∀ U : State, U.heap = H → s.WarmedH U.vm → va_Pc av (wpre G w) av.toArray U := fun U hU hWm => ⟨rfl, by rw [hU]; exact hW.1, va_K.moved hWm.alike hW.2.1, nst_warm hWm hN⟩
section RH
variable {p : Program} {l : Launch} {e : Env} {R : Room} {s : State} {m : MethodId} {args : Array Value} {below : List Frame} {meth : Method} {c : Code} {H : Heap} {locs : List Loc} {cells slots : Nat} {Q : State → Prop}
variable {cc : ByteArray} {pc : Nat} {ls : Array Slot} {rest : List Value} {G : gG} {w : gW} {y : MethodName} {nL : Nat} {ret : Option FieldType}
theorem r_gI (C0 : cx p s m args meth c y cc nL ret) (hW : wo G w s H locs) {j k0 : Nat} (hj : j < 11 ∧ k0 < bs j) {ci N k index : Nat} {fs : List Value} {C own ref : String} {T : u_T} {v : Int32} (he : ceX G j k0 ((w j).1 k0) ((w j).2 k0) = .inr (ci, fs)) (hcl : vwCl[ci]? = some (C, T, N)) (hin : ∀ w ∈ u_ws C T N, w ∈ wsG) (hk : k < N) (hlink : Cond.fieldLink own index ref (T k).2.1 (T k).2.2.1 ∈ wsG) (hv : fs[k]? = some (.int v)) (ho : own = y.cls) (href : (T k).1 = ref) (hdg : decode cc pc = .ok (.getfield index, 3))
    (kk : ∀ z : Int, z = v.toInt → inR z → W p l e R s m args below meth c H locs cells slots Q (F0 m (pc + 3) ls (.int (iI z) :: rest))) : W p l e R s m args below meth c H locs cells slots Q (F0 m pc ls (.ref (ad G j k0) :: rest)) := by
  obtain ⟨hx, hb, -, -, hts, hown, -⟩ := C0
  subst ho
  refine va_get hx hb hts (fun w hw => wU_in (hin w hw)) hown hW.2.1 hW.1 (bo j + k0) ((WL_get G w hj).trans (by rw [he])) hcl k hk (hts _ (wU_in hlink)) (fun _ h9 => by rw [← href]; exact h9) hv hdg ?_
  have h := kk v.toInt rfl (inR_o v)
  rwa [iI_o] at h
theorem r_gR (C0 : cx p s m args meth c y cc nL ret) (hW : wo G w s H locs) {j k0 : Nat} (hj : j < 11 ∧ k0 < bs j) {ci N k index : Nat} {fs : List Value} {C own ref : String} {T : u_T} {a : Nat} (he : ceX G j k0 ((w j).1 k0) ((w j).2 k0) = .inr (ci, fs)) (hcl : vwCl[ci]? = some (C, T, N)) (hin : ∀ w ∈ u_ws C T N, w ∈ wsG) (hk : k < N) (hlink : Cond.fieldLink own index ref (T k).2.1 (T k).2.2.1 ∈ wsG) (hv : fs[k]? = some (.ref a)) (ho : own = y.cls) (href : (T k).1 = ref) (hdg : decode cc pc = .ok (.getfield index, 3))
    (kk : W p l e R s m args below meth c H locs cells slots Q (F0 m (pc + 3) ls (.ref a :: rest))) : W p l e R s m args below meth c H locs cells slots Q (F0 m pc ls (.ref (ad G j k0) :: rest)) := by
  obtain ⟨hx, hb, -, -, hts, hown, -⟩ := C0
  subst ho
  exact va_get hx hb hts (fun w hw => wU_in (hin w hw)) hown hW.2.1 hW.1 (bo j + k0) ((WL_get G w hj).trans (by rw [he])) hcl k hk (hts _ (wU_in hlink)) (fun _ h9 => by rw [← href]; exact h9) hv hdg kk
theorem wo_set {j k0 : Nat} (hj : j < 11 ∧ k0 < bs j) {A : Int → Int32} {F : Nat → Int32} {e : va_E} {H1 : Heap} {locs1 : List Loc} (hK : va_K G.1 vwCl (tysG G) s) (he : ceX G j k0 A F = e) (hP : va_P G.1 vwCl ((WL G w).set (bo j + k0) (ad G j k0, e)) H1) (hS : va_S (fun q : Nat => G.2.2 ≤ q) s.heap H1 locs1) : wo G (up w j (sC (w j) k0 A F)) s H1 locs1 := by
  subst he
  rw [WL_set G w hj] at hP
  exact ⟨hP, hK, hS⟩
theorem r_pI (C0 : cx p s m args meth c y cc nL ret) (hW : wo G w s H locs) {j k0 : Nat} (hj : j < 11 ∧ k0 < bs j) {ci N k index : Nat} {fs : List Value} {C own ref : String} {T : u_T} {v : Int32} {ty : FieldType} (he : ceX G j k0 ((w j).1 k0) ((w j).2 k0) = .inr (ci, fs)) (hcl : vwCl[ci]? = some (C, T, N)) (hin : ∀ w ∈ u_ws C T N, w ∈ wsG) (ty0 : Nat → FieldType) (hty : ∀ k, k < N → parseFieldDescriptor (T k).2.2.1 = some (ty0 k)) (hnm : ∀ a, a < N → ∀ b, b < N → a ≠ b → (T a).2.1 ≠ (T b).2.1) (hk : k < N) (hlink : Cond.fieldLink own index ref (T k).2.1 (T k).2.2.1 ∈ wsG) (ho : own = y.cls) (href : (T k).1 = ref) (hfin : (T k).2.2.2 = false) (hd : parseFieldDescriptor (T k).2.2.1 = some ty) (hn : narrow ty (.int v) = .int v) (hfit : fits ty (.int v) = true) (hl : k < fs.length)
    (he2 : ceX G j k0 ((w j).1 k0) (fun f' => if f' = k then v else (w j).2 k0 f') = .inr (ci, fs.set k (.int v))) (hdg : decode cc pc = .ok (.putfield index, 3))
    (kk : ∀ (H1 : Heap) (locs1 : List Loc), wo G (up w j (sS (w j) k0 k v)) s H1 locs1 → W p l e R s m args below meth c H1 locs1 cells slots Q (F0 m (pc + 3) ls rest)) : W p l e R s m args below meth c H locs cells slots Q (F0 m pc ls (.int v :: .ref (ad G j k0) :: rest)) := by
  obtain ⟨hx, hb, -, -, hts, hown, -⟩ := C0
  subst ho
  refine va_put hx hb hts (fun w hw => wU_in (hin w hw)) ty0 hty hnm hown hW.2.1 hW.1 (WL_D G w) hW.2.2 (bo j + k0) ((WL_get G w hj).trans (by rw [he])) hcl k hk (hts _ (wU_in hlink)) (fun _ h9 => by rw [← href]; exact h9) hfin hd hn hfit hl hdg (fun H1 locs1 hP _ hS => kk H1 locs1 ?_)
  have h := wo_set hj hW.2.1 he2 hP hS
  rwa [sC_S] at h
theorem r_ild (C0 : cx p s m args meth c y cc nL ret) (hW : wo G w s H locs) {j k0 n : Nat} (hj : j < 11 ∧ k0 < bs j) (he : ceX G j k0 ((w j).1 k0) ((w j).2 k0) = cI G n ((w j).1 k0)) {x : Int} (h0 : 0 ≤ x) (h1 : x < n) (hn : n < 2147483648) (hdg : decode cc pc = .ok (.iaload, 1))
    (kk : ∀ z : Int, z = ((w j).1 k0 x).toInt → inR z → W p l e R s m args below meth c H locs cells slots Q (F0 m (pc + 1) ls (.int (iI z) :: rest))) : W p l e R s m args below meth c H locs cells slots Q (F0 m pc ls (.int (iI x) :: .ref (ad G j k0) :: rest)) := by
  obtain ⟨hx, hb, -⟩ := C0
  refine va_iald hx hb hW.2.1 hW.1 (bo j + k0) 0 (cA := G.2.1.1) (n := n) (f := fun i : Nat => (w j).1 k0 (i : Int)) ((WL_get G w hj).trans (by rw [he]; rfl)) rfl (iI_in h0 h1 hn) hdg ?_
  have h := kk _ rfl (inR_o _)
  rw [iI_o] at h
  show W p l e R s m args below meth c H locs cells slots Q (F0 m (pc + 1) ls (.int ((w j).1 k0 (((iI x).toNatClampNeg : Nat) : Int)) :: rest))
  rw [iI_clamp ⟨by omega, by omega⟩, Int.toNat_of_nonneg h0]
  exact h
theorem r_zld (C0 : cx p s m args meth c y cc nL ret) (hW : wo G w s H locs) {j k0 n : Nat} (hj : j < 11 ∧ k0 < bs j) (he : ceX G j k0 ((w j).1 k0) ((w j).2 k0) = cZ G n ((w j).1 k0)) {x : Int} (h0 : 0 ≤ x) (h1 : x < n) (hn : n < 2147483648) (hdg : decode cc pc = .ok (.baload, 1))
    (kk : ∀ z : Int, z = ((w j).1 k0 x).toInt → inR z → W p l e R s m args below meth c H locs cells slots Q (F0 m (pc + 1) ls (.int (iI z) :: rest))) : W p l e R s m args below meth c H locs cells slots Q (F0 m pc ls (.int (iI x) :: .ref (ad G j k0) :: rest)) := by
  obtain ⟨hx, hb, -⟩ := C0
  refine va_zald hx hb hW.2.1 hW.1 (bo j + k0) 1 (cA := G.2.1.2.1) (n := n) (f := fun i : Nat => (w j).1 k0 (i : Int)) ((WL_get G w hj).trans (by rw [he]; rfl)) rfl (iI_in h0 h1 hn) hdg ?_
  have h := kk _ rfl (inR_o _)
  rw [iI_o] at h
  show W p l e R s m args below meth c H locs cells slots Q (F0 m (pc + 1) ls (.int ((w j).1 k0 (((iI x).toNatClampNeg : Nat) : Int)) :: rest))
  rw [iI_clamp ⟨by omega, by omega⟩, Int.toNat_of_nonneg h0]
  exact h
theorem r_cld (C0 : cx p s m args meth c y cc nL ret) (hW : wo G w s H locs) {j k0 n : Nat} (hj : j < 11 ∧ k0 < bs j) (he : ceX G j k0 ((w j).1 k0) ((w j).2 k0) = cC G n ((w j).1 k0)) {x : Int} (h0 : 0 ≤ x) (h1 : x < n) (hn : n < 2147483648) (hdg : decode cc pc = .ok (.caload, 1))
    (kk : ∀ z : Int, z = ((w j).1 k0 x).toInt → inR z → W p l e R s m args below meth c H locs cells slots Q (F0 m (pc + 1) ls (.int (iI z) :: rest))) : W p l e R s m args below meth c H locs cells slots Q (F0 m pc ls (.int (iI x) :: .ref (ad G j k0) :: rest)) := by
  obtain ⟨hx, hb, -⟩ := C0
  refine va_cald hx hb hW.2.1 hW.1 (bo j + k0) 2 (cA := G.2.1.2.2) (n := n) (f := fun i : Nat => (w j).1 k0 (i : Int)) ((WL_get G w hj).trans (by rw [he]; rfl)) rfl (iI_in h0 h1 hn) hdg ?_
  have h := kk _ rfl (inR_o _)
  rw [iI_o] at h
  show W p l e R s m args below meth c H locs cells slots Q (F0 m (pc + 1) ls (.int ((w j).1 k0 (((iI x).toNatClampNeg : Nat) : Int)) :: rest))
  rw [iI_clamp ⟨by omega, by omega⟩, Int.toNat_of_nonneg h0]
  exact h
theorem r_ist (C0 : cx p s m args meth c y cc nL ret) (hW : wo G w s H locs) {j k0 n : Nat} (hj : j < 11 ∧ k0 < bs j) (he : ∀ A : Int → Int32, ceX G j k0 A ((w j).2 k0) = cI G n A) {x : Int} {v : Int32} (h0 : 0 ≤ x) (h1 : x < n) (hn : n < 2147483648) (hdg : decode cc pc = .ok (.iastore, 1))
    (kk : ∀ (H1 : Heap) (locs1 : List Loc), wo G (up w j (sA (w j) k0 x v)) s H1 locs1 → W p l e R s m args below meth c H1 locs1 cells slots Q (F0 m (pc + 1) ls rest)) : W p l e R s m args below meth c H locs cells slots Q (F0 m pc ls (.int v :: .int (iI x) :: .ref (ad G j k0) :: rest)) := by
  obtain ⟨hx, hb, -⟩ := C0
  refine va_iast hx hb hW.2.1 hW.1 (WL_D G w) hW.2.2 (bo j + k0) 0 (cA := G.2.1.1) (n := n) (f := fun i : Nat => (w j).1 k0 (i : Int)) ((WL_get G w hj).trans (by rw [he]; rfl)) rfl (iI_in h0 h1 hn) hdg (fun H1 locs1 hP _ hS => kk H1 locs1 ?_)
  have h := wo_set hj (A := fun i => if i = x then v else (w j).1 k0 i) (F := (w j).2 k0) hW.2.1 (he _) (by
    refine cast (congrArg (fun f => va_P G.1 vwCl ((WL G w).set (bo j + k0) (ad G j k0, .inl (G.2.1.1, n, .inl f))) H1) ?_) hP
    funext i
    show upd (fun i : Nat => (w j).1 k0 (i : Int)) (iI x).toNatClampNeg _ i = (if (i : Int) = x then v else (w j).1 k0 (i : Int))
    rw [iI_clamp ⟨by omega, by omega⟩]
    simp only [upd]
    by_cases hq : (i : Int) = x
    · rw [if_pos hq, if_pos (by omega)]
    · rw [if_neg hq, if_neg (by omega)]) hS
  rwa [sC_F] at h
theorem r_zst (C0 : cx p s m args meth c y cc nL ret) (hW : wo G w s H locs) {j k0 n : Nat} (hj : j < 11 ∧ k0 < bs j) (he : ∀ A : Int → Int32, ceX G j k0 A ((w j).2 k0) = cZ G n A) {x : Int} {v : Int32} (hv : vp_nar .boolean v = v) (h0 : 0 ≤ x) (h1 : x < n) (hn : n < 2147483648) (hdg : decode cc pc = .ok (.bastore, 1))
    (kk : ∀ (H1 : Heap) (locs1 : List Loc), wo G (up w j (sA (w j) k0 x v)) s H1 locs1 → W p l e R s m args below meth c H1 locs1 cells slots Q (F0 m (pc + 1) ls rest)) : W p l e R s m args below meth c H locs cells slots Q (F0 m pc ls (.int v :: .int (iI x) :: .ref (ad G j k0) :: rest)) := by
  obtain ⟨hx, hb, -⟩ := C0
  refine va_zast hx hb hW.2.1 hW.1 (WL_D G w) hW.2.2 (bo j + k0) 1 (cA := G.2.1.2.1) (n := n) (f := fun i : Nat => (w j).1 k0 (i : Int)) ((WL_get G w hj).trans (by rw [he]; rfl)) rfl (iI_in h0 h1 hn) hdg (fun H1 locs1 hP _ hS => kk H1 locs1 ?_)
  have h := wo_set hj (A := fun i => if i = x then v else (w j).1 k0 i) (F := (w j).2 k0) hW.2.1 (he _) (by
    refine cast (congrArg (fun f => va_P G.1 vwCl ((WL G w).set (bo j + k0) (ad G j k0, .inl (G.2.1.2.1, n, .inl f))) H1) ?_) hP
    funext i
    show upd (fun i : Nat => (w j).1 k0 (i : Int)) (iI x).toNatClampNeg _ i = (if (i : Int) = x then v else (w j).1 k0 (i : Int))
    rw [iI_clamp ⟨by omega, by omega⟩]
    simp only [upd]
    by_cases hq : (i : Int) = x
    · rw [if_pos hq, if_pos (by omega)]; exact hv
    · rw [if_neg hq, if_neg (by omega)]) hS
  rwa [sC_F] at h
theorem r_cst (C0 : cx p s m args meth c y cc nL ret) (hW : wo G w s H locs) {j k0 n : Nat} (hj : j < 11 ∧ k0 < bs j) (he : ∀ A : Int → Int32, ceX G j k0 A ((w j).2 k0) = cC G n A) {x : Int} {v : Int32} (hv : vp_nar .char v = v) (h0 : 0 ≤ x) (h1 : x < n) (hn : n < 2147483648) (hdg : decode cc pc = .ok (.castore, 1))
    (kk : ∀ (H1 : Heap) (locs1 : List Loc), wo G (up w j (sA (w j) k0 x v)) s H1 locs1 → W p l e R s m args below meth c H1 locs1 cells slots Q (F0 m (pc + 1) ls rest)) : W p l e R s m args below meth c H locs cells slots Q (F0 m pc ls (.int v :: .int (iI x) :: .ref (ad G j k0) :: rest)) := by
  obtain ⟨hx, hb, -⟩ := C0
  refine va_cast hx hb hW.2.1 hW.1 (WL_D G w) hW.2.2 (bo j + k0) 2 (cA := G.2.1.2.2) (n := n) (f := fun i : Nat => (w j).1 k0 (i : Int)) ((WL_get G w hj).trans (by rw [he]; rfl)) rfl (iI_in h0 h1 hn) hdg (fun H1 locs1 hP _ hS => kk H1 locs1 ?_)
  have h := wo_set hj (A := fun i => if i = x then v else (w j).1 k0 i) (F := (w j).2 k0) hW.2.1 (he _) (by
    refine cast (congrArg (fun f => va_P G.1 vwCl ((WL G w).set (bo j + k0) (ad G j k0, .inl (G.2.1.2.2, n, .inl f))) H1) ?_) hP
    funext i
    show upd (fun i : Nat => (w j).1 k0 (i : Int)) (iI x).toNatClampNeg _ i = (if (i : Int) = x then v else (w j).1 k0 (i : Int))
    rw [iI_clamp ⟨by omega, by omega⟩]
    simp only [upd]
    by_cases hq : (i : Int) = x
    · rw [if_pos hq, if_pos (by omega)]; exact hv
    · rw [if_neg hq, if_neg (by omega)]) hS
  rwa [sC_F] at h
end RH
