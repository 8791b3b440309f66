theorem kk_L_8 : Cond.constantLong RL 8 3 ∈ wsG := kG 338 (by decide +kernel) (by decide +kernel)
theorem kk_L_10 : Cond.constantLong RL 10 31 ∈ wsG := kG 339 (by decide +kernel) (by decide +kernel)
theorem kk_L_7 : Cond.constant RL 7 2147483647 ∈ wsG := kG 403 (by decide +kernel) (by decide +kernel)
/-! bits of ints that stand for whole numbers -/
def shr (x k : Int) : Int := (iI x >>> (iI k &&& 31)).toInt
def land (x y : Int) : Int := (iI x &&& iI y).toInt
def irm (x y : Int) : Int := (iI x - iI x / iI y * iI y).toInt
def lowF (x n : Int) : Int := irm (land x 2147483647) n
def chv (x : Int) : Int := ((iI x).toUInt32 % 65536).toInt32.toInt
theorem shr_r (x k : Int) : inR (shr x k) := inR_o _
theorem land_r (x k : Int) : inR (land x k) := inR_o _
theorem lowF_r (x k : Int) : inR (lowF x k) := inR_o _
theorem chv_r (x : Int) : inR (chv x) := inR_o _
theorem chv_n (x : Int) : vp_nar .char (iI (chv x)) = iI (chv x) := by
  unfold chv
  rw [iI_o, vp_nar_char]
  have h : ((iI x).toUInt32 % 65536).toNat = (iI x).toUInt32.toNat % 65536 := by
    rw [UInt32.toNat_mod]; rfl
  have e : ((iI x).toUInt32 % 65536).toUInt16.toUInt32 = (iI x).toUInt32 % 65536 := by
    rw [← UInt32.toNat_inj, UInt16.toNat_toUInt32, UInt32.toNat_toUInt16, h]
    omega
  have e2 : ((iI x).toUInt32 % 65536).toInt32.toUInt32 = (iI x).toUInt32 % 65536 := rfl
  rw [e2, e]
theorem chv_s {x : Int} (h0 : 0 ≤ x) (h1 : x < 65536) : chv x = x := by
  have hx : inR x := ⟨by omega, by omega⟩
  unfold chv
  rw [lg_i2c_word (v := iI x) (by rw [iI_t hx]; exact h0) (by rw [iI_t hx]; exact h1), iI_t hx]
theorem land_nn (x : Int) : 0 ≤ land x 2147483647 := by
  unfold land
  have h : (iI x &&& iI 2147483647).toBitVec = (iI x).toBitVec &&& 2147483647#32 := rfl
  show 0 ≤ (iI x &&& iI 2147483647).toBitVec.toInt
  rw [h, BitVec.toInt_eq_toNat_of_msb (by simp only [BitVec.msb_and, Bool.and_eq_false_imp]; intro _; decide), BitVec.toNat_and]
  omega
theorem lowF_in (x : Int) {n : Int} (h0 : 1 ≤ n) (h1 : n < 2147483648) : 0 ≤ lowF x n ∧ lowF x n < n := by
  have rn : inR n := ⟨by omega, by omega⟩
  have rl := land_r x 2147483647
  have ll := land_nn x
  have e : lowF x n = land x 2147483647 % n := by
    show (iI (land x 2147483647) - iI (land x 2147483647) / iI n * iI n).toInt = _
    rw [iI_div rl rn ll (by omega), iI_mul, iI_sub]
    have hq := Int.emod_def (land x 2147483647) n
    rw [show land x 2147483647 - land x 2147483647 / n * n = land x 2147483647 % n by rw [hq, Int.mul_comm]]
    exact iI_t ⟨by have := Int.emod_nonneg (land x 2147483647) (b := n) (by omega); omega, by have := Int.emod_lt_of_pos (land x 2147483647) (b := n) (by omega); omega⟩
  rw [e]
  exact ⟨Int.emod_nonneg _ (by omega), Int.emod_lt_of_pos _ (by omega)⟩
section RB
variable {p : Program} {l : Launch} {e : Env} {R : Room} {s : State} {m : MethodId} {args : Array Value} {below : List Frame} {meth : Method} {c : Code} {H : Heap} {locs : List Loc} {cells slots : Nat} {Q : State → Prop}
variable {cc : ByteArray} {pc : Nat} {ls : Array Slot} {rest : List Value} {G : gG} {w : gW} {y : MethodName} {nL : Nat} {ret : Option FieldType}
theorem r_ishr (hx : p.tables.exec = Jvm.exec) (hb : c.code = cc) {x y : Int} (hdg : decode cc pc = .ok (.ishr, 1)) (k : W p l e R s m args below meth c H locs cells slots Q (F0 m (pc + 1) ls (.int (iI (shr x y)) :: rest))) : W p l e R s m args below meth c H locs cells slots Q (F0 m pc ls (.int (iI y) :: .int (iI x) :: rest)) := lv_ishr hx hb hdg (by unfold shr at k; rw [iI_o] at k; exact k)
theorem r_iand (hx : p.tables.exec = Jvm.exec) (hb : c.code = cc) {x y : Int} (hdg : decode cc pc = .ok (.iand, 1)) (k : W p l e R s m args below meth c H locs cells slots Q (F0 m (pc + 1) ls (.int (iI (land x y)) :: rest))) : W p l e R s m args below meth c H locs cells slots Q (F0 m pc ls (.int (iI y) :: .int (iI x) :: rest)) := lv_iand hx hb hdg (by unfold land at k; rw [iI_o] at k; exact k)
theorem r_irm (hx : p.tables.exec = Jvm.exec) (hb : c.code = cc) {x y : Int} (ry : inR y) (h0 : ¬ y = 0) (hdg : decode cc pc = .ok (.irem, 1)) (k : W p l e R s m args below meth c H locs cells slots Q (F0 m (pc + 1) ls (.int (iI (irm x y)) :: rest))) : W p l e R s m args below meth c H locs cells slots Q (F0 m pc ls (.int (iI y) :: .int (iI x) :: rest)) := lv_irem hx hb hdg (fun q => h0 ((iI_eq ry inR_0).mp q)) (by unfold irm at k; rw [iI_o] at k; exact k)
theorem r_i2c (hx : p.tables.exec = Jvm.exec) (hb : c.code = cc) {x : Int} (hdg : decode cc pc = .ok (.i2c, 1)) (k : W p l e R s m args below meth c H locs cells slots Q (F0 m (pc + 1) ls (.int (iI (chv x)) :: rest))) : W p l e R s m args below meth c H locs cells slots Q (F0 m pc ls (.int (iI x) :: rest)) := lv_i2c hx hb hdg rfl (by unfold chv at k; rw [iI_o] at k; exact k)
end RB
/-! long answers -/
def ql (G : gG) (post : Int64 → gW → Prop) : Array Value → State → Outcome → State → Prop := va_Ql post (fun w' t => va_P G.1 vwCl (WL G w') t.heap) (fun q : Nat => G.2.2 ≤ q)
def mL (l : Launch) (G : gG) (y : MethodName) (ws : List Cond) (rm : Room) (av : List Value) (w : gW) (post : Int64 → gW → Prop) : Prop := Met l y ws rm (va_Pc av (wpre G w)) (ql G post) 0 0 (fun q : Nat => G.2.2 ≤ q)
abbrev QL (G : gG) (post : Int64 → gW → Prop) (below : List Frame) (args : Array Value) (s : State) : State → Prop := MQ below (ql G post) args s 0 0 (fun q : Nat => G.2.2 ≤ q)
theorem mL_of {l : Launch} {G : gG} {y : MethodName} {cc : ByteArray} {n : Nat} {ret : Option FieldType} {d k : Nat} {av : List Value} {w : gW} {post : Int64 → gW → Prop} (hy : plainName y.cls = true) (hn : (lg_sl av).length ≤ n)
    (body : ∀ (p : Program) (e : Env) (s : State) (m : MethodId) (args : Array Value) (below : List Frame) (meth : Method) (c : Code) (ls : Array Slot), cx p s m args meth c y cc n ret → wo G w s s.heap [] → lv_has ls n (lv_args 0 av) → W p l e (rmL d k) s m args below meth c s.heap [] 0 0 (QL G post below args s) (F0 m 0 ls [])) : mL l G y (wU y cc n ret) (rmL d k) av w post := by
  refine Met.ofW (cc := cc) (maxL := n) (ret := ret) hy rfl ?_
  intro p e s m args below meth c s₁ B hml hv
  obtain ⟨rfl, hP, hK, hN⟩ := hv
  rw [lg_entry_eq]
  exact body p e s m _ below meth c _ ⟨B.exec, B.bytes, B.returns, hml, atoms_spec (ws := wU y cc n ret) B.pre, findClass_of_methodNamed B.named, B.notSynchronized, hN⟩ ⟨hP, hK, va_S.rf⟩ (lv_entry av hn)
/-! the script beside the world -/
def xpre (G : gG) (w : gW) (b L : Nat) (xs : Nat → Int32) (U : State) : Prop := wpre G w U ∧ va_X b L xs U U.heap ∧ b < G.2.2
def mX (l : Launch) (G : gG) (b L : Nat) (xs : Nat → Int32) (y : MethodName) (ws : List Cond) (rm : Room) (av : List Value) (w : gW) (post : Int → gW → Prop) : Prop := Met l y ws rm (va_Pc av (xpre G w b L xs)) (qi G post) 0 0 (fun q : Nat => G.2.2 ≤ q)
theorem va_X.lt {b L : Nat} {xs : Nat → Int32} {U : State} {H : Heap} (h : va_X b L xs U H) : b < H.size := by
  obtain ⟨scr, h1, -⟩ := h
  exact (Array.getElem?_eq_some_iff.mp h1).1
theorem mX_of {l : Launch} {G : gG} {b L : Nat} {xs : Nat → Int32} {y : MethodName} {cc : ByteArray} {n : Nat} {ret : Option FieldType} {d k : Nat} {av : List Value} {w : gW} {post : Int → gW → Prop} (hy : plainName y.cls = true) (hn : (lg_sl av).length ≤ n)
    (body : ∀ (p : Program) (e : Env) (s : State) (m : MethodId) (args : Array Value) (below : List Frame) (meth : Method) (c : Code) (ls : Array Slot), cx p s m args meth c y cc n ret → va_X b L xs s s.heap → b < G.2.2 → wo G w s s.heap [] → lv_has ls n (lv_args 0 av) → W p l e (rmL d k) s m args below meth c s.heap [] 0 0 (QI G post below args s) (F0 m 0 ls [])) : mX l G b L xs y (wU y cc n ret) (rmL d k) av w post := by
  refine Met.ofW (cc := cc) (maxL := n) (ret := ret) hy rfl ?_
  intro p e s m args below meth c s₁ B hml hv
  obtain ⟨rfl, ⟨hP, hK, hN⟩, hX, hb⟩ := hv
  rw [lg_entry_eq]
  exact body p e s m _ below meth c _ ⟨B.exec, B.bytes, B.returns, hml, atoms_spec (ws := wU y cc n ret) B.pre, findClass_of_methodNamed B.named, B.notSynchronized, hN⟩ hX hb ⟨hP, hK, va_S.rf⟩ (lv_entry av hn)
theorem xpre_blind {G : gG} {w : gW} {b L : Nat} {xs : Nat → Int32} (av : List Value) : FrameBlind (va_Pc av (xpre G w b L xs)) := fun a U g mk q => by
  obtain ⟨q0, ⟨qP, qK, qN⟩, qX, qb⟩ := q
  exact ⟨q0, ⟨qP, va_K.moved (u := U) (U := U.calling g mk a) (Vm.Alike.refl U.vm) qK, nst_same rfl qN⟩, va_X.moved (u := U) (U := U.calling g mk a) (Vm.Alike.refl U.vm) qX, qb⟩
theorem xpre_at {G : gG} {w : gW} {b L : Nat} {xs : Nat → Int32} {s : State} {H : Heap} {locs : List Loc} (av : List Value) (hW : wo G w s H locs) (hN : nst s) (hX : va_X b L xs s s.heap) (hb : b < G.2.2) : ∀ U : State, U.heap = H → s.WarmedH U.vm → va_Pc av (xpre G w b L xs) av.toArray U := fun U hU hWm => ⟨rfl, ⟨by rw [hU]; exact hW.1, va_K.moved hWm.alike hW.2.1, nst_warm hWm hN⟩, by rw [hU]; exact va_X.moved hWm.alike (hX.kept (hW.2.2.2.1 b hX.lt (by show ¬ G.2.2 ≤ b; omega))), hb⟩
section LK
variable {p : Program} {l : Launch} {e : Env} {R : Room} {s : State} {m : MethodId} {args : Array Value} {below : List Frame} {meth : Method} {c : Code} {H : Heap} {locs : List Loc} {cells slots : Nat} {Q : State → Prop}
variable {cc : ByteArray} {pc : Nat} {ls : Array Slot} {rest : List Value} {G : gG} {w : gW} {y : MethodName} {nL : Nat} {ret0 : Option FieldType}
theorem r_lret (C0 : cx p s m args meth c y cc nL (some .long)) (hW : wo G w s H locs) {post : Int64 → gW → Prop} {z : Int64} (hp : post z w) (hdg : decode cc pc = .ok (.lreturn, 1)) : W p l e R s m args below meth c H locs 0 0 (QL G post below args s) (F0 m pc ls [.long z]) := by
  obtain ⟨hx, hb, hr, -, -, -, hlk, -⟩ := C0
  exact W.lret hx hb hr (fun t ht _ => ⟨⟨z, w, rfl, hp, by show va_P G.1 vwCl (WL G w) t.heap; rw [ht]; exact hW.1⟩, hW.2.2.F ht⟩) hW.2.2.2.2 hdg hlk
theorem k_VL (C0 : cx p s m args meth c y cc nL ret0) (hW : wo G w s H locs) {y1 : MethodName} {cc1 : ByteArray} {n1 d1 k1 index n j k0 ci N : Nat} {ret1 : Option FieldType} {own C : String} {T : u_T} {fs : List Value} {As st0 : List Value} {post : Int → gW → Prop} (hM : mI l G y1 (wU y1 cc1 n1 ret1) (rmL d1 k1) (.ref (ad G j k0) :: As) w post)
    (h1 : Cond.methodLink own index y1 ∈ wsG) (h2 : Cond.instanceMethod y1 ∈ wsG) (h3 : Cond.selects C y1 y1 ∈ wsG) (h4 : Cond.initialized C ∈ wsG) (h5 : Cond.code y1 cc1 n1 ret1 ∈ wsG) (ho : own = y.cls)
    (hd : y1.cls = C ∧ y1.cls ≠ "java/lang/invoke/MethodHandle" ∧ y1.cls ≠ "java/lang/invoke/VarHandle" ∧ (parseMethodDescriptor y1.desc).map (fun d => d.parameters.length) = some n) (hR : d1 + 1 ≤ R.frames ∧ 8 + (n1 + 11) + k1 ≤ R.locals)
    (hj : j < 11 ∧ k0 < bs j) (he : ceX G j k0 ((w j).1 k0) ((w j).2 k0) = .inr (ci, fs)) (hcl : vwCl[ci]? = some (C, T, N)) (hn : As.length = n) (hsz : ls.size = nL) (hst : st0 = As.reverse ++ .ref (ad G j k0) :: rest) (hr : (rest.map fun v => v.category).sum ≤ 8) (hf : cells ≤ R.cells ∧ slots ≤ R.slots) (hdg : decode cc pc = .ok (.invokevirtual index, 3))
    (kk : ∀ (z : Int) (w1 : gW) (H1 : Heap) (locs1 : List Loc), inR z → post z w1 → wo G w1 s H1 locs1 → W p l e R s m args below meth c H1 locs1 cells slots Q (F0 m (pc + 3) ls (.int (iI z) :: rest))) : W p l e R s m args below meth c H locs cells slots Q (F0 m pc ls st0) := by
  subst ho
  have hWL := WL_get G w hj
  rw [he] at hWL
  have hr := va_runV (H := H) (locs := locs) (cells := cells) (slots := slots) (e := e) (meth := meth) (below := below) (R := R) (As := As) (rest := rest) (g := F0 m pc ls st0) C0.fix hM (cwV n C0.fix.2.2.2.2 (gV (fun _ h => wU_in h) h1 h2 h3 h4 h5) rfl rfl rfl hd hR) ⟨wpre_blind _, va_recv hW.2.1 hW.1 hcl hWL, fun U hU hWm => wpre_at _ hW C0.nst U hU hWm⟩ rfl hn hsz hst (lv_room hr) hdg hf
  refine va_calli hr hW.2.2 (fun q _ h => h) (fun q h => h) (fun r u t H1 locs1 ht hvm hw hB hz1 hk1 hS => ?_)
  obtain ⟨z, hz, rfl, hp⟩ := hw
  exact kk z u H1 locs1 hz hp ⟨by rw [← ht]; exact hB, hW.2.1, hS⟩
theorem k_SL (C0 : cx p s m args meth c y cc nL ret0) (hW : wo G w s H locs) {y1 : MethodName} {cc1 : ByteArray} {n1 d1 k1 index n : Nat} {ret1 : Option FieldType} {own : String} {As st0 : List Value} {post : Int → gW → Prop} (hM : mI l G y1 (wU y1 cc1 n1 ret1) (rmL d1 k1) As w post)
    (h1 : Cond.methodLink own index y1 ∈ wsG) (h2 : Cond.static y1 ∈ wsG) (h4 : Cond.initialized y1.cls ∈ wsG) (h5 : Cond.code y1 cc1 n1 ret1 ∈ wsG) (ho : own = y.cls)
    (hd : y1.cls ≠ "java/lang/invoke/MethodHandle" ∧ y1.cls ≠ "java/lang/invoke/VarHandle" ∧ (parseMethodDescriptor y1.desc).map (fun d => d.parameters.length) = some n) (hR : d1 + 1 ≤ R.frames ∧ 8 + (n1 + 11) + k1 ≤ R.locals)
    (hn : As.length = n) (hsz : ls.size = nL) (hst : st0 = As.reverse ++ rest) (hr : (rest.map fun v => v.category).sum ≤ 8) (hf : cells ≤ R.cells ∧ slots ≤ R.slots) (hdg : decode cc pc = .ok (.invokestatic index, 3))
    (kk : ∀ (z : Int) (w1 : gW) (H1 : Heap) (locs1 : List Loc), inR z → post z w1 → wo G w1 s H1 locs1 → W p l e R s m args below meth c H1 locs1 cells slots Q (F0 m (pc + 3) ls (.int (iI z) :: rest))) : W p l e R s m args below meth c H locs cells slots Q (F0 m pc ls st0) := by
  subst ho
  have hr := va_runS (H := H) (locs := locs) (cells := cells) (slots := slots) (e := e) (meth := meth) (below := below) (R := R) (As := As) (rest := rest) (g := F0 m pc ls st0) C0.fix hM (va_cwS n C0.fix.2.2.2.2 (gS (fun _ h => wU_in h) h1 h2 h4 h5) rfl rfl rfl hd hR) ⟨wpre_blind _, fun U hU hWm => wpre_at _ hW C0.nst U hU hWm⟩ rfl hn hsz hst (lv_room hr) hdg hf
  refine va_calli hr hW.2.2 (fun q _ h => h) (fun q h => h) (fun r u t H1 locs1 ht hvm hw hB hz1 hk1 hS => ?_)
  obtain ⟨z, hz, rfl, hp⟩ := hw
  exact kk z u H1 locs1 hz hp ⟨by rw [← ht]; exact hB, hW.2.1, hS⟩
theorem k_SX (C0 : cx p s m args meth c y cc nL ret0) (hW : wo G w s H locs) {b L : Nat} {xs : Nat → Int32} (hX : va_X b L xs s s.heap) (hbG : b < G.2.2) {y1 : MethodName} {cc1 : ByteArray} {n1 d1 k1 index n : Nat} {ret1 : Option FieldType} {own : String} {As st0 : List Value} {post : Int → gW → Prop} (hM : mX l G b L xs y1 (wU y1 cc1 n1 ret1) (rmL d1 k1) As w post)
    (h1 : Cond.methodLink own index y1 ∈ wsG) (h2 : Cond.static y1 ∈ wsG) (h4 : Cond.initialized y1.cls ∈ wsG) (h5 : Cond.code y1 cc1 n1 ret1 ∈ wsG) (ho : own = y.cls)
    (hd : y1.cls ≠ "java/lang/invoke/MethodHandle" ∧ y1.cls ≠ "java/lang/invoke/VarHandle" ∧ (parseMethodDescriptor y1.desc).map (fun d => d.parameters.length) = some n) (hR : d1 + 1 ≤ R.frames ∧ 8 + (n1 + 11) + k1 ≤ R.locals)
    (hn : As.length = n) (hsz : ls.size = nL) (hst : st0 = As.reverse ++ rest) (hr : (rest.map fun v => v.category).sum ≤ 8) (hf : cells ≤ R.cells ∧ slots ≤ R.slots) (hdg : decode cc pc = .ok (.invokestatic index, 3))
    (kk : ∀ (z : Int) (w1 : gW) (H1 : Heap) (locs1 : List Loc), inR z → post z w1 → wo G w1 s H1 locs1 → W p l e R s m args below meth c H1 locs1 cells slots Q (F0 m (pc + 3) ls (.int (iI z) :: rest))) : W p l e R s m args below meth c H locs cells slots Q (F0 m pc ls st0) := by
  subst ho
  have hr := va_runS (H := H) (locs := locs) (cells := cells) (slots := slots) (e := e) (meth := meth) (below := below) (R := R) (As := As) (rest := rest) (g := F0 m pc ls st0) C0.fix hM (va_cwS n C0.fix.2.2.2.2 (gS (fun _ h => wU_in h) h1 h2 h4 h5) rfl rfl rfl hd hR) ⟨xpre_blind _, fun U hU hWm => xpre_at _ hW C0.nst hX hbG U hU hWm⟩ rfl hn hsz hst (lv_room hr) hdg hf
  refine va_calli hr hW.2.2 (fun q _ h => h) (fun q h => h) (fun r u t H1 locs1 ht hvm hw hB hz1 hk1 hS => ?_)
  obtain ⟨z, hz, rfl, hp⟩ := hw
  exact kk z u H1 locs1 hz hp ⟨by rw [← ht]; exact hB, hW.2.1, hS⟩
theorem k_SLl (C0 : cx p s m args meth c y cc nL ret0) (hW : wo G w s H locs) {y1 : MethodName} {cc1 : ByteArray} {n1 d1 k1 index n : Nat} {ret1 : Option FieldType} {own : String} {As st0 : List Value} {post : Int64 → gW → Prop} (hM : mL l G y1 (wU y1 cc1 n1 ret1) (rmL d1 k1) As w post)
    (h1 : Cond.methodLink own index y1 ∈ wsG) (h2 : Cond.static y1 ∈ wsG) (h4 : Cond.initialized y1.cls ∈ wsG) (h5 : Cond.code y1 cc1 n1 ret1 ∈ wsG) (ho : own = y.cls)
    (hd : y1.cls ≠ "java/lang/invoke/MethodHandle" ∧ y1.cls ≠ "java/lang/invoke/VarHandle" ∧ (parseMethodDescriptor y1.desc).map (fun d => d.parameters.length) = some n) (hR : d1 + 1 ≤ R.frames ∧ 8 + (n1 + 11) + k1 ≤ R.locals)
    (hn : As.length = n) (hsz : ls.size = nL) (hst : st0 = As.reverse ++ rest) (hr : (rest.map fun v => v.category).sum ≤ 8) (hf : cells ≤ R.cells ∧ slots ≤ R.slots) (hdg : decode cc pc = .ok (.invokestatic index, 3))
    (kk : ∀ (z : Int64) (w1 : gW) (H1 : Heap) (locs1 : List Loc), post z w1 → wo G w1 s H1 locs1 → W p l e R s m args below meth c H1 locs1 cells slots Q (F0 m (pc + 3) ls (.long z :: rest))) : W p l e R s m args below meth c H locs cells slots Q (F0 m pc ls st0) := by
  subst ho
  have hr := va_runS (H := H) (locs := locs) (cells := cells) (slots := slots) (e := e) (meth := meth) (below := below) (R := R) (As := As) (rest := rest) (g := F0 m pc ls st0) C0.fix hM (va_cwS n C0.fix.2.2.2.2 (gS (fun _ h => wU_in h) h1 h2 h4 h5) rfl rfl rfl hd hR) ⟨wpre_blind _, fun U hU hWm => wpre_at _ hW C0.nst U hU hWm⟩ rfl hn hsz hst (lv_room hr) hdg hf
  refine va_calll hr hW.2.2 (fun q _ h => h) (fun q h => h) (fun r u t H1 locs1 ht hvm hw hB hz1 hk1 hS => ?_)
  exact kk r u H1 locs1 hw ⟨by rw [← ht]; exact hB, hW.2.1, hS⟩
end LK
