section RC
variable {p : Program} {l : Launch} {e : Env} {R : Room} {s : State} {m : MethodId} {args : Array Value} {below : List Frame} {meth : Method} {c : Code} {H : Heap} {locs : List Loc} {Q : State → Prop}
variable {cc : ByteArray} {pc : Nat} {ls : Array Slot} {rest : List Value} {G : gG} {w : gW} {y : MethodName} {nL : Nat} {ret : Option FieldType}
theorem r_iret (C0 : cx p s m args meth c y cc nL (some .int)) (hW : wo G w s H locs) {post : Int → gW → Prop} {z : Int} (hz : inR z) (hp : post z w) (hdg : decode cc pc = .ok (.ireturn, 1)) : W p l e R s m args below meth c H locs 0 0 (QI G post below args s) (F0 m pc ls [.int (iI z)]) := by
  obtain ⟨hx, hb, hr, -, -, -, hlk, -⟩ := C0
  exact W.iret hx hb hr (fun t ht _ => ⟨⟨iI z, w, rfl, ⟨z, hz, rfl, hp⟩, by show va_P G.1 vwCl (WL G w) t.heap; rw [ht]; exact hW.1⟩, hW.2.2.F ht⟩) hW.2.2.2.2 hdg hlk
theorem iI_bool {z : Int} (hz : z = 0 ∨ z = 1) : narrow .boolean (.int (iI z)) = .int (iI z) := by
  rcases hz with rfl | rfl <;> rfl
theorem r_zret (C0 : cx p s m args meth c y cc nL (some .boolean)) (hW : wo G w s H locs) {post : Int → gW → Prop} {z : Int} (hz : z = 0 ∨ z = 1) (hp : post z w) (hdg : decode cc pc = .ok (.ireturn, 1)) : W p l e R s m args below meth c H locs 0 0 (QI G post below args s) (F0 m pc ls [.int (iI z)]) := by
  obtain ⟨hx, hb, hr, -, -, -, hlk, -⟩ := C0
  exact W.zret hx hb hr (iI_bool hz) (fun t ht _ => ⟨⟨iI z, w, rfl, ⟨z, by rcases hz with rfl | rfl <;> exact ⟨by omega, by omega⟩, rfl, hp⟩, by show va_P G.1 vwCl (WL G w) t.heap; rw [ht]; exact hW.1⟩, hW.2.2.F ht⟩) hW.2.2.2.2 hdg hlk
theorem r_vret (C0 : cx p s m args meth c y cc nL none) (hW : wo G w s H locs) {post : gW → Prop} (hp : post w) (hdg : decode cc pc = .ok (.return_, 1)) : W p l e R s m args below meth c H locs 0 0 (QV G post below args s) (F0 m pc ls []) := by
  obtain ⟨hx, hb, hr, -, -, -, hlk, -⟩ := C0
  exact W.vret hx hb hr (fun t ht _ => ⟨⟨w, rfl, hp, by show va_P G.1 vwCl (WL G w) t.heap; rw [ht]; exact hW.1⟩, hW.2.2.F ht⟩) hW.2.2.2.2 hdg hlk
theorem cx.fix (C0 : cx p s m args meth c y cc nL ret) : CallFix p m c cc nL s args (wU y cc nL ret) y.cls := ⟨C0.1, C0.2.1, C0.2.2.2.1, C0.2.2.2.2.2.1, C0.2.2.2.2.1⟩
theorem cx.hx (C0 : cx p s m args meth c y cc nL ret) : p.tables.exec = Jvm.exec := C0.1
theorem cx.hb (C0 : cx p s m args meth c y cc nL ret) : c.code = cc := C0.2.1
theorem cx.ml (C0 : cx p s m args meth c y cc nL ret) : c.maxLocals = nL := C0.2.2.2.1
theorem cx.nst (C0 : cx p s m args meth c y cc nL ret) : nst s := C0.2.2.2.2.2.2.2
theorem k_Vi (C0 : cx p s m args meth c y cc nL ret) (hW : wo G w s H locs) {y1 : MethodName} {cc1 : ByteArray} {n1 d1 k1 index n j k0 ci N : Nat} {ret1 : Option FieldType} {own C : String} {T : u_T} {fs : List Value} {As st0 : List Value} {post : Int → gW → Prop} (hM : mI l G y1 (wU y1 cc1 n1 ret1) (rmL d1 k1) (.ref (ad G j k0) :: As) w post)
    (h1 : Cond.methodLink own index y1 ∈ wsG) (h2 : Cond.instanceMethod y1 ∈ wsG) (h3 : Cond.selects C y1 y1 ∈ wsG) (h4 : Cond.initialized C ∈ wsG) (h5 : Cond.code y1 cc1 n1 ret1 ∈ wsG) (ho : own = y.cls)
    (hd : y1.cls = C ∧ y1.cls ≠ "java/lang/invoke/MethodHandle" ∧ y1.cls ≠ "java/lang/invoke/VarHandle" ∧ (parseMethodDescriptor y1.desc).map (fun d => d.parameters.length) = some n) (hR : d1 + 1 ≤ R.frames ∧ 8 + (n1 + 11) + k1 ≤ R.locals)
    (hj : j < 11 ∧ k0 < bs j) (he : ceX G j k0 ((w j).1 k0) ((w j).2 k0) = .inr (ci, fs)) (hcl : vwCl[ci]? = some (C, T, N)) (hn : As.length = n) (hsz : ls.size = nL) (hst : st0 = As.reverse ++ .ref (ad G j k0) :: rest) (hr : (rest.map fun v => v.category).sum ≤ 8) (hdg : decode cc pc = .ok (.invokevirtual index, 3))
    (kk : ∀ (z : Int) (w1 : gW) (H1 : Heap) (locs1 : List Loc), inR z → post z w1 → wo G w1 s H1 locs1 → W p l e R s m args below meth c H1 locs1 0 0 Q (F0 m (pc + 3) ls (.int (iI z) :: rest))) : W p l e R s m args below meth c H locs 0 0 Q (F0 m pc ls st0) := by
  subst ho
  have hWL := WL_get G w hj
  rw [he] at hWL
  have hr := va_runV (H := H) (locs := locs) (cells := 0) (slots := 0) (e := e) (meth := meth) (below := below) (R := R) (As := As) (rest := rest) (g := F0 m pc ls st0) C0.fix hM (cwV n C0.fix.2.2.2.2 (gV (fun _ h => wU_in h) h1 h2 h3 h4 h5) rfl rfl rfl hd hR) ⟨wpre_blind _, va_recv hW.2.1 hW.1 hcl hWL, fun U hU hWm => wpre_at _ hW C0.nst U hU hWm⟩ rfl hn hsz hst (lv_room hr) hdg ⟨Nat.zero_le _, Nat.zero_le _⟩
  refine va_calli hr hW.2.2 (fun q _ h => h) (fun q h => h) (fun r u t H1 locs1 ht hvm hw hB hz1 hk1 hS => ?_)
  obtain ⟨z, hz, rfl, hp⟩ := hw
  exact kk z u H1 locs1 hz hp ⟨by rw [← ht]; exact hB, hW.2.1, hS⟩
theorem k_Vv (C0 : cx p s m args meth c y cc nL ret) (hW : wo G w s H locs) {y1 : MethodName} {cc1 : ByteArray} {n1 d1 k1 index n j k0 ci N : Nat} {ret1 : Option FieldType} {own C : String} {T : u_T} {fs : List Value} {As st0 : List Value} {post : gW → Prop} (hM : mV l G y1 (wU y1 cc1 n1 ret1) (rmL d1 k1) (.ref (ad G j k0) :: As) w post)
    (h1 : Cond.methodLink own index y1 ∈ wsG) (h2 : Cond.instanceMethod y1 ∈ wsG) (h3 : Cond.selects C y1 y1 ∈ wsG) (h4 : Cond.initialized C ∈ wsG) (h5 : Cond.code y1 cc1 n1 ret1 ∈ wsG) (ho : own = y.cls)
    (hd : y1.cls = C ∧ y1.cls ≠ "java/lang/invoke/MethodHandle" ∧ y1.cls ≠ "java/lang/invoke/VarHandle" ∧ (parseMethodDescriptor y1.desc).map (fun d => d.parameters.length) = some n) (hR : d1 + 1 ≤ R.frames ∧ 8 + (n1 + 11) + k1 ≤ R.locals)
    (hj : j < 11 ∧ k0 < bs j) (he : ceX G j k0 ((w j).1 k0) ((w j).2 k0) = .inr (ci, fs)) (hcl : vwCl[ci]? = some (C, T, N)) (hn : As.length = n) (hsz : ls.size = nL) (hst : st0 = As.reverse ++ .ref (ad G j k0) :: rest) (hr : (rest.map fun v => v.category).sum ≤ 8) (hdg : decode cc pc = .ok (.invokevirtual index, 3))
    (kk : ∀ (w1 : gW) (H1 : Heap) (locs1 : List Loc), post w1 → wo G w1 s H1 locs1 → W p l e R s m args below meth c H1 locs1 0 0 Q (F0 m (pc + 3) ls rest)) : W p l e R s m args below meth c H locs 0 0 Q (F0 m pc ls st0) := by
  subst ho
  have hWL := WL_get G w hj
  rw [he] at hWL
  have hr := va_runV (H := H) (locs := locs) (cells := 0) (slots := 0) (e := e) (meth := meth) (below := below) (R := R) (As := As) (rest := rest) (g := F0 m pc ls st0) C0.fix hM (cwV n C0.fix.2.2.2.2 (gV (fun _ h => wU_in h) h1 h2 h3 h4 h5) rfl rfl rfl hd hR) ⟨wpre_blind _, va_recv hW.2.1 hW.1 hcl hWL, fun U hU hWm => wpre_at _ hW C0.nst U hU hWm⟩ rfl hn hsz hst (lv_room hr) hdg ⟨Nat.zero_le _, Nat.zero_le _⟩
  refine va_callv hr hW.2.2 (fun q _ h => h) (fun q h => h) (fun u t H1 locs1 ht hvm hp hB hz1 hk1 hS => ?_)
  exact kk u H1 locs1 hp ⟨by rw [← ht]; exact hB, hW.2.1, hS⟩
theorem k_Si (C0 : cx p s m args meth c y cc nL ret) (hW : wo G w s H locs) {y1 : MethodName} {cc1 : ByteArray} {n1 d1 k1 index n : Nat} {ret1 : Option FieldType} {own host : String} {As st0 : List Value} {post : Int → gW → Prop} (hM : mI l G y1 (wU y1 cc1 n1 ret1) (rmL d1 k1) As w post)
    (h1 : Cond.methodLink own index y1 ∈ wsG) (h2 : Cond.static y1 ∈ wsG) (h4 : Cond.initialized y1.cls ∈ wsG) (h5 : Cond.code y1 cc1 n1 ret1 ∈ wsG) (ho : own = y.cls)
    (hd : y1.cls ≠ "java/lang/invoke/MethodHandle" ∧ y1.cls ≠ "java/lang/invoke/VarHandle" ∧ (parseMethodDescriptor y1.desc).map (fun d => d.parameters.length) = some n) (hR : d1 + 1 ≤ R.frames ∧ 8 + (n1 + 11) + k1 ≤ R.locals)
    (hn : As.length = n) (hsz : ls.size = nL) (hst : st0 = As.reverse ++ rest) (hr : (rest.map fun v => v.category).sum ≤ 8) (hdg : decode cc pc = .ok (.invokestatic index, 3))
    (kk : ∀ (z : Int) (w1 : gW) (H1 : Heap) (locs1 : List Loc), inR z → post z w1 → wo G w1 s H1 locs1 → W p l e R s m args below meth c H1 locs1 0 0 Q (F0 m (pc + 3) ls (.int (iI z) :: rest))) : W p l e R s m args below meth c H locs 0 0 Q (F0 m pc ls st0) := by
  subst ho
  have hr := va_runS (H := H) (locs := locs) (cells := 0) (slots := 0) (e := e) (meth := meth) (below := below) (R := R) (As := As) (rest := rest) (g := F0 m pc ls st0) C0.fix hM (va_cwS n C0.fix.2.2.2.2 (gS (fun _ h => wU_in h) h1 h2 h4 h5) rfl rfl rfl hd hR) ⟨wpre_blind _, fun U hU hWm => wpre_at _ hW C0.nst U hU hWm⟩ rfl hn hsz hst (lv_room hr) hdg ⟨Nat.zero_le _, Nat.zero_le _⟩
  refine va_calli hr hW.2.2 (fun q _ h => h) (fun q h => h) (fun r u t H1 locs1 ht hvm hw hB hz1 hk1 hS => ?_)
  obtain ⟨z, hz, rfl, hp⟩ := hw
  exact kk z u H1 locs1 hz hp ⟨by rw [← ht]; exact hB, hW.2.1, hS⟩
theorem k_Sv (C0 : cx p s m args meth c y cc nL ret) (hW : wo G w s H locs) {y1 : MethodName} {cc1 : ByteArray} {n1 d1 k1 index n : Nat} {ret1 : Option FieldType} {own host : String} {As st0 : List Value} {post : gW → Prop} (hM : mV l G y1 (wU y1 cc1 n1 ret1) (rmL d1 k1) As w post)
    (h1 : Cond.methodLink own index y1 ∈ wsG) (h2 : Cond.static y1 ∈ wsG) (h4 : Cond.initialized y1.cls ∈ wsG) (h5 : Cond.code y1 cc1 n1 ret1 ∈ wsG) (ho : own = y.cls)
    (hd : y1.cls ≠ "java/lang/invoke/MethodHandle" ∧ y1.cls ≠ "java/lang/invoke/VarHandle" ∧ (parseMethodDescriptor y1.desc).map (fun d => d.parameters.length) = some n) (hR : d1 + 1 ≤ R.frames ∧ 8 + (n1 + 11) + k1 ≤ R.locals)
    (hn : As.length = n) (hsz : ls.size = nL) (hst : st0 = As.reverse ++ rest) (hr : (rest.map fun v => v.category).sum ≤ 8) (hdg : decode cc pc = .ok (.invokestatic index, 3))
    (kk : ∀ (w1 : gW) (H1 : Heap) (locs1 : List Loc), post w1 → wo G w1 s H1 locs1 → W p l e R s m args below meth c H1 locs1 0 0 Q (F0 m (pc + 3) ls rest)) : W p l e R s m args below meth c H locs 0 0 Q (F0 m pc ls st0) := by
  subst ho
  have hr := va_runS (H := H) (locs := locs) (cells := 0) (slots := 0) (e := e) (meth := meth) (below := below) (R := R) (As := As) (rest := rest) (g := F0 m pc ls st0) C0.fix hM (va_cwS n C0.fix.2.2.2.2 (gS (fun _ h => wU_in h) h1 h2 h4 h5) rfl rfl rfl hd hR) ⟨wpre_blind _, fun U hU hWm => wpre_at _ hW C0.nst U hU hWm⟩ rfl hn hsz hst (lv_room hr) hdg ⟨Nat.zero_le _, Nat.zero_le _⟩
  refine va_callv hr hW.2.2 (fun q _ h => h) (fun q h => h) (fun u t H1 locs1 ht hvm hp hB hz1 hk1 hS => ?_)
  exact kk u H1 locs1 hp ⟨by rw [← ht]; exact hB, hW.2.1, hS⟩
theorem k_Ni (C0 : cx p s m args meth c y cc nL ret) (hW : wo G w s H locs) {y1 : MethodName} {cc1 : ByteArray} {n1 d1 k1 index n : Nat} {ret1 : Option FieldType} {own host : String} {As st0 : List Value} {post : Int → gW → Prop} (hM : mI l G y1 (wU y1 cc1 n1 ret1) (rmL d1 k1) As w post)
    (h1 : va_Nw (.methodLinkNest y.cls index y1 host) s) (h2 : Cond.static y1 ∈ wsG) (h4 : Cond.initialized y1.cls ∈ wsG) (h5 : Cond.code y1 cc1 n1 ret1 ∈ wsG) 
    (hd : y1.cls ≠ "java/lang/invoke/MethodHandle" ∧ y1.cls ≠ "java/lang/invoke/VarHandle" ∧ (parseMethodDescriptor y1.desc).map (fun d => d.parameters.length) = some n) (hR : d1 + 1 ≤ R.frames ∧ 8 + (n1 + 11) + k1 ≤ R.locals)
    (hn : As.length = n) (hsz : ls.size = nL) (hst : st0 = As.reverse ++ rest) (hr : (rest.map fun v => v.category).sum ≤ 8) (hdg : decode cc pc = .ok (.invokestatic index, 3))
    (kk : ∀ (z : Int) (w1 : gW) (H1 : Heap) (locs1 : List Loc), inR z → post z w1 → wo G w1 s H1 locs1 → W p l e R s m args below meth c H1 locs1 0 0 Q (F0 m (pc + 3) ls (.int (iI z) :: rest))) : W p l e R s m args below meth c H locs 0 0 Q (F0 m pc ls st0) := by
  have hr := va_runSN (H := H) (locs := locs) (cells := 0) (slots := 0) (e := e) (meth := meth) (below := below) (R := R) (As := As) (rest := rest) (g := F0 m pc ls st0) C0.fix hM ⟨va_cnB n C0.fix.2.2.2.2 (gU (fun _ h => wU_in h) h5) rfl rfl rfl h1 (C0.w h4) hd hR, C0.w h2, trivial⟩ ⟨wpre_blind _, fun U hU hWm => wpre_at _ hW C0.nst U hU hWm⟩ rfl hn hsz hst (lv_room hr) hdg ⟨Nat.zero_le _, Nat.zero_le _⟩
  refine va_calli hr hW.2.2 (fun q _ h => h) (fun q h => h) (fun r u t H1 locs1 ht hvm hw hB hz1 hk1 hS => ?_)
  obtain ⟨z, hz, rfl, hp⟩ := hw
  exact kk z u H1 locs1 hz hp ⟨by rw [← ht]; exact hB, hW.2.1, hS⟩
theorem k_Nv (C0 : cx p s m args meth c y cc nL ret) (hW : wo G w s H locs) {y1 : MethodName} {cc1 : ByteArray} {n1 d1 k1 index n : Nat} {ret1 : Option FieldType} {own host : String} {As st0 : List Value} {post : gW → Prop} (hM : mV l G y1 (wU y1 cc1 n1 ret1) (rmL d1 k1) As w post)
    (h1 : va_Nw (.methodLinkNest y.cls index y1 host) s) (h2 : Cond.static y1 ∈ wsG) (h4 : Cond.initialized y1.cls ∈ wsG) (h5 : Cond.code y1 cc1 n1 ret1 ∈ wsG) 
    (hd : y1.cls ≠ "java/lang/invoke/MethodHandle" ∧ y1.cls ≠ "java/lang/invoke/VarHandle" ∧ (parseMethodDescriptor y1.desc).map (fun d => d.parameters.length) = some n) (hR : d1 + 1 ≤ R.frames ∧ 8 + (n1 + 11) + k1 ≤ R.locals)
    (hn : As.length = n) (hsz : ls.size = nL) (hst : st0 = As.reverse ++ rest) (hr : (rest.map fun v => v.category).sum ≤ 8) (hdg : decode cc pc = .ok (.invokestatic index, 3))
    (kk : ∀ (w1 : gW) (H1 : Heap) (locs1 : List Loc), post w1 → wo G w1 s H1 locs1 → W p l e R s m args below meth c H1 locs1 0 0 Q (F0 m (pc + 3) ls rest)) : W p l e R s m args below meth c H locs 0 0 Q (F0 m pc ls st0) := by
  have hr := va_runSN (H := H) (locs := locs) (cells := 0) (slots := 0) (e := e) (meth := meth) (below := below) (R := R) (As := As) (rest := rest) (g := F0 m pc ls st0) C0.fix hM ⟨va_cnB n C0.fix.2.2.2.2 (gU (fun _ h => wU_in h) h5) rfl rfl rfl h1 (C0.w h4) hd hR, C0.w h2, trivial⟩ ⟨wpre_blind _, fun U hU hWm => wpre_at _ hW C0.nst U hU hWm⟩ rfl hn hsz hst (lv_room hr) hdg ⟨Nat.zero_le _, Nat.zero_le _⟩
  refine va_callv hr hW.2.2 (fun q _ h => h) (fun q h => h) (fun u t H1 locs1 ht hvm hp hB hz1 hk1 hS => ?_)
  exact kk u H1 locs1 hp ⟨by rw [← ht]; exact hB, hW.2.1, hS⟩
theorem r_max (C0 : cx p s m args meth c y cc nL ret) {own : String} {index : Nat} {x1 x2 : Int} (g1 : inR x1) (g2 : inR x2) (hlink : Cond.methodLink own index Lib.Math.max.name ∈ wsG) (hstat : Cond.static Lib.Math.max.name ∈ wsG) (hini : Cond.initialized "java/lang/Math" ∈ wsG) (hcode : Cond.code Lib.Math.max.name Lib.Math.max.code 2 (some .int) ∈ wsG) (ho : own = y.cls) (hsz : ls.size = nL) (hframes : 1 ≤ R.frames) (hlocals : (rest.map fun v => v.category).sum + 13 ≤ R.locals) (hdg : decode cc pc = .ok (.invokestatic index, 3))
    (kk : W p l e R s m args below meth c H locs 0 0 Q (F0 m (pc + 3) ls (.int (iI (max x1 x2)) :: rest))) : W p l e R s m args below meth c H locs 0 0 Q (F0 m pc ls (.int (iI x2) :: .int (iI x1) :: rest)) := by
  subst ho
  refine va_mmax C0.hx C0.hb (C0.ml.trans hsz.symm) C0.fix.2.2.2.1 (C0.w hlink) (C0.w hstat) (C0.w hini) (C0.w hcode) hframes hlocals (Nat.zero_le _) (Nat.zero_le _) hdg ?_
  have q : (if iI x1 < iI x2 then iI x2 else iI x1) = iI (max x1 x2) := by
    by_cases h : x1 < x2
    · rw [if_pos ((iI_lt g1 g2).mpr h), show max x1 x2 = x2 by omega]
    · rw [if_neg (fun t => h ((iI_lt g1 g2).mp t)), show max x1 x2 = x1 by omega]
  rw [q]
  exact kk
theorem r_min (C0 : cx p s m args meth c y cc nL ret) {own : String} {index : Nat} {x1 x2 : Int} (g1 : inR x1) (g2 : inR x2) (hlink : Cond.methodLink own index Lib.Math.min.name ∈ wsG) (hstat : Cond.static Lib.Math.min.name ∈ wsG) (hini : Cond.initialized "java/lang/Math" ∈ wsG) (hcode : Cond.code Lib.Math.min.name Lib.Math.min.code 2 (some .int) ∈ wsG) (ho : own = y.cls) (hsz : ls.size = nL) (hframes : 1 ≤ R.frames) (hlocals : (rest.map fun v => v.category).sum + 13 ≤ R.locals) (hdg : decode cc pc = .ok (.invokestatic index, 3))
    (kk : W p l e R s m args below meth c H locs 0 0 Q (F0 m (pc + 3) ls (.int (iI (min x1 x2)) :: rest))) : W p l e R s m args below meth c H locs 0 0 Q (F0 m pc ls (.int (iI x2) :: .int (iI x1) :: rest)) := by
  subst ho
  refine va_mmin C0.hx C0.hb (C0.ml.trans hsz.symm) C0.fix.2.2.2.1 (C0.w hlink) (C0.w hstat) (C0.w hini) (C0.w hcode) hframes hlocals (Nat.zero_le _) (Nat.zero_le _) hdg ?_
  have q : (if iI x2 < iI x1 then iI x2 else iI x1) = iI (min x1 x2) := by
    by_cases h : x2 < x1
    · rw [if_pos ((iI_lt g2 g1).mpr h), show min x1 x2 = x2 by omega]
    · rw [if_neg (fun t => h ((iI_lt g2 g1).mp t)), show min x1 x2 = x1 by omega]
  rw [q]
  exact kk
theorem va_P_fun {D : va_G} {cl : List vw_C} {ws : va_W} {p0 a n : Nat} {c0 : ClassId} {f g : Nat → Int32} {H0 : Heap} (hP : va_P D cl (ws.set p0 (a, .inl (c0, n, .inl f))) H0) (hfg : ∀ i : Nat, i < n → f i = g i) : va_P D cl (ws.set p0 (a, .inl (c0, n, .inl g))) H0 := by
  have hc : vp_cell c0 (n, .inl f) = vp_cell c0 (n, .inl g) := by
    rw [vp_cell_i, vp_cell_i]
    unfold arrV
    congr 2
    funext j
    exact congrArg Value.int (hfg j.val j.isLt)
  intro k q hk
  by_cases hkp : p0 = k
  · subst hkp
    by_cases hl : p0 < ws.length
    · have h0 := hP p0 (a, .inl (c0, n, .inl f)) (List.getElem?_set_self hl)
      rw [List.getElem?_set_self hl] at hk
      cases hk
      show H0[a]? = some (vp_cell c0 (n, .inl g))
      rw [← hc]
      exact h0
    · rw [List.getElem?_eq_none (by rw [List.length_set]; omega)] at hk
      cases hk
  · rw [List.getElem?_set_ne hkp] at hk
    exact hP k q (by rw [List.getElem?_set_ne hkp]; exact hk)
theorem r_alen (C0 : cx p s m args meth c y cc nL ret) (hW : wo G w s H locs) {j k0 n : Nat} (hj : j < 11 ∧ k0 < bs j) (hn : n < 2147483648) (he : ceX G j k0 ((w j).1 k0) ((w j).2 k0) = cI G n ((w j).1 k0) ∨ ceX G j k0 ((w j).1 k0) ((w j).2 k0) = cZ G n ((w j).1 k0)) (hdg : decode cc pc = .ok (.arraylength, 1))
    (kk : W p l e R s m args below meth c H locs 0 0 Q (F0 m (pc + 1) ls (.int (iI (n : Int)) :: rest))) : W p l e R s m args below meth c H locs 0 0 Q (F0 m pc ls (.ref (ad G j k0) :: rest)) := by
  rcases he with he | he
  · exact va_alen (ws := WL G w) C0.hx C0.hb hW.2.1 hW.1 (bo j + k0) 0 (cA := G.2.1.1) (x := (n, .inl (fun i : Nat => (w j).1 k0 (i : Int)))) ((WL_get G w hj).trans (by rw [he]; rfl)) (ty := .int) rfl (iI_nI n) hdg kk
  · exact va_alen (ws := WL G w) C0.hx C0.hb hW.2.1 hW.1 (bo j + k0) 1 (cA := G.2.1.2.1) (x := (n, .inl (fun i : Nat => (w j).1 k0 (i : Int)))) ((WL_get G w hj).trans (by rw [he]; rfl)) (ty := .boolean) rfl (iI_nI n) hdg kk
/-- System.arraycopy of a whole row onto another: the whole function -/
theorem r_copyI (C0 : cx p s m args meth c y cc nL ret) (hW : wo G w s H locs) {own : String} {index j1 k1 j2 k2 n : Nat} (hj1 : j1 < 11 ∧ k1 < bs j1) (hj2 : j2 < 11 ∧ k2 < bs j2) (hn : n < 2147483648) (he1 : ceX G j1 k1 ((w j1).1 k1) ((w j1).2 k1) = cI G n ((w j1).1 k1)) (he2 : ∀ A : Int → Int32, ceX G j2 k2 A ((w j2).2 k2) = cI G n A) (hlink : Cond.methodLink own index arraycopyName ∈ wsG) (hnat : Cond.native arraycopyName ∈ wsG) (hstat : Cond.static arraycopyName ∈ wsG) (hini : Cond.initialized "java/lang/System" ∈ wsG) (ho : own = y.cls) (hsz : ls.size = nL) (hframes : 1 ≤ R.frames) (hlocals : (rest.map fun v => v.category).sum + (nativeFrameWords "java/lang/System" "arraycopy" 5 + 11) ≤ R.locals) (hdg : decode cc pc = .ok (.invokestatic index, 3))
    (kk : ∀ (H1 : Heap) (locs1 : List Loc), wo G (up w j2 (sF (w j2) k2 ((w j1).1 k1))) s H1 locs1 → W p l e R s m args below meth c H1 locs1 0 0 Q (F0 m (pc + 3) ls rest)) : W p l e R s m args below meth c H locs 0 0 Q (F0 m pc ls (.int (iI (n : Int)) :: .int (iI 0) :: .ref (ad G j2 k2) :: .int (iI 0) :: .ref (ad G j1 k1) :: rest)) := by
  subst ho
  have z0 : (iI 0).toNatClampNeg = 0 := iI_clamp inR_0
  have zn : (iI (n : Int)).toNatClampNeg = n := by rw [iI_clamp ⟨by omega, by omega⟩]; omega
  refine va_copyi C0.hx C0.hb (C0.ml.trans hsz.symm) C0.fix.2.2.2.1 (C0.w hlink) (C0.w hnat) (C0.w hstat) (C0.w hini) hW.2.1 hW.1 (WL_D G w) hW.2.2 (bo j1 + k1) (bo j2 + k2) 0 0 (c0 := G.2.1.1) (c1 := G.2.1.1) (n0 := n) (n1 := n) (f := fun i : Nat => (w j1).1 k1 (i : Int)) (g := fun i : Nat => (w j2).1 k2 (i : Int)) (ty := .int) ((WL_get G w hj1).trans (by rw [he1]; rfl)) ((WL_get G w hj2).trans (by rw [he2]; rfl)) rfl rfl rfl ?_ ?_ ?_ ?_ ?_ ?_ hframes hlocals hdg (fun H1 locs1 hP _ hS => kk H1 locs1 ?_)
  · rw [iI_zero, iI_lt inR_0 inR_0]; omega
  · rw [iI_zero, iI_lt inR_0 inR_0]; omega
  · rw [iI_zero, iI_lt ⟨by omega, by omega⟩ inR_0]; omega
  · rw [z0, zn]; omega
  · rw [z0, zn]; omega
  · intro i hi; rfl
  · have hP2 := va_P_fun (g := fun i : Nat => (w j1).1 k1 (i : Int)) hP (fun i hi => by
      simp only [va_cpy, z0, zn]
      rw [if_pos ⟨by omega, by omega⟩, show 0 + (i - 0) = i by omega])
    have h := wo_set hj2 (A := (w j1).1 k1) (F := (w j2).2 k2) hW.2.1 (he2 _) hP2 hS
    rwa [sC_F] at h
theorem r_copyZ (C0 : cx p s m args meth c y cc nL ret) (hW : wo G w s H locs) {own : String} {index j1 k1 j2 k2 n : Nat} (hj1 : j1 < 11 ∧ k1 < bs j1) (hj2 : j2 < 11 ∧ k2 < bs j2) (hn : n < 2147483648) (he1 : ceX G j1 k1 ((w j1).1 k1) ((w j1).2 k1) = cZ G n ((w j1).1 k1)) (he2 : ∀ A : Int → Int32, ceX G j2 k2 A ((w j2).2 k2) = cZ G n A) (hz : ∀ i : Int, 0 ≤ i → i < n → (w j1).1 k1 i = 0 ∨ (w j1).1 k1 i = 1) (hlink : Cond.methodLink own index arraycopyName ∈ wsG) (hnat : Cond.native arraycopyName ∈ wsG) (hstat : Cond.static arraycopyName ∈ wsG) (hini : Cond.initialized "java/lang/System" ∈ wsG) (ho : own = y.cls) (hsz : ls.size = nL) (hframes : 1 ≤ R.frames) (hlocals : (rest.map fun v => v.category).sum + (nativeFrameWords "java/lang/System" "arraycopy" 5 + 11) ≤ R.locals) (hdg : decode cc pc = .ok (.invokestatic index, 3))
    (kk : ∀ (H1 : Heap) (locs1 : List Loc), wo G (up w j2 (sF (w j2) k2 ((w j1).1 k1))) s H1 locs1 → W p l e R s m args below meth c H1 locs1 0 0 Q (F0 m (pc + 3) ls rest)) : W p l e R s m args below meth c H locs 0 0 Q (F0 m pc ls (.int (iI (n : Int)) :: .int (iI 0) :: .ref (ad G j2 k2) :: .int (iI 0) :: .ref (ad G j1 k1) :: rest)) := by
  subst ho
  have z0 : (iI 0).toNatClampNeg = 0 := iI_clamp inR_0
  have zn : (iI (n : Int)).toNatClampNeg = n := by rw [iI_clamp ⟨by omega, by omega⟩]; omega
  refine va_copyi C0.hx C0.hb (C0.ml.trans hsz.symm) C0.fix.2.2.2.1 (C0.w hlink) (C0.w hnat) (C0.w hstat) (C0.w hini) hW.2.1 hW.1 (WL_D G w) hW.2.2 (bo j1 + k1) (bo j2 + k2) 1 1 (c0 := G.2.1.2.1) (c1 := G.2.1.2.1) (n0 := n) (n1 := n) (f := fun i : Nat => (w j1).1 k1 (i : Int)) (g := fun i : Nat => (w j2).1 k2 (i : Int)) (ty := .boolean) ((WL_get G w hj1).trans (by rw [he1]; rfl)) ((WL_get G w hj2).trans (by rw [he2]; rfl)) rfl rfl rfl ?_ ?_ ?_ ?_ ?_ ?_ hframes hlocals hdg (fun H1 locs1 hP _ hS => kk H1 locs1 ?_)
  · rw [iI_zero, iI_lt inR_0 inR_0]; omega
  · rw [iI_zero, iI_lt inR_0 inR_0]; omega
  · rw [iI_zero, iI_lt ⟨by omega, by omega⟩ inR_0]; omega
  · rw [z0, zn]; omega
  · rw [z0, zn]; omega
  · intro i hi
    rw [z0, zn] at *
    have hq := hz ((0 + i : Nat) : Int) (by omega) (by omega)
    show (((w j1).1 k1 ((0 + i : Nat) : Int)) == 0 || ((w j1).1 k1 ((0 + i : Nat) : Int)) == 1) = true
    rcases hq with hq | hq <;> rw [hq] <;> rfl
  · have hP2 := va_P_fun (g := fun i : Nat => (w j1).1 k1 (i : Int)) hP (fun i hi => by
      simp only [va_cpy, z0, zn]
      rw [if_pos ⟨by omega, by omega⟩, show 0 + (i - 0) = i by omega])
    have h := wo_set hj2 (A := (w j1).1 k1) (F := (w j2).2 k2) hW.2.1 (he2 _) hP2 hS
    rwa [sC_F] at h
end RC
