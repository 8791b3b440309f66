/-! births: the cells of a world that still grows stand one behind the other -/
def wl (b : Nat) (L : List va_E) : va_W := L.mapIdx fun k e => (b + k, e)
theorem wl_get (b : Nat) (L : List va_E) (k : Nat) : (wl b L)[k]? = L[k]?.map fun e => (b + k, e) := List.getElem?_mapIdx
theorem wl_at {b : Nat} {L : List va_E} {k : Nat} {e : va_E} (h : L[k]? = some e) : (wl b L)[k]? = some (b + k, e) := by rw [wl_get, h]; rfl
theorem wl_app (b : Nat) (L : List va_E) (e : va_E) : wl b (L ++ [e]) = wl b L ++ [(b + L.length, e)] := List.mapIdx_concat
theorem wl_set (b : Nat) (L : List va_E) (k : Nat) (e : va_E) : (wl b L).set k (b + k, e) = wl b (L.set k e) := by
  apply List.ext_getElem?
  intro i
  rw [wl_get]
  by_cases h : i = k
  · subst h
    by_cases hl : i < L.length
    · rw [List.getElem?_set_self (by simp [wl]; exact hl), List.getElem?_set_self hl]; rfl
    · rw [List.getElem?_eq_none (by simp [wl]; omega), List.getElem?_eq_none (by simp; omega)]; rfl
  · rw [List.getElem?_set_ne (Ne.symm h), List.getElem?_set_ne (Ne.symm h), wl_get]
theorem wl_D (b : Nat) (L : List va_E) : va_D (fun q : Nat => b ≤ q) (wl b L) := by
  have key : ∀ (k : Nat) (q : Nat × va_E), (wl b L)[k]? = some q → q.1 = b + k := by
    intro k q hk
    rw [wl_get] at hk
    cases hL : L[k]? with
    | none => rw [hL] at hk; cases hk
    | some e => rw [hL] at hk; cases hk; rfl
  refine ⟨fun i j p q hi hj hpq => ?_, fun k q hk => ?_⟩
  · rw [key i p hi, key j q hj] at hpq; omega
  · show b ≤ q.1
    rw [key k q hk]; omega
def wi (G : gG) (L : List va_E) (s : State) (H : Heap) (locs : List Loc) : Prop := H.size = G.2.2 + L.length ∧ va_P G.1 vwCl (wl G.2.2 L) H ∧ va_K G.1 vwCl (tysG G) s ∧ va_S (fun q : Nat => G.2.2 ≤ q) s.heap H locs
section RI
variable {p : Program} {l : Launch} {e : Env} {R : Room} {s : State} {m : MethodId} {args : Array Value} {below : List Frame} {meth : Method} {c : Code} {H : Heap} {locs : List Loc} {cells slots : Nat} {Q : State → Prop}
variable {cc : ByteArray} {pc : Nat} {ls : Array Slot} {rest : List Value} {G : gG} {L : List va_E} {y : MethodName} {nL : Nat} {ret : Option FieldType}
theorem i_obj (C0 : cx p s m args meth c y cc nL ret) (hW : wi G L s H locs) {ci N index : Nat} {C own : String} {T : u_T} (hcl : vwCl[ci]? = some (C, T, N)) (hin : ∀ w ∈ u_ws C T N, w ∈ wsG) (ty : Nat → FieldType) (hty : ∀ k, k < N → parseFieldDescriptor (T k).2.2.1 = some (ty k)) (h1 : Cond.classLink own index C ∈ wsG) (h2 : Cond.instantiable C N ∈ wsG) (h3 : Cond.initialized C ∈ wsG) (ho : own = y.cls) {fs : List Value} (hfs : ∀ j, j < N → defaultValue (ty j) = vp_V fs j) (hcells : cells + 1 ≤ R.cells) (hslots : slots + N ≤ R.slots) (hdg : decode cc pc = .ok (.new index, 3))
    (kk : ∀ H1 : Heap, wi G (L ++ [.inr (ci, fs)]) s H1 locs → W p l e R s m args below meth c H1 locs (cells + 1) (slots + N) Q (F0 m (pc + 3) ls (.ref (G.2.2 + L.length) :: rest))) : W p l e R s m args below meth c H locs cells slots Q (F0 m pc ls rest) := by
  subst ho
  obtain ⟨hz, hP, hK, hS⟩ := hW
  have hKn := hK.1 ci _ hcl
  refine W.newcK C0.hx C0.hb C0.fix.2.2.2.1 (C0.w h1) (C0.w h2) (C0.w h3) rfl hdg hcells hslots hKn.2.1 hz fun H1 kC hkC e1 z1 o1 => ?_
  have hk : ∀ (k : Nat) (x : Nat × va_E), (wl G.2.2 L)[k]? = some x → H1[x.1]? = H[x.1]? := fun k x hx => o1 x.1 (by have := (hP k x hx).lt; omega)
  refine kk H1 ⟨by rw [z1]; simp; omega, ?_, hK, ⟨by have := hS.1; omega, fun x g1 g2 => (o1 x (by have := hS.1; omega)).trans (hS.2.1 x g1 g2), hS.2.2⟩⟩
  rw [wl_app]
  refine (hP.kept hk).app (fun k x hx => ?_)
  have hz : k < 1 := (List.getElem?_eq_some_iff.mp hx).1
  rw [show k = 0 by omega] at hx
  cases hx
  exact ⟨_, hcl, (u_born ty (fun w h => C0.w h) hin hKn hkC e1 hty).to hfs⟩
theorem i_arr (C0 : cx p s m args meth c y cc nL ret) (hW : wi G L s H locs) {atype : ArrayType} (h1 : Cond.arrayClass (newarray.typeOf atype) ∈ wsG) {cA : ClassId} {n : Int32} {N' : Nat} (hnm : s.vm.findClass ("[" ++ (newarray.typeOf atype).toString) = some cA) {a0 : vp_A} (ha : vp_cell cA a0 = arrV cA N' (fun _ => defaultValue (newarray.typeOf atype))) (hn : ¬ n < 0) (hN : n.toNatClampNeg = N') (hbytes : N' * componentBytes (newarray.typeOf atype) ≤ 536870912) (hcells : cells + 1 ≤ R.cells) (hslots : slots + N' ≤ R.slots) (hdg : decode cc pc = .ok (.newarray atype, 2))
    (kk : ∀ H1 : Heap, wi G (L ++ [.inl (cA, a0)]) s H1 locs → W p l e R s m args below meth c H1 locs (cells + 1) (slots + N') Q (F0 m (pc + 2) ls (.ref (G.2.2 + L.length) :: rest))) : W p l e R s m args below meth c H locs cells slots Q (F0 m pc ls (.int n :: rest)) := by
  obtain ⟨hz, hP, hK, hS⟩ := hW
  refine va_newaK C0.hx C0.hb (C0.w h1) rfl hdg rfl hn hN hbytes hcells hslots hz fun H1 cB e1 z1 o1 hAr hNm => ?_
  have hcB : cB = cA := Option.some.inj (hNm.symm.trans hnm)
  subst hcB
  have hk : ∀ (k : Nat) (x : Nat × va_E), (wl G.2.2 L)[k]? = some x → H1[x.1]? = H[x.1]? := fun k x hx => o1 x.1 (by have := (hP k x hx).lt; omega)
  refine kk H1 ⟨by rw [z1]; simp; omega, ?_, hK, ⟨by have := hS.1; omega, fun x g1 g2 => (o1 x (by have := hS.1; omega)).trans (hS.2.1 x g1 g2), hS.2.2⟩⟩
  rw [wl_app]
  refine (hP.kept hk).app (fun k x hx => ?_)
  have hz : k < 1 := (List.getElem?_eq_some_iff.mp hx).1
  rw [show k = 0 by omega] at hx
  cases hx
  show H1[G.2.2 + L.length]? = some (vp_cell _ _)
  rw [ha]
  exact e1
end RI
