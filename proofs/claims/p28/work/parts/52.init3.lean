def npre (G : gG) (L : List va_E) (U : State) : Prop := U.heap.size = G.2.2 + L.length ∧ va_P G.1 vwCl (wl G.2.2 L) U.heap ∧ va_K G.1 vwCl (tysG G) U ∧ nst U
def qn (G : gG) (L' : List va_E) : Array Value → State → Outcome → State → Prop := va_Qv (fun L1 : List va_E => L1 = L') (fun L1 t => t.heap.size = G.2.2 + L1.length ∧ va_P G.1 vwCl (wl G.2.2 L1) t.heap) (fun q : Nat => G.2.2 ≤ q)
def mN (l : Launch) (G : gG) (y : MethodName) (ws : List Cond) (rm : Room) (av : List Value) (L L' : List va_E) (mc ms : Nat) : Prop := Met l y ws rm (va_Pc av (npre G L)) (qn G L') mc ms (fun q : Nat => G.2.2 ≤ q)
def rmN (d mc ms n : Nat) : Room := { frames := d, cells := mc, slots := ms, locals := n }
abbrev QN (G : gG) (L' : List va_E) (below : List Frame) (args : Array Value) (s : State) (mc ms : Nat) : State → Prop := MQ below (qn G L') args s mc ms (fun q : Nat => G.2.2 ≤ q)
theorem mN_of {l : Launch} {G : gG} {y : MethodName} {cc : ByteArray} {n : Nat} {d k mc ms : Nat} {av : List Value} {L L' : List va_E} (hy : plainName y.cls = true) (hn : (lg_sl av).length ≤ n) (hnm : y.name = "<init>")
    (body : ∀ (p : Program) (e : Env) (s : State) (m : MethodId) (args : Array Value) (below : List Frame) (meth : Method) (c : Code) (ls : Array Slot), cx p s m args meth c y cc n none → meth.name = "<init>" → wi G L s s.heap [] → lv_has ls n (lv_args 0 av) → W p l e (rmN d mc ms k) s m args below meth c s.heap [] 0 0 (QN G L' below args s mc ms) (F0 m 0 ls [])) : mN l G y (wU y cc n none) (rmN d mc ms k) av L L' mc ms := by
  refine Met.ofW (cc := cc) (maxL := n) (ret := none) hy rfl ?_
  intro p e s m args below meth c s₁ B hml hv
  obtain ⟨rfl, hz, hP, hK, hN⟩ := hv
  rw [lg_entry_eq]
  exact body p e s m _ below meth c _ ⟨B.exec, B.bytes, B.returns, hml, atoms_spec (ws := wU y cc n none) B.pre, findClass_of_methodNamed B.named, B.notSynchronized, hN⟩ ((name_of_methodNamed B.named B.method).1.trans hnm) ⟨hz, hP, hK, va_S.rf⟩ (lv_entry av hn)
section RI3
variable {p : Program} {l : Launch} {e : Env} {R : Room} {s : State} {m : MethodId} {args : Array Value} {below : List Frame} {meth : Method} {c : Code} {H : Heap} {locs : List Loc} {cells slots : Nat} {Q : State → Prop}
variable {cc : ByteArray} {pc : Nat} {ls : Array Slot} {rest : List Value} {G : gG} {L : List va_E} {y : MethodName} {nL : Nat} {ret : Option FieldType}
theorem i_ret (C0 : cx p s m args meth c y cc nL none) (hW : wi G L s H locs) {L' : List va_E} {mc ms : Nat} (hp : L = L') (hc : cells ≤ mc) (hs : slots ≤ ms) (hdg : decode cc pc = .ok (.return_, 1)) : W p l e R s m args below meth c H locs cells slots (QN G L' below args s mc ms) (F0 m pc ls []) := by
  obtain ⟨hx, hb, hr, -, -, -, hlk, -⟩ := C0
  refine W.widen hc hs ?_
  exact W.vret hx hb hr (fun t ht _ => ⟨⟨L, rfl, hp, by show t.heap.size = _ ∧ va_P G.1 vwCl (wl G.2.2 L) t.heap; rw [ht]; exact ⟨hW.1, hW.2.1⟩⟩, hW.2.2.2.F ht⟩) hW.2.2.2.2.2 hdg hlk
theorem npre_blind {G : gG} {L : List va_E} (av : List Value) : FrameBlind (va_Pc av (npre G L)) := fun a U g mk q => by
  obtain ⟨q0, qz, qP, qK, qN⟩ := q
  exact ⟨q0, qz, qP, va_K.moved (u := U) (U := U.calling g mk a) (Vm.Alike.refl U.vm) qK, nst_same rfl qN⟩
theorem npre_at {G : gG} {L : List va_E} {s : State} {H : Heap} {locs : List Loc} (av : List Value) (hW : wi G L s H locs) (hN : nst s) : ∀ U : State, U.heap = H → s.WarmedH U.vm → va_Pc av (npre G L) av.toArray U := fun U hU hWm => ⟨rfl, by rw [hU]; exact hW.1, by rw [hU]; exact hW.2.1, va_K.moved hWm.alike hW.2.2.1, nst_warm hWm hN⟩
theorem i_call (C0 : cx p s m args meth c y cc nL ret) (hW : wi G L s H locs) {y1 : MethodName} {cc1 : ByteArray} {n1 d1 k1 index k0 mc ms : Nat} {own : String} {L1 : List va_E} (hM : mN l G y1 (wU y1 cc1 n1 none) (rmN d1 mc ms k1) [.ref (G.2.2 + k0)] L L1 mc ms)
    (h1 : Cond.methodLink own index y1 ∈ wsG) (h2 : Cond.instanceMethod y1 ∈ wsG) (h4 : Cond.initialized y1.cls ∈ wsG) (h5 : Cond.code y1 cc1 n1 none ∈ wsG) (ho : own = y.cls) (hnm : y1.name = "<init>")
    (hd : y1.cls ≠ "java/lang/invoke/MethodHandle" ∧ y1.cls ≠ "java/lang/invoke/VarHandle" ∧ (parseMethodDescriptor y1.desc).map (fun d => d.parameters.length) = some 0) (hR : d1 + 1 ≤ R.frames ∧ 8 + (n1 + 11) + k1 ≤ R.locals)
    (hsz : ls.size = nL) (hr : (rest.map fun v => v.category).sum ≤ 8) (hdg : decode cc pc = .ok (.invokespecial index, 3)) (hf : cells + mc ≤ R.cells ∧ slots + ms ≤ R.slots)
    (kk : ∀ (H1 : Heap) (locs1 : List Loc), wi G L1 s H1 locs1 → W p l e R s m args below meth c H1 locs1 (cells + mc) (slots + ms) Q (F0 m (pc + 3) ls rest)) : W p l e R s m args below meth c H locs cells slots Q (F0 m pc ls (.ref (G.2.2 + k0) :: rest)) := by
  subst ho
  have hrun := va_runI (H := H) (locs := locs) (cells := cells) (slots := slots) (e := e) (meth := meth) (below := below) (R := R) (As := []) (rest := rest) (g := F0 m pc ls (.ref (G.2.2 + k0) :: rest)) C0.fix hM (cwI 0 C0.fix.2.2.2.2 (gU (fun _ h => wU_in h) h5) rfl rfl rfl (C0.w h4) (C0.w h1) (C0.w h2) hnm hd hR) ⟨npre_blind _, fun U hU hWm => npre_at _ hW C0.nst U hU hWm⟩ rfl rfl hsz rfl (lv_room hr) hdg hf
  refine va_callv hrun hW.2.2.2 (fun q _ h => h) (fun q h => h) (fun u t H1 locs1 ht hvm hp hB hz1 hk1 hS => ?_)
  subst hp
  exact kk H1 locs1 ⟨by rw [← ht]; exact hB.1, by rw [← ht]; exact hB.2, hW.2.2.1, hS⟩
end RI3
