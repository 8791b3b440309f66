section RI2
variable {p : Program} {l : Launch} {e : Env} {R : Room} {s : State} {m : MethodId} {args : Array Value} {below : List Frame} {meth : Method} {c : Code} {H : Heap} {locs : List Loc} {cells slots : Nat} {Q : State → Prop}
variable {cc : ByteArray} {pc : Nat} {ls : Array Slot} {rest : List Value} {G : gG} {L : List va_E} {y : MethodName} {nL : Nat} {ret : Option FieldType}
theorem i_put (C0 : cx p s m args meth c y cc nL ret) (hW : wi G L s H locs) {ci N index k0 : Nat} {C own ref : String} {T : u_T} (k : Nat) {fs : List Value} (he : L[k0]? = some (.inr (ci, fs))) (hcl : vwCl[ci]? = some (C, T, N)) (hin : ∀ w ∈ u_ws C T N, w ∈ wsG) (ty0 : Nat → FieldType) (hty : ∀ k, k < N → parseFieldDescriptor (T k).2.2.1 = some (ty0 k)) (hnm : ∀ a, a < N → ∀ b, b < N → a ≠ b → (T a).2.1 ≠ (T b).2.1) (hk : k < N) (hlink : Cond.fieldLink own index ref (T k).2.1 (T k).2.2.1 ∈ wsG) (ho : own = y.cls) (href : (T k).1 = ref) (hfin : (T k).2.2.2 = false) {ty : FieldType} {v : Value} (hd : parseFieldDescriptor (T k).2.2.1 = some ty) (hn : narrow ty v = v) (hfit : fits ty v = true) (hl : k < fs.length) (hdg : decode cc pc = .ok (.putfield index, 3))
    (kk : ∀ (H1 : Heap) (locs1 : List Loc), wi G (L.set k0 (.inr (ci, fs.set k v))) s H1 locs1 → W p l e R s m args below meth c H1 locs1 cells slots Q (F0 m (pc + 3) ls rest)) : W p l e R s m args below meth c H locs cells slots Q (F0 m pc ls (v :: .ref (G.2.2 + k0) :: rest)) := by
  subst ho
  obtain ⟨hz, hP, hK, hS0⟩ := hW
  have hts : ∀ w ∈ wsG, w.before args s = true := fun w h => C0.w h
  have hap := va_apart (own := y.cls) hts hin ty0 hty hnm hK hcl
  obtain ⟨r, h1, cell, q1, q2, q3, q4⟩ := hP k0 _ (wl_at he)
  have hr : r = (C, T, N) := Option.some.inj (h1.symm.trans hcl)
  subst hr
  obtain ⟨hS, hfc, kC, hkC, hkind⟩ := hK.1 ci _ hcl
  obtain ⟨cf, kf, fi, f, hi, hsl⟩ := hS k hk
  have hlay := hts _ (hin _ (u_in_lay hk))
  unfold u_lay at hlay
  rw [if_neg (by rw [hfin]; decide)] at hlay
  have hst := (u_facts hfc hkC (u_lays hts hin hk) hi).1
  have h6 := u_store hfc hkC hkind hlay hi hd hn hfit
  refine W.putK C0.hx C0.hb (f := f) ⟨C0.fix.2.2.2.1, C0.w hlink, ⟨_, _, _, by rw [← href]; exact hi⟩, hst⟩ (by rw [q2]; exact h6) q1 q3 (by rw [hsl]; exact k2_hasslot (q4 k hk)) rfl rfl hdg fun H1 e1 e2 e3 => ?_
  rw [hsl] at e1 ⊢
  refine kk H1 _ ⟨by rw [e2, List.length_set]; exact hz, ?_, hK, hS0.put e2 e3 (by show G.2.2 ≤ G.2.2 + k0; omega)⟩
  rw [← wl_set]
  exact hP.set (wl_D _ _) (wl_at he) ⟨_, hcl, t_OB.to (V := updV (vp_V fs) k v) ⟨_, e1, q2, q3, t_set q4 hap hk v⟩ (fun j _ => vp_updV_set hl v j)⟩ e3
theorem i_pF (C0 : cx p s m args meth c y cc nL ret) (hin2 : meth.name = "<init>") (hW : wi G L s H locs) {ci N index k0 : Nat} {C own ref : String} {T : u_T} (k : Nat) {fs : List Value} (he : L[k0]? = some (.inr (ci, fs))) (hcl : vwCl[ci]? = some (C, T, N)) (hin : ∀ w ∈ u_ws C T N, w ∈ wsG) (ty0 : Nat → FieldType) (hty : ∀ k, k < N → parseFieldDescriptor (T k).2.2.1 = some (ty0 k)) (hnm : ∀ a, a < N → ∀ b, b < N → a ≠ b → (T a).2.1 ≠ (T b).2.1) (hk : k < N) (hlink : Cond.fieldLink own index ref (T k).2.1 (T k).2.2.1 ∈ wsG) (ho : own = y.cls) (href : (T k).1 = ref) (hdecl : (T k).1 = own) (hfin : (T k).2.2.2 = true) {ty : FieldType} {v : Value} (hd : parseFieldDescriptor (T k).2.2.1 = some ty) (hn : narrow ty v = v) (hfit : fits ty v = true) (hl : k < fs.length) (hdg : decode cc pc = .ok (.putfield index, 3))
    (kk : ∀ (H1 : Heap) (locs1 : List Loc), wi G (L.set k0 (.inr (ci, fs.set k v))) s H1 locs1 → W p l e R s m args below meth c H1 locs1 cells slots Q (F0 m (pc + 3) ls rest)) : W p l e R s m args below meth c H locs cells slots Q (F0 m pc ls (v :: .ref (G.2.2 + k0) :: rest)) := by
  subst ho
  obtain ⟨hz, hP, hK, hS0⟩ := hW
  have hts : ∀ w ∈ wsG, w.before args s = true := fun w h => C0.w h
  have hown := C0.fix.2.2.2.1
  have hap := va_apart (own := y.cls) hts hin ty0 hty hnm hK hcl
  obtain ⟨r, h1, cell, q1, q2, q3, q4⟩ := hP k0 _ (wl_at he)
  have hr : r = (C, T, N) := Option.some.inj (h1.symm.trans hcl)
  subst hr
  obtain ⟨hS, hfc, kC, hkC, hkind⟩ := hK.1 ci _ hcl
  obtain ⟨cf, kf, fi, f, hi, hsl⟩ := hS k hk
  have hlay := hts _ (hin _ (u_in_lay hk))
  unfold u_lay at hlay
  rw [if_pos hfin] at hlay
  have hst := (u_facts hfc hkC (u_lays hts hin hk) hi).1
  have hcf : m.cls = cf := by
    obtain ⟨_, _, c', _, _, _, -, -, hf', -, -, -, hown2, -⟩ := Cond.laysFinal_spec hlay
    have e1 : c' = cf := by have := hi.symm.trans hf'; simp at this; exact this.1.symm
    rw [hdecl] at hown2
    rw [← e1]; exact Option.some.inj (hown.symm.trans hown2)
  have h6 := u_fits hfc hkC hkind (Or.inr hlay) hi hd hn hfit
  refine W.putFinK C0.hx C0.hb hown (C0.w hlink) (by rw [← href]; exact hi) hst hcf hin2 (by rw [q2]; exact h6) q1 q3 (by rw [hsl]; exact k2_hasslot (q4 k hk)) rfl rfl hdg fun H1 e1 e2 e3 => ?_
  rw [hsl] at e1 ⊢
  refine kk H1 _ ⟨by rw [e2, List.length_set]; exact hz, ?_, hK, hS0.put e2 e3 (by show G.2.2 ≤ G.2.2 + k0; omega)⟩
  rw [← wl_set]
  exact hP.set (wl_D _ _) (wl_at he) ⟨_, hcl, t_OB.to (V := updV (vp_V fs) k v) ⟨_, e1, q2, q3, t_set q4 hap hk v⟩ (fun j _ => vp_updV_set hl v j)⟩ e3
theorem i_ast (C0 : cx p s m args meth c y cc nL ret) (hW : wi G L s H locs) {k0 n : Nat} {A : Int → Int32} (he : L[k0]? = some (cI G n A)) {x : Int} {v : Int32} (h0 : 0 ≤ x) (h1 : x < n) (hn : n < 2147483648) (hdg : decode cc pc = .ok (.iastore, 1))
    (kk : ∀ (H1 : Heap) (locs1 : List Loc), wi G (L.set k0 (cI G n (fun i => if i = x then v else A i))) s H1 locs1 → W p l e R s m args below meth c H1 locs1 cells slots Q (F0 m (pc + 1) ls rest)) : W p l e R s m args below meth c H locs cells slots Q (F0 m pc ls (.int v :: .int (iI x) :: .ref (G.2.2 + k0) :: rest)) := by
  obtain ⟨hz, hP, hK, hS0⟩ := hW
  have ha := wl_at (b := G.2.2) he
  refine W.iast C0.hx C0.hb (hP k0 _ ha) ((hK.2 0 _ rfl).1 n (fun j => .int (A (j : Int)))) (fun q => by cases q) (by show ¬ (iI x < 0 ∨ (arrV _ _ _).slots.size ≤ _); rw [arrV_size]; exact iI_in h0 h1 hn) rfl rfl hdg fun H1 e1 z oq => ?_
  refine kk H1 _ ⟨by rw [z, List.length_set]; exact hz, ?_, hK, hS0.put z oq (by show G.2.2 ≤ G.2.2 + k0; omega)⟩
  rw [← wl_set]
  refine hP.set (wl_D _ _) ha ?_ oq
  show H1[G.2.2 + k0]? = some (vp_cell _ _)
  rw [e1]
  rw [vp_cell_i, vp_cell_i, arrV_store]
  congr 2
  funext q
  rw [iI_clamp ⟨by omega, by omega⟩]
  show updV (fun j : Nat => Value.int (A (j : Int))) x.toNat (.int v) q = .int (if (q : Int) = x then v else A (q : Int))
  unfold updV
  by_cases hq : q = x.toNat
  · rw [if_pos hq, if_pos (by omega)]
  · rw [if_neg hq, if_neg (by omega)]
theorem i_get (C0 : cx p s m args meth c y cc nL ret) (hW : wi G L s H locs) {ci N index k0 : Nat} {C own ref : String} {T : u_T} (k : Nat) {fs : List Value} {v : Value} (he : L[k0]? = some (.inr (ci, fs))) (hcl : vwCl[ci]? = some (C, T, N)) (hin : ∀ w ∈ u_ws C T N, w ∈ wsG) (hk : k < N) (hlink : Cond.fieldLink own index ref (T k).2.1 (T k).2.2.1 ∈ wsG) (hv : fs[k]? = some v) (ho : own = y.cls) (href : (T k).1 = ref) (hdg : decode cc pc = .ok (.getfield index, 3))
    (kk : W p l e R s m args below meth c H locs cells slots Q (F0 m (pc + 3) ls (v :: rest))) : W p l e R s m args below meth c H locs cells slots Q (F0 m pc ls (.ref (G.2.2 + k0) :: rest)) := by
  subst ho
  exact va_get C0.hx C0.hb (fun w h => C0.w h) hin C0.fix.2.2.2.1 hW.2.2.1 hW.2.1 k0 (wl_at he) hcl k hk (C0.w hlink) (fun _ h9 => by rw [← href]; exact h9) hv hdg kk
theorem i_oi (C0 : cx p s m args meth c y cc nL ret) {own : String} {index a : Nat} (h1 : Cond.methodLink own index objectInit ∈ wsG) (ho : own = y.cls) (hsz : ls.size = nL) (hdg : decode cc pc = .ok (.invokespecial index, 3)) (hR : 1 ≤ R.frames ∧ 20 ≤ R.locals)
    (kk : W p l e R s m args below meth c H locs cells slots Q (F0 m (pc + 3) ls [])) : W p l e R s m args below meth c H locs cells slots Q (F0 m pc ls [.ref a]) := by
  subst ho
  refine W.objInit C0.hx C0.hb C0.fix.2.2.2.1 (C0.w h1) (C0.w ki_objectInit) (C0.w kc_objectInit) rfl (by rw [C0.ml]; exact hsz) rfl hdg hR.1 (Nat.le_trans (Nat.le_of_ble_eq_true rfl) hR.2) ?_
  exact W.eq (g2 := F0 m (pc + 3) ls []) rfl kk
end RI2
