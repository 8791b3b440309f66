theorem cv_undo0 {w w1 : gW} {b0 b1 b2 b3 : Nat} {z : Int} (h : po_X5_undo w b0 b1 b2 b3 z w1) (h0 : gN (w 4) 0 4 = 0) : z = -5 ∧ w = w1 := by
  rcases h with ⟨-, e, ew⟩ | ⟨c, -, -⟩
  · exact ⟨e, ew.symm⟩
  · omega
theorem cv_res0 {w w1 : gW} {b0 b1 b2 b3 : Nat} {z : Int} (h : po_X5_restore w b0 b1 b2 b3 z w1) (h0 : gN (w 0) 0 5 = 0) : z = -5 ∧ w = w1 := by
  rcases h with ⟨-, e, ew⟩ | ⟨c, -, -⟩
  · exact ⟨e, ew.symm⟩
  · exact absurd h0 c
set_option maxHeartbeats 4000000 in
set_option maxRecDepth 100000 in
theorem law_S {p : Program} {l : Launch} {e : Env} {s : State} {m : MethodId} {below : List Frame} {meth : Method} {c : Code} {H : Heap} {locs : List Loc} {Q : State → Prop} {G : gG} {w : gW} {b L : Nat} {xs : Nat → Int32} {ls : Array Slot} {b0 b1 b2 b3 : Nat} (C0 : cx p s m #[Value.ref b] meth c yL_law cL_law 15 ret) (hX : va_X b L xs s s.heap) (hbG : b < G.2.2) (hL : L ≤ 260)
     (hO : okW w b0 b1 b2 b3) (hI : Inv (w 1)) (hs0 : gN (w 4) 0 4 = 0) (hk0 : gN (w 0) 0 5 = 0) (hc0 : cntI (pLy (w 1)) (gN (w 1) 7 6) = 0)
    (hl : lv_has ls 15 [(0, .ref b), (1, .ref (ad G 0 0))]) (hW : wo G w s H locs)
    (kk : ∀ (w1 : gW) (H1 : Heap) (locs1 : List Loc) (a0 a1 a2 a3 : Nat) (kq1 : Int64) (ls1 : Array Slot), Gd w1 a0 a1 a2 a3 → kq1 = tdF (w1 2) → wo G w1 s H1 locs1 → lv_has ls1 15 [(0, .ref b), (1, .ref (ad G 0 0)), (2, .long kq1), (4, .int (iI 0))] → W p l e room_1 s m #[Value.ref b] below meth c H1 locs1 139 9415 Q (F0 m 43 ls1 [])) : W p l e room_1 s m #[Value.ref b] below meth c H locs 139 9415 Q (F0 m 8 ls []) := by
  have hx := C0.hx
  have hb := C0.hb
  refine lv_aload_n hx hb dL_law_8 rfl (lv_at hl 1 rfl) ?_
  refine k_VL (j := 0) (k0 := 0) (ls := ls) C0 hW (c_X5_undo l G w (hO)) km_L_87 ki_X5_undo ke_X5_undo kn_X5 kc_X5_undo rfl hdV_X5_undo ⟨Nat.le_of_ble_eq_true rfl, Nat.le_of_ble_eq_true rfl⟩ (show 0 < 11 ∧ 0 < bs 0 from ⟨by decide, by decide⟩) rfl rfl rfl hl.1 rfl (Nat.le_of_ble_eq_true rfl) ⟨Nat.le_of_ble_eq_true rfl, Nat.le_of_ble_eq_true rfl⟩ dL_law_9 (fun z1 w1 H1 locs1 rz1 hp1 hW => ?_)
  have hv1 := cv_undo0 hp1 hs0
  clear hp1
  obtain ⟨hp1, hq1⟩ := hv1
  subst hq1
  have rz1a := rz1.1
  have rz1b := rz1.2
  refine r_bipush hx hb dL_law_12 (by decide) ?_
  refine r_icmp_ne (tgt := 33) hx hb rz1 ⟨by omega, by omega⟩ dL_law_14 (by decide) (fun c2 => ?_) (fun c2 => ?_)
  · exfalso; omega
  · refine lv_aload_n hx hb dL_law_17 rfl (lv_at hl 1 rfl) ?_
    refine k_VL (j := 0) (k0 := 0) (ls := ls) C0 hW (c_X5_restore l G w (hO)) km_L_64 ki_X5_restore ke_X5_restore kn_X5 kc_X5_restore rfl hdV_X5_restore ⟨Nat.le_of_ble_eq_true rfl, Nat.le_of_ble_eq_true rfl⟩ (show 0 < 11 ∧ 0 < bs 0 from ⟨by decide, by decide⟩) rfl rfl rfl hl.1 rfl (Nat.le_of_ble_eq_true rfl) ⟨Nat.le_of_ble_eq_true rfl, Nat.le_of_ble_eq_true rfl⟩ dL_law_18 (fun z3 w3 H1 locs1 rz3 hp3 hW => ?_)
    have hv3 := cv_res0 hp3 hk0
    clear hp3
    obtain ⟨hp3, hq3⟩ := hv3
    subst hq3
    have rz3a := rz3.1
    have rz3b := rz3.2
    refine r_bipush hx hb dL_law_21 (by decide) ?_
    refine r_icmp_ne (tgt := 33) hx hb rz3 ⟨by omega, by omega⟩ dL_law_23 (by decide) (fun c4 => ?_) (fun c4 => ?_)
    · exfalso; omega
    · refine lv_aload_n hx hb dL_law_26 rfl (lv_at hl 1 rfl) ?_
      refine k_VL (j := 0) (k0 := 0) (ls := ls) C0 hW (c_X5_keep l G w (hO)) km_L_90 ki_X5_keep ke_X5_keep kn_X5 kc_X5_keep rfl hdV_X5_keep ⟨Nat.le_of_ble_eq_true rfl, Nat.le_of_ble_eq_true rfl⟩ (show 0 < 11 ∧ 0 < bs 0 from ⟨by decide, by decide⟩) rfl rfl rfl hl.1 rfl (Nat.le_of_ble_eq_true rfl) ⟨Nat.le_of_ble_eq_true rfl, Nat.le_of_ble_eq_true rfl⟩ dL_law_27 (fun z5 w5 H1 locs1 rz5 hp5 hW => ?_)
      have rz5a := rz5.1
      have rz5b := rz5.2
      obtain ⟨ez, hg, e1, e2⟩ := Gd_keep hO hI hp5
      have hO := hg.1
      refine r_if_eq (tgt := 35) hx hb rz5 dL_law_30 (by decide) (fun c6 => ?_) (fun c6 => ?_)
      · refine lv_aload_n hx hb dL_law_35 rfl (lv_at hl 1 rfl) ?_
        refine k_SLl (ls := ls) C0 hW (As := [.ref (ad G 0 0)]) (c_L_told l G w5 (hO)) km_L_93 ks_L_told kn_L kc_L_told rfl hdS_L_told ⟨Nat.le_of_ble_eq_true rfl, Nat.le_of_ble_eq_true rfl⟩ rfl hl.1 rfl (Nat.le_of_ble_eq_true rfl) ⟨Nat.le_of_ble_eq_true rfl, Nat.le_of_ble_eq_true rfl⟩ dL_law_36 (fun z7 w7 H1 locs1 hp7 hW => ?_)
        have hv7 := cv_told hp7
        clear hp7
        obtain ⟨hp7, hq7⟩ := hv7
        subst hq7
        refine lv_lstore_n (lv' := [(2, .long z7), (0, .ref b), (1, .ref (ad G 0 0))]) hx hb dL_law_39 rfl hl (by decide) rfl (fun ls hl => ?_)
        refine r_iconst hx hb dL_law_40 ?_
        refine lv_istore (lv' := [(4, .int (iI 0)), (2, .long z7), (0, .ref b), (1, .ref (ad G 0 0))]) hx hb dL_law_41 hl (by decide) rfl (fun ls hl => ?_)
        exact kk _ _ _ _ _ _ _ _ _ hg (by rw [hp7, e1, e2]) hW (lv_sub hl [2, 3, 1, 0] rfl)
      · exfalso; omega
/-! THE CLAIM OUT OF ONE WALK OF THE LAW'S BODY. Your part is whole_start (and what it stands on); all else here is the same for every law, but numbers. -/
def R_law : String := "PeatBanksLaw"
def lw_P (b : Addr) (xs : List Int32) (args : Array Value) (s : State) : Prop := args = #[.ref b] ∧ s.IntsAt b xs ∧ xs.length ≤ 260 ∧ (Jvm.Cond.and given_1 narrow_1).before args s = true
def lw_Q (_ : Array Value) (s : State) (o : Outcome) (t : State) : Prop := o = .returned (some (.int 1)) ∧ Framed s o t [] 139 9415
def lw_Z (below : List Frame) (a : Array Value) (s : State) : State → Prop := fun t => ∃ o, t.status = .running ∧ Ended t below o ∧ lw_Q a s o t
/-- the law's own end, with 1 on the stack, nothing written that was there before, its room as the claim has it -/
theorem lw_ret {p : Program} {l : Launch} {e : Env} {s : State} {m : MethodId} {below : List Frame} {meth : Method} {c : Code} {b : Nat} (hx : p.tables.exec = Jvm.exec) (hb : c.code = code) (hr : meth.sig.returnType = ret) (hlocks : meth.locks = false) {pc : Nat} {H : Heap} {ls : Array Slot} (hdg : decode code pc = .ok (.ireturn, 1)) : W p l e room_1 s m #[Value.ref b] below meth c H [] 139 9415 (lw_Z below #[Value.ref b] s) (F0 m pc ls [.int 1]) := by
  intro T hT X
  obtain ⟨fs, hret, hrun, hended, hW, hframe⟩ := X.leave (v := some (.int 1)) (hlocks := hlocks) (fun h => by rw [hr] at h; cases h)
  have hmeth' : T.vm.method? m = some meth := X.method'
  refine ⟨T.setFrames fs, ?_, .returned (some (.int 1)), hrun, hended, rfl, ⟨_, rfl⟩, hW, hframe⟩
  jvm_step X.here [X.here.top, hx, hb, hdg, hmeth', hr, ret, narrow_b1]
  (try refine ⟨rfl, ?_⟩); (try refine ⟨rfl, ?_⟩)
  first | (intro acts; rw [hret _ acts rfl rfl rfl]) | rw [hret _ _ rfl rfl rfl]
  exact Steps.refl _
/-- what holds at the law's entry: the machine, the code, the tables' words (any of lw_tbl by 'hts w (by decide +kernel)'), the script of L ints xs at the cell b, what the Statement gives of the start (any of its parts by flat_of_before) -/
def lw_At (p : Program) (s : State) (m : MethodId) (meth : Method) (c : Code) (b L : Nat) (xs : Nat → Int32) : Prop :=
  p.tables.exec = Jvm.exec ∧ c.code = code ∧ meth.sig.returnType = ret ∧ c.maxLocals = 15 ∧ s.vm.findClass R_law = some m.cls ∧ (∀ w ∈ lw_tbl, w.before #[Value.ref b] s = true) ∧ va_X b L xs s s.heap ∧ b < s.heap.size ∧ meth.locks = false ∧ (Jvm.Cond.and given_1 narrow_1).before #[Value.ref b] s = true ∧ (Jvm.Cond.code x code maxLocals ret).before #[Value.ref b] s = true
set_option maxHeartbeats 4000000 in
set_option maxRecDepth 100000 in
/-- the law's loop -/
theorem law_loop {p : Program} {l : Launch} {e : Env} {s : State} {m : MethodId} {below : List Frame} {meth : Method} {c : Code} {G : gG} {b L : Nat} {xs : Nat → Int32} (C0 : cx p s m #[Value.ref b] meth c yL_law cL_law 15 ret) (hX : va_X b L xs s s.heap) (hbG : b < G.2.2) (hG : G.2.2 = s.heap.size) (hL : L ≤ 260) : ∀ (n : Nat) (t : Int) (w : gW) (H : Heap) (locs : List Loc) (b0 b1 b2 b3 : Nat) (kq : Int64) (ls : Array Slot), 0 ≤ t → t ≤ 38 → 38 - t < n → Gd w b0 b1 b2 b3 → kq = tdF (w 2) → wo G w s H locs → lv_has ls 15 [(0, .ref b), (1, .ref (ad G 0 0)), (2, .long kq), (4, .int (iI t))] → W p l e room_1 s m #[Value.ref b] below meth c H locs 139 9415 (lw_Z below #[Value.ref b] s) (F0 m 43 ls []) := by
  have hx := C0.hx
  have hb := C0.hb
  intro n
  induction n with
  | zero =>
    intro t w H locs b0 b1 b2 b3 kq ls h0 h1 h2 hg hk hW hl
    exact absurd h2 (by omega)
  | succ n ih =>
    intro t w H locs b0 b1 b2 b3 kq ls h0 h1 h2 hg hk hW hl
    refine lv_iload hx hb dL_law_43 (lv_at hl 3 rfl) ?_
    refine r_bipush hx hb dL_law_45 (by decide) ?_
    refine r_icmp_ge (tgt := 333) hx hb ⟨by omega, by omega⟩ ⟨by omega, by omega⟩ dL_law_47 (by decide) (fun c1 => ?_) (fun c1 => ?_)
    · refine lv_iconst (v := 1) hx hb dL_law_333 (by decide) ?_
      refine va_forget (fun q hq => by have t := hW.2.2.2.2 q hq; rw [← hG]; exact t) ?_
      exact lw_ret hx hb C0.2.2.1 C0.2.2.2.2.2.2.1 dL_law_334
    · exact law_A C0 hX hbG hL hg ⟨h0, c1⟩ hk hl hW (fun w1 H1 locs1 a0 a1 a2 a3 kq1 ls1 hg1 hk1 hW1 hl1 => ih (t + 1) w1 H1 locs1 a0 a1 a2 a3 kq1 ls1 (by omega) (by omega) (by omega) hg1 hk1 hW1 hl1)
