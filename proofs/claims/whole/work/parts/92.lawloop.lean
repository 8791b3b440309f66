/-! THE CLAIM OUT OF ONE WALK OF THE LAW'S BODY. Your part is whole_start (and what it stands on); all else here is the same for every law, but numbers. -/
def R_law : String := "PeatBanksLaw"
def lw_P (b : Addr) (xs : List Int32) (args : Array Value) (s : State) : Prop := args = #[.ref b] ∧ s.IntsAt b xs ∧ xs.length ≤ 1536 ∧ (Jvm.Cond.and given_1 narrow_1).before args s = true
def lw_Q (_ : Array Value) (s : State) (o : Outcome) (t : State) : Prop := o = .returned (some (.int 1)) ∧ Framed s o t [] 146 16195
def lw_Z (below : List Frame) (a : Array Value) (s : State) : State → Prop := fun t => ∃ o, t.status = .running ∧ Ended t below o ∧ lw_Q a s o t
/-- the law's own end, with 1 on the stack, nothing written that was there before, its room as the claim has it -/
theorem lw_ret {p : Program} {l : Launch} {e : Env} {s : State} {m : MethodId} {below : List Frame} {meth : Method} {c : Code} {b : Nat} (hx : p.tables.exec = Jvm.exec) (hb : c.code = code) (hr : meth.sig.returnType = ret) (hlocks : meth.locks = false) {pc : Nat} {H : Heap} {ls : Array Slot} (hdg : decode code pc = .ok (.ireturn, 1)) : W p l e room_1 s m #[Value.ref b] below meth c H [] 146 16195 (lw_Z below #[Value.ref b] s) (F0 m pc ls [.int 1]) := by
  intro T hT X
  obtain ⟨fs, hret, hrun, hended, hW, hframe⟩ := X.leave (v := some (.int 1)) (hlocks := hlocks) (fun h => by rw [hr] at h; cases h)
  have hmeth' : T.vm.method? m = some meth := X.method'
  refine ⟨T.setFrames fs, ?_, .returned (some (.int 1)), hrun, hended, rfl, ⟨_, rfl⟩, hW, hframe⟩
  jvm_step X.here [X.here.top, hx, hb, hdg, hmeth', hr, ret, narrow_b1]
  (try refine ⟨rfl, ?_⟩); (try refine ⟨rfl, ?_⟩)
  first | (intro acts; rw [hret _ acts rfl rfl rfl]) | rw [hret _ _ rfl rfl rfl]
  exact Steps.refl _
/-- what holds at the law's entry: the machine, the code, the tables' words (any of lw_tbl by 'hts w (by decide +kernel)'), the script of L ints xs at the cell b, what the Statement gives of the start (any of its parts by flat_of_before) -/
def lw_At (p : Program) (s : State) (m : MethodId) (meth : Method) (c : Code) (b L : Nat) (xs : Nat → Int32) : Prop :=
  p.tables.exec = Jvm.exec ∧ c.code = code ∧ meth.sig.returnType = ret ∧ c.maxLocals = 4 ∧ s.vm.findClass R_law = some m.cls ∧ (∀ w ∈ lw_tbl, w.before #[Value.ref b] s = true) ∧ va_X b L xs s s.heap ∧ b < s.heap.size ∧ meth.locks = false ∧ (Jvm.Cond.and given_1 narrow_1).before #[Value.ref b] s = true ∧ (Jvm.Cond.code x code maxLocals ret).before #[Value.ref b] s = true
set_option maxHeartbeats 4000000 in
set_option maxRecDepth 100000 in
/-- the law's loop: both sides alike at its head -/
theorem law_loop {p : Program} {l : Launch} {e : Env} {s : State} {m : MethodId} {below : List Frame} {meth : Method} {c : Code} {G : gG} {b L : Nat} {xs : Nat → Int32} (C0 : cx p s m #[Value.ref b] meth c yL_law cL_law 4 ret) (hX : va_X b L xs s s.heap) (hbl : b < s.heap.size) (hG : G.2.2 = s.heap.size) (hL : L ≤ 1536) : ∀ (n : Nat) (i : Int) (w : gW) (H : Heap) (locs : List Loc) (ls : Array Slot), 0 ≤ i → (L : Int) + 3 ≤ i + n → (∃ b0 b1 b2 b3 : Nat, Rel w b0 b1 b2 b3) → wo G w s H locs → lv_has ls 4 [(0, .ref b), (1, .ref (ad G 0 0)), (2, .ref (ad G 10 0)), (3, .int (iI i))] → i ≤ L → W p l e room_1 s m #[Value.ref b] below meth c H locs 146 16195 (lw_Z below #[Value.ref b] s) (F0 m 18 ls []) := by
  have hx := C0.hx
  have hb := C0.hb
  intro n
  induction n with
  | zero =>
    intro i w H locs ls h0 h1 hR hW hl h2
    exact absurd h1 (by omega)
  | succ n ih =>
    intro i w H locs ls h0 h1 hR hW hl h2
    refine lv_iload_n hx hb dL_law_18 rfl (lv_at hl 3 rfl) ?_
    refine lv_aload_n hx hb dL_law_19 rfl (lv_at hl 0 rfl) ?_
    refine va_slen hx hb hX hbl (show ¬ G.2.2 ≤ b by omega) hW.2.2 dL_law_20 ?_
    rw [iI_nI]
    refine r_iconst hx hb dL_law_21 ?_
    refine r_isub hx hb dL_law_22 ?_
    refine r_icmp_gt (tgt := 781) hx hb ⟨by omega, by omega⟩ ⟨by omega, by omega⟩ dL_law_23 (by decide) (fun c1 => ?_) (fun c1 => ?_)
    · refine lv_iconst (v := 1) hx hb dL_law_781 (by decide) ?_
      refine va_forget (fun q hq => by have t := hW.2.2.2.2 q hq; rw [← hG]; exact t) ?_
      exact lw_ret hx hb C0.2.2.1 C0.2.2.2.2.2.2.1 dL_law_782
    · have hi : 0 ≤ i ∧ i + 3 ≤ (L : Int) := by omega
      have tail : ∀ (w2 : gW) (H2 : Heap) (locs2 : List Loc), (∃ b0 b1 b2 b3 : Nat, Rel w2 b0 b1 b2 b3) → wo G w2 s H2 locs2 → W p l e room_1 s m #[Value.ref b] below meth c H2 locs2 146 16195 (lw_Z below #[Value.ref b] s) (F0 m 775 ls []) := by
        intro w2 H2 locs2 hR2 hW2
        refine r_iinc (lv' := [(3, .int (iI (i + 3))), (0, .ref b), (1, .ref (ad G 0 0)), (2, .ref (ad G 10 0))]) hx hb dL_law_775 hl (k := 3) rfl (by decide) rfl (fun ls hl => ?_)
        refine lv_goto (tgt := 18) hx hb dL_law_778 (by decide) ?_
        exact ih (i + 3) w2 H2 locs2 ls (by omega) (by omega) hR2 hW2 (lv_sub hl [1, 2, 3, 0] rfl) (by omega)
      obtain ⟨b0, b1, b2, b3, hR⟩ := hR
      refine lv_aload_n hx hb dL_law_26 rfl (lv_at hl 0 rfl) ?_
      refine lv_iload_n hx hb dL_law_27 rfl (lv_at hl 3 rfl) ?_
      refine va_sld hx hb hX hbl (show ¬ G.2.2 ≤ b by omega) hW.2.2 (iI_in (n := L) hi.1 (by omega) (by omega)) dL_law_28 ?_
      refine r_bipush hx hb dL_law_29 (by decide) ?_
      refine lv_iand hx hb dL_law_31 ?_
      refine lv_topi (fun v _ => ?_)
      have rt : inR v.toInt := inR_o v
      rw [← iI_o v]
      generalize v.toInt = t at rt ⊢
      rcases (show t < 0 ∨ 24 < t ∨ t = 0 ∨ t = 1 ∨ t = 2 ∨ t = 3 ∨ t = 4 ∨ t = 5 ∨ t = 6 ∨ t = 7 ∨ t = 8 ∨ t = 9 ∨ t = 10 ∨ t = 11 ∨ t = 12 ∨ t = 13 ∨ t = 14 ∨ t = 15 ∨ t = 16 ∨ t = 17 ∨ t = 18 ∨ t = 19 ∨ t = 20 ∨ t = 21 ∨ t = 22 ∨ t = 23 ∨ t = 24 by omega) with h | h | rfl | rfl | rfl | rfl | rfl | rfl | rfl | rfl | rfl | rfl | rfl | rfl | rfl | rfl | rfl | rfl | rfl | rfl | rfl | rfl | rfl | rfl | rfl | rfl | rfl
      · exact r_tabOut (tgt := 775) hx hb rt dL_law_32 (Or.inl h) (by decide) (tail w H locs ⟨b0, b1, b2, b3, hR⟩ hW)
      · exact r_tabOut (tgt := 775) hx hb rt dL_law_32 (Or.inr h) (by decide) (tail w H locs ⟨b0, b1, b2, b3, hR⟩ hW)
      · exact r_tabIn (tgt := 148) hx hb rt dL_law_32 (by decide) (by decide) rfl (by decide) (law_lend C0 hX hbl hG hL hi hl hW hR tail)
      · exact r_tabIn (tgt := 181) hx hb rt dL_law_32 (by decide) (by decide) rfl (by decide) (law_handOver C0 hX hbl hG hL hi hl hW hR tail)
      · exact r_tabIn (tgt := 214) hx hb rt dL_law_32 (by decide) (by decide) rfl (by decide) (law_setDays C0 hX hbl hG hL hi hl hW hR tail)
      · exact r_tabIn (tgt := 247) hx hb rt dL_law_32 (by decide) (by decide) rfl (by decide) (law_set C0 hX hbl hG hL hi hl hW hR tail)
      · exact r_tabIn (tgt := 280) hx hb rt dL_law_32 (by decide) (by decide) rfl (by decide) (law_cut C0 hX hbl hG hL hi hl hW hR tail)
      · exact r_tabIn (tgt := 313) hx hb rt dL_law_32 (by decide) (by decide) rfl (by decide) (law_turn C0 hX hbl hG hL hi hl hW hR tail)
      · exact r_tabIn (tgt := 336) hx hb rt dL_law_32 (by decide) (by decide) rfl (by decide) (law_stack C0 hX hbl hG hL hi hl hW hR tail)
      · exact r_tabIn (tgt := 359) hx hb rt dL_law_32 (by decide) (by decide) rfl (by decide) (law_pass C0 hX hbl hG hL hi hl hW hR tail)
      · exact r_tabIn (tgt := 382) hx hb rt dL_law_32 (by decide) (by decide) rfl (by decide) (law_passAll C0 hX hbl hG hL hi hl hW hR tail)
      · exact r_tabIn (tgt := 395) hx hb rt dL_law_32 (by decide) (by decide) rfl (by decide) (law_settle C0 hX hbl hG hL hi hl hW hR tail)
      · exact r_tabIn (tgt := 408) hx hb rt dL_law_32 (by decide) (by decide) rfl (by decide) (law_endYear C0 hX hbl hG hL hi hl hW hR tail)
      · exact r_tabIn (tgt := 421) hx hb rt dL_law_32 (by decide) (by decide) rfl (by decide) (law_type C0 hX hbl hG hL hi hl hW hR tail)
      · exact r_tabIn (tgt := 446) hx hb rt dL_law_32 (by decide) (by decide) rfl (by decide) (law_clearText C0 hX hbl hG hL hi hl hW hR tail)
      · exact r_tabIn (tgt := 459) hx hb rt dL_law_32 (by decide) (by decide) rfl (by decide) (law_undo C0 hX hbl hG hL hi hl hW hR tail)
      · exact r_tabIn (tgt := 472) hx hb rt dL_law_32 (by decide) (by decide) rfl (by decide) (law_keep C0 hX hbl hG hL hi hl hW hR tail)
      · exact r_tabIn (tgt := 485) hx hb rt dL_law_32 (by decide) (by decide) rfl (by decide) (law_restore C0 hX hbl hG hL hi hl hW hR tail)
      · exact r_tabIn (tgt := 498) hx hb rt dL_law_32 (by decide) (by decide) rfl (by decide) (law_commoner C0 hX hbl hG hL hi hl hW hR tail)
      · exact r_tabIn (tgt := 531) hx hb rt dL_law_32 (by decide) (by decide) rfl (by decide) (law_plot C0 hX hbl hG hL hi hl hW hR tail)
      · exact r_tabIn (tgt := 564) hx hb rt dL_law_32 (by decide) (by decide) rfl (by decide) (law_row C0 hX hbl hG hL hi hl hW hR tail)
      · exact r_tabIn (tgt := 597) hx hb rt dL_law_32 (by decide) (by decide) rfl (by decide) (law_driest C0 hX hbl hG hL hi hl hW hR tail)
      · exact r_tabIn (tgt := 630) hx hb rt dL_law_32 (by decide) (by decide) rfl (by decide) (law_why C0 hX hbl hG hL hi hl hW hR tail)
      · exact r_tabIn (tgt := 663) hx hb rt dL_law_32 (by decide) (by decide) rfl (by decide) (law_dispute C0 hX hbl hG hL hi hl hW hR tail)
      · exact r_tabIn (tgt := 696) hx hb rt dL_law_32 (by decide) (by decide) rfl (by decide) (law_cart C0 hX hbl hG hL hi hl hW hR tail)
      · exact r_tabIn (tgt := 719) hx hb rt dL_law_32 (by decide) (by decide) rfl (by decide) (law_would C0 hX hbl hG hL hi hl hW hR tail)
      · exact r_tabIn (tgt := 752) hx hb rt dL_law_32 (by decide) (by decide) rfl (by decide) (law_count C0 hX hbl hG hL hi hl hW hR tail)
