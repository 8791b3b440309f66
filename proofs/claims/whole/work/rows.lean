section
/-! ints as whole numbers: iI z is the Int32 of z; inR z: z is its own number -/
def iI (z : Int) : Int32 := Int32.ofInt z
def inR (z : Int) : Prop := -2147483648 ≤ z ∧ z < 2147483648
theorem iI_t {z : Int} (h : inR z) : (iI z).toInt = z := Int32.toInt_ofInt_of_le (by have := h.1; omega) (by have := h.2; omega)
theorem iI_o (x : Int32) : iI x.toInt = x := Int32.ofInt_toInt x
theorem inR_o (x : Int32) : inR x.toInt := ⟨by have := Int32.le_toInt x; omega, by have := Int32.toInt_lt x; omega⟩
theorem iI_add (x y : Int) : iI x + iI y = iI (x + y) := (Int32.ofInt_add x y).symm
theorem iI_sub (x y : Int) : iI x - iI y = iI (x - y) := (Int32.ofInt_sub x y).symm
theorem iI_mul (x y : Int) : iI x * iI y = iI (x * y) := (Int32.ofInt_mul x y).symm
theorem iI_neg (x : Int) : - iI x = iI (- x) := (Int32.ofInt_neg x).symm
theorem iI_eq {x y : Int} (hx : inR x) (hy : inR y) : iI x = iI y ↔ x = y := by rw [← Int32.toInt_inj, iI_t hx, iI_t hy]
theorem iI_lt {x y : Int} (hx : inR x) (hy : inR y) : iI x < iI y ↔ x < y := by rw [Int32.lt_iff_toInt_lt, iI_t hx, iI_t hy]
theorem iI_le {x y : Int} (hx : inR x) (hy : inR y) : iI x ≤ iI y ↔ x ≤ y := by rw [Int32.le_iff_toInt_le, iI_t hx, iI_t hy]
theorem iI_zero : (0 : Int32) = iI 0 := rfl
theorem inR_0 : inR 0 := ⟨by omega, by omega⟩
theorem iI_clamp {x : Int} (hx : inR x) : (iI x).toNatClampNeg = x.toNat := by
  show (iI x).toInt.toNat = x.toNat
  rw [iI_t hx]
theorem iI_in {x : Int} {n : Nat} (h0 : 0 ≤ x) (h1 : x < n) (hn : n < 2147483648) : vp_in (iI x) n := by
  have hx : inR x := ⟨by omega, by omega⟩
  intro q
  rcases q with q | q
  · rw [iI_zero, iI_lt hx inR_0] at q; omega
  · rw [iI_clamp hx] at q; omega
theorem iI_nI (n : Nat) : Int32.ofNat n = iI (n : Int) := by
  first | rfl | exact (Int32.ofInt_eq_ofNat).symm | simp [iI]
theorem iI_div {x y : Int} (hx : inR x) (hy : inR y) (h0 : 0 ≤ x) (h1 : 0 < y) : iI x / iI y = iI (x / y) := by
  apply Int32.toInt_inj.mp
  have hb : inR (x / y) := ⟨by have := Int.ediv_nonneg h0 (Int.le_of_lt h1); omega, by have := Int.ediv_le_self y h0; have := hx.2; omega⟩
  rw [iI_t hb, Int32.toInt_div, iI_t hx, iI_t hy, Int.tdiv_eq_ediv_of_nonneg h0]
  exact Int.bmod_eq_of_le (by have := hb.1; omega) (by have := hb.2; omega)
theorem iI_mod {x y : Int} (hx : inR x) (hy : inR y) (h0 : 0 ≤ x) (h1 : 0 < y) : iI x % iI y = iI (x % y) := by
  apply Int32.toInt_inj.mp
  have hb : inR (x % y) := ⟨by have := Int.emod_nonneg x (Int.ne_of_gt h1); omega, by have := Int.emod_lt_of_pos x h1; have := hy.2; omega⟩
  rw [iI_t hb, Int32.toInt_mod, iI_t hx, iI_t hy, Int.tmod_eq_emod_of_nonneg h0]
section RI
variable {p : Program} {l : Launch} {e : Env} {R : Room} {s : State} {m : MethodId} {args : Array Value} {below : List Frame} {meth : Method} {c : Code} {H : Heap} {locs : List Loc} {cells slots : Nat} {Q : State → Prop}
variable {cc : ByteArray} {pc : Nat} {ls : Array Slot} {rest : List Value}
theorem r_iconst (hx : p.tables.exec = Jvm.exec) (hb : c.code = cc) {n : Int} (hdg : decode cc pc = .ok (.iconst n, 1)) (k : W p l e R s m args below meth c H locs cells slots Q (F0 m (pc + 1) ls (.int (iI n) :: rest))) : W p l e R s m args below meth c H locs cells slots Q (F0 m pc ls rest) := lv_iconst hx hb hdg rfl k
theorem r_bipush (hx : p.tables.exec = Jvm.exec) (hb : c.code = cc) {n : Int} (hdg : decode cc pc = .ok (.bipush n, 2)) (hv : (Int8.ofInt n).toInt32 = iI n) (k : W p l e R s m args below meth c H locs cells slots Q (F0 m (pc + 2) ls (.int (iI n) :: rest))) : W p l e R s m args below meth c H locs cells slots Q (F0 m pc ls rest) := lv_bipush hx hb hdg hv k
theorem r_sipush (hx : p.tables.exec = Jvm.exec) (hb : c.code = cc) {n : Int} (hdg : decode cc pc = .ok (.sipush n, 3)) (hv : (Int16.ofInt n).toInt32 = iI n) (k : W p l e R s m args below meth c H locs cells slots Q (F0 m (pc + 3) ls (.int (iI n) :: rest))) : W p l e R s m args below meth c H locs cells slots Q (F0 m pc ls rest) := lv_sipush hx hb hdg hv k
theorem r_iadd (hx : p.tables.exec = Jvm.exec) (hb : c.code = cc) {x y : Int} (hdg : decode cc pc = .ok (.iadd, 1)) (k : W p l e R s m args below meth c H locs cells slots Q (F0 m (pc + 1) ls (.int (iI (x + y)) :: rest))) : W p l e R s m args below meth c H locs cells slots Q (F0 m pc ls (.int (iI y) :: .int (iI x) :: rest)) := lv_iadd hx hb hdg (by rw [iI_add]; exact k)
theorem r_isub (hx : p.tables.exec = Jvm.exec) (hb : c.code = cc) {x y : Int} (hdg : decode cc pc = .ok (.isub, 1)) (k : W p l e R s m args below meth c H locs cells slots Q (F0 m (pc + 1) ls (.int (iI (x - y)) :: rest))) : W p l e R s m args below meth c H locs cells slots Q (F0 m pc ls (.int (iI y) :: .int (iI x) :: rest)) := lv_isub hx hb hdg (by rw [iI_sub]; exact k)
theorem r_imul (hx : p.tables.exec = Jvm.exec) (hb : c.code = cc) {x y : Int} (hdg : decode cc pc = .ok (.imul, 1)) (k : W p l e R s m args below meth c H locs cells slots Q (F0 m (pc + 1) ls (.int (iI (x * y)) :: rest))) : W p l e R s m args below meth c H locs cells slots Q (F0 m pc ls (.int (iI y) :: .int (iI x) :: rest)) := lv_imul hx hb hdg (by rw [iI_mul]; exact k)
theorem r_ineg (hx : p.tables.exec = Jvm.exec) (hb : c.code = cc) {x : Int} (hdg : decode cc pc = .ok (.ineg, 1)) (k : W p l e R s m args below meth c H locs cells slots Q (F0 m (pc + 1) ls (.int (iI (- x)) :: rest))) : W p l e R s m args below meth c H locs cells slots Q (F0 m pc ls (.int (iI x) :: rest)) := lv_ineg hx hb hdg (by rw [iI_neg]; exact k)
theorem r_idiv (hx : p.tables.exec = Jvm.exec) (hb : c.code = cc) {x y : Int} (h1 : inR x) (h2 : inR y) (h3 : 0 ≤ x) (h4 : 0 < y) (hdg : decode cc pc = .ok (.idiv, 1)) (k : W p l e R s m args below meth c H locs cells slots Q (F0 m (pc + 1) ls (.int (iI (x / y)) :: rest))) : W p l e R s m args below meth c H locs cells slots Q (F0 m pc ls (.int (iI y) :: .int (iI x) :: rest)) := lv_idiv hx hb hdg (by rw [iI_zero, iI_eq h2 inR_0]; omega) (by rw [iI_div h1 h2 h3 h4]; exact k)
theorem r_irem (hx : p.tables.exec = Jvm.exec) (hb : c.code = cc) {x y : Int} (h1 : inR x) (h2 : inR y) (h3 : 0 ≤ x) (h4 : 0 < y) (hdg : decode cc pc = .ok (.irem, 1)) (k : W p l e R s m args below meth c H locs cells slots Q (F0 m (pc + 1) ls (.int (iI (x % y)) :: rest))) : W p l e R s m args below meth c H locs cells slots Q (F0 m pc ls (.int (iI y) :: .int (iI x) :: rest)) := lv_irem hx hb hdg (by rw [iI_zero, iI_eq h2 inR_0]; omega) (by rw [iI_div h1 h2 h3 h4, iI_mul, iI_sub, show x - x / y * y = x % y by rw [Int.emod_def, Int.mul_comm]]; exact k)
theorem r_iinc (hx : p.tables.exec = Jvm.exec) (hb : c.code = cc) {i nL k : Nat} {n x : Int} {lv lv' : List (Nat × Value)} (hdg : decode cc pc = .ok (.iinc i n, 3)) (h : lv_has ls nL lv) (hk : lv[k]? = some (i, .int (iI x))) (hn : i < nL) (hl : (i, Value.int (iI (x + n))) :: lv.filter (fun q => !(q.1 == i) && !(q.1 + 1 == i && q.2.category == 2)) = lv')
    (kk : ∀ ls' : Array Slot, lv_has ls' nL lv' → W p l e R s m args below meth c H locs cells slots Q (F0 m (pc + 3) ls' rest)) : W p l e R s m args below meth c H locs cells slots Q (F0 m pc ls rest) := lv_iinc hx hb hdg h hk (iI_add x n) hn hl kk
theorem r_icmp_eq (hx : p.tables.exec = Jvm.exec) (hb : c.code = cc) {x y : Int} {off : Int} {tgt : Nat} (h1 : inR x) (h2 : inR y) (hdg : decode cc pc = .ok (.if_icmp .eq off, 3)) (ht : (pc : Int) + off = (tgt : Int)) (kt : x = y → W p l e R s m args below meth c H locs cells slots Q (F0 m tgt ls rest)) (kf : ¬ x = y → W p l e R s m args below meth c H locs cells slots Q (F0 m (pc + 3) ls rest)) : W p l e R s m args below meth c H locs cells slots Q (F0 m pc ls (.int (iI y) :: .int (iI x) :: rest)) :=
  lv_icmp_eq hx hb hdg ht (fun h => kt ((iI_eq h1 h2).mp h)) (fun h => kf (fun q => h ((iI_eq h1 h2).mpr q)))
theorem r_icmp_ne (hx : p.tables.exec = Jvm.exec) (hb : c.code = cc) {x y : Int} {off : Int} {tgt : Nat} (h1 : inR x) (h2 : inR y) (hdg : decode cc pc = .ok (.if_icmp .ne off, 3)) (ht : (pc : Int) + off = (tgt : Int)) (kt : ¬ x = y → W p l e R s m args below meth c H locs cells slots Q (F0 m tgt ls rest)) (kf : x = y → W p l e R s m args below meth c H locs cells slots Q (F0 m (pc + 3) ls rest)) : W p l e R s m args below meth c H locs cells slots Q (F0 m pc ls (.int (iI y) :: .int (iI x) :: rest)) :=
  lv_icmp_ne hx hb hdg ht (fun h => kt (fun q => h ((iI_eq h1 h2).mpr q))) (fun h => kf ((iI_eq h1 h2).mp h))
theorem r_icmp_lt (hx : p.tables.exec = Jvm.exec) (hb : c.code = cc) {x y : Int} {off : Int} {tgt : Nat} (h1 : inR x) (h2 : inR y) (hdg : decode cc pc = .ok (.if_icmp .lt off, 3)) (ht : (pc : Int) + off = (tgt : Int)) (kt : x < y → W p l e R s m args below meth c H locs cells slots Q (F0 m tgt ls rest)) (kf : y ≤ x → W p l e R s m args below meth c H locs cells slots Q (F0 m (pc + 3) ls rest)) : W p l e R s m args below meth c H locs cells slots Q (F0 m pc ls (.int (iI y) :: .int (iI x) :: rest)) :=
  lv_icmp_lt hx hb hdg ht (fun h => kt ((iI_lt h1 h2).mp h)) (fun h => kf (by rw [iI_lt h1 h2] at h; omega))
theorem r_icmp_ge (hx : p.tables.exec = Jvm.exec) (hb : c.code = cc) {x y : Int} {off : Int} {tgt : Nat} (h1 : inR x) (h2 : inR y) (hdg : decode cc pc = .ok (.if_icmp .ge off, 3)) (ht : (pc : Int) + off = (tgt : Int)) (kt : y ≤ x → W p l e R s m args below meth c H locs cells slots Q (F0 m tgt ls rest)) (kf : x < y → W p l e R s m args below meth c H locs cells slots Q (F0 m (pc + 3) ls rest)) : W p l e R s m args below meth c H locs cells slots Q (F0 m pc ls (.int (iI y) :: .int (iI x) :: rest)) :=
  lv_icmp_ge hx hb hdg ht (fun h => kt (by first | exact (iI_le h2 h1).mp h | (rw [ge_iff_le, iI_le h2 h1] at h; exact h))) (fun h => kf (by first | (rw [iI_le h2 h1] at h; omega) | (rw [ge_iff_le, iI_le h2 h1] at h; omega)))
theorem r_icmp_gt (hx : p.tables.exec = Jvm.exec) (hb : c.code = cc) {x y : Int} {off : Int} {tgt : Nat} (h1 : inR x) (h2 : inR y) (hdg : decode cc pc = .ok (.if_icmp .gt off, 3)) (ht : (pc : Int) + off = (tgt : Int)) (kt : y < x → W p l e R s m args below meth c H locs cells slots Q (F0 m tgt ls rest)) (kf : x ≤ y → W p l e R s m args below meth c H locs cells slots Q (F0 m (pc + 3) ls rest)) : W p l e R s m args below meth c H locs cells slots Q (F0 m pc ls (.int (iI y) :: .int (iI x) :: rest)) :=
  lv_icmp_gt hx hb hdg ht (fun h => kt (by first | exact (iI_lt h2 h1).mp h | (rw [gt_iff_lt, iI_lt h2 h1] at h; exact h))) (fun h => kf (by first | (rw [iI_lt h2 h1] at h; omega) | (rw [gt_iff_lt, iI_lt h2 h1] at h; omega)))
theorem r_icmp_le (hx : p.tables.exec = Jvm.exec) (hb : c.code = cc) {x y : Int} {off : Int} {tgt : Nat} (h1 : inR x) (h2 : inR y) (hdg : decode cc pc = .ok (.if_icmp .le off, 3)) (ht : (pc : Int) + off = (tgt : Int)) (kt : x ≤ y → W p l e R s m args below meth c H locs cells slots Q (F0 m tgt ls rest)) (kf : y < x → W p l e R s m args below meth c H locs cells slots Q (F0 m (pc + 3) ls rest)) : W p l e R s m args below meth c H locs cells slots Q (F0 m pc ls (.int (iI y) :: .int (iI x) :: rest)) :=
  lv_icmp_le hx hb hdg ht (fun h => kt ((iI_le h1 h2).mp h)) (fun h => kf (by rw [iI_le h1 h2] at h; omega))
theorem r_if_eq (hx : p.tables.exec = Jvm.exec) (hb : c.code = cc) {x : Int} {off : Int} {tgt : Nat} (h1 : inR x) (hdg : decode cc pc = .ok (.ifCond .eq off, 3)) (ht : (pc : Int) + off = (tgt : Int)) (kt : x = 0 → W p l e R s m args below meth c H locs cells slots Q (F0 m tgt ls rest)) (kf : ¬ x = 0 → W p l e R s m args below meth c H locs cells slots Q (F0 m (pc + 3) ls rest)) : W p l e R s m args below meth c H locs cells slots Q (F0 m pc ls (.int (iI x) :: rest)) :=
  lv_if_eq hx hb hdg ht (fun h => kt ((iI_eq h1 inR_0).mp h)) (fun h => kf (fun q => h ((iI_eq h1 inR_0).mpr q)))
theorem r_if_ne (hx : p.tables.exec = Jvm.exec) (hb : c.code = cc) {x : Int} {off : Int} {tgt : Nat} (h1 : inR x) (hdg : decode cc pc = .ok (.ifCond .ne off, 3)) (ht : (pc : Int) + off = (tgt : Int)) (kt : ¬ x = 0 → W p l e R s m args below meth c H locs cells slots Q (F0 m tgt ls rest)) (kf : x = 0 → W p l e R s m args below meth c H locs cells slots Q (F0 m (pc + 3) ls rest)) : W p l e R s m args below meth c H locs cells slots Q (F0 m pc ls (.int (iI x) :: rest)) :=
  lv_if_ne hx hb hdg ht (fun h => kt (fun q => h ((iI_eq h1 inR_0).mpr q))) (fun h => kf ((iI_eq h1 inR_0).mp h))
theorem r_if_lt (hx : p.tables.exec = Jvm.exec) (hb : c.code = cc) {x : Int} {off : Int} {tgt : Nat} (h1 : inR x) (hdg : decode cc pc = .ok (.ifCond .lt off, 3)) (ht : (pc : Int) + off = (tgt : Int)) (kt : x < 0 → W p l e R s m args below meth c H locs cells slots Q (F0 m tgt ls rest)) (kf : 0 ≤ x → W p l e R s m args below meth c H locs cells slots Q (F0 m (pc + 3) ls rest)) : W p l e R s m args below meth c H locs cells slots Q (F0 m pc ls (.int (iI x) :: rest)) :=
  lv_if_lt hx hb hdg ht (fun h => kt ((iI_lt h1 inR_0).mp h)) (fun h => kf (by rw [iI_zero, iI_lt h1 inR_0] at h; omega))
theorem r_if_ge (hx : p.tables.exec = Jvm.exec) (hb : c.code = cc) {x : Int} {off : Int} {tgt : Nat} (h1 : inR x) (hdg : decode cc pc = .ok (.ifCond .ge off, 3)) (ht : (pc : Int) + off = (tgt : Int)) (kt : 0 ≤ x → W p l e R s m args below meth c H locs cells slots Q (F0 m tgt ls rest)) (kf : x < 0 → W p l e R s m args below meth c H locs cells slots Q (F0 m (pc + 3) ls rest)) : W p l e R s m args below meth c H locs cells slots Q (F0 m pc ls (.int (iI x) :: rest)) :=
  lv_if_ge hx hb hdg ht (fun h => kt ((iI_le inR_0 h1).mp h)) (fun h => kf (by first | (rw [iI_zero, iI_le inR_0 h1] at h; omega) | (rw [ge_iff_le, iI_zero, iI_le inR_0 h1] at h; omega)))
theorem r_if_gt (hx : p.tables.exec = Jvm.exec) (hb : c.code = cc) {x : Int} {off : Int} {tgt : Nat} (h1 : inR x) (hdg : decode cc pc = .ok (.ifCond .gt off, 3)) (ht : (pc : Int) + off = (tgt : Int)) (kt : 0 < x → W p l e R s m args below meth c H locs cells slots Q (F0 m tgt ls rest)) (kf : x ≤ 0 → W p l e R s m args below meth c H locs cells slots Q (F0 m (pc + 3) ls rest)) : W p l e R s m args below meth c H locs cells slots Q (F0 m pc ls (.int (iI x) :: rest)) :=
  lv_if_gt hx hb hdg ht (fun h => kt ((iI_lt inR_0 h1).mp h)) (fun h => kf (by first | (rw [iI_zero, iI_lt inR_0 h1] at h; omega) | (rw [gt_iff_lt, iI_zero, iI_lt inR_0 h1] at h; omega)))
theorem r_if_le (hx : p.tables.exec = Jvm.exec) (hb : c.code = cc) {x : Int} {off : Int} {tgt : Nat} (h1 : inR x) (hdg : decode cc pc = .ok (.ifCond .le off, 3)) (ht : (pc : Int) + off = (tgt : Int)) (kt : x ≤ 0 → W p l e R s m args below meth c H locs cells slots Q (F0 m tgt ls rest)) (kf : 0 < x → W p l e R s m args below meth c H locs cells slots Q (F0 m (pc + 3) ls rest)) : W p l e R s m args below meth c H locs cells slots Q (F0 m pc ls (.int (iI x) :: rest)) :=
  lv_if_le hx hb hdg ht (fun h => kt ((iI_le h1 inR_0).mp h)) (fun h => kf (by rw [iI_zero, iI_le h1 inR_0] at h; omega))
end RI
end
section
-- ===== PART A: goes FIRST, ahead of the names: the tables' words, and 'selects' of the private methods out of them =====
/-- a private method of a class that the tables say can be made, by its rows of tables_1 -/
def lw_okq (q : MethodName × Nat) : Prop := (q.1.cls ≠ "java/lang/invoke/MethodHandle" ∧ q.1.cls ≠ "java/lang/invoke/VarHandle") ∧ Cond.instantiable q.1.cls q.2 ∈ tables_1 ∧ Cond.privateMethod q.1 ∈ tables_1 ∧ Cond.instanceMethod q.1 ∈ tables_1
theorem lw_p0 : lw_okq (⟨"PeatBanks$Moss", "hasDayLeft", "(I)Z"⟩, 14) := ⟨⟨by decide +kernel, by decide +kernel⟩, List.mem_of_getElem? (i := 19) (by decide +kernel), List.mem_of_getElem? (i := 293) (by decide +kernel), List.mem_of_getElem? (i := 294) (by decide +kernel)⟩
theorem lw_p1 : lw_okq (⟨"PeatBanks$Moss", "hasRight", "(II)Z"⟩, 14) := ⟨⟨by decide +kernel, by decide +kernel⟩, List.mem_of_getElem? (i := 19) (by decide +kernel), List.mem_of_getElem? (i := 306) (by decide +kernel), List.mem_of_getElem? (i := 307) (by decide +kernel)⟩
theorem lw_p2 : lw_okq (⟨"PeatBanks$Rows", "isStacked", "(I)Z"⟩, 7) := ⟨⟨by decide +kernel, by decide +kernel⟩, List.mem_of_getElem? (i := 25) (by decide +kernel), List.mem_of_getElem? (i := 349) (by decide +kernel), List.mem_of_getElem? (i := 350) (by decide +kernel)⟩
theorem lw_p3 : lw_okq (⟨"PeatBanks$Moss", "serve", "(I)V"⟩, 14) := ⟨⟨by decide +kernel, by decide +kernel⟩, List.mem_of_getElem? (i := 19) (by decide +kernel), List.mem_of_getElem? (i := 379) (by decide +kernel), List.mem_of_getElem? (i := 380) (by decide +kernel)⟩
theorem lw_p4 : lw_okq (⟨"PeatBanks$DayText", "openGroup", "(I)V"⟩, 5) := ⟨⟨by decide +kernel, by decide +kernel⟩, List.mem_of_getElem? (i := 180) (by decide +kernel), List.mem_of_getElem? (i := 406) (by decide +kernel), List.mem_of_getElem? (i := 407) (by decide +kernel)⟩
theorem lw_p5 : lw_okq (⟨"PeatBanks$Moss", "useDayIfLeft", "(I)V"⟩, 14) := ⟨⟨by decide +kernel, by decide +kernel⟩, List.mem_of_getElem? (i := 19) (by decide +kernel), List.mem_of_getElem? (i := 426) (by decide +kernel), List.mem_of_getElem? (i := 427) (by decide +kernel)⟩
theorem lw_p6 : lw_okq (⟨"PeatBanks$Moss", "givePeats", "(II)V"⟩, 14) := ⟨⟨by decide +kernel, by decide +kernel⟩, List.mem_of_getElem? (i := 19) (by decide +kernel), List.mem_of_getElem? (i := 430) (by decide +kernel), List.mem_of_getElem? (i := 431) (by decide +kernel)⟩
theorem lw_p7 : lw_okq (⟨"PeatBanks$Rows", "isLyingOf", "(II)Z"⟩, 7) := ⟨⟨by decide +kernel, by decide +kernel⟩, List.mem_of_getElem? (i := 25) (by decide +kernel), List.mem_of_getElem? (i := 486) (by decide +kernel), List.mem_of_getElem? (i := 487) (by decide +kernel)⟩
theorem lw_p8 : lw_okq (⟨"PeatBanks$Rows", "countDrierThan", "(II)I"⟩, 7) := ⟨⟨by decide +kernel, by decide +kernel⟩, List.mem_of_getElem? (i := 25) (by decide +kernel), List.mem_of_getElem? (i := 516) (by decide +kernel), List.mem_of_getElem? (i := 517) (by decide +kernel)⟩
theorem lw_p9 : lw_okq (⟨"PeatBanks$Rows", "comesBefore", "(II)Z"⟩, 7) := ⟨⟨by decide +kernel, by decide +kernel⟩, List.mem_of_getElem? (i := 25) (by decide +kernel), List.mem_of_getElem? (i := 520) (by decide +kernel), List.mem_of_getElem? (i := 521) (by decide +kernel)⟩
theorem lw_p10 : lw_okq (⟨"PeatBanksModel", "ofPlot", "(II)I"⟩, 13) := ⟨⟨by decide +kernel, by decide +kernel⟩, List.mem_of_getElem? (i := 557) (by decide +kernel), List.mem_of_getElem? (i := 616) (by decide +kernel), List.mem_of_getElem? (i := 617) (by decide +kernel)⟩
theorem lw_p11 : lw_okq (⟨"PeatBanksModel", "records", "()V"⟩, 13) := ⟨⟨by decide +kernel, by decide +kernel⟩, List.mem_of_getElem? (i := 557) (by decide +kernel), List.mem_of_getElem? (i := 620) (by decide +kernel), List.mem_of_getElem? (i := 621) (by decide +kernel)⟩
theorem lw_p12 : lw_okq (⟨"PeatBanksModel", "ofCommoner", "(II)I"⟩, 13) := ⟨⟨by decide +kernel, by decide +kernel⟩, List.mem_of_getElem? (i := 557) (by decide +kernel), List.mem_of_getElem? (i := 632) (by decide +kernel), List.mem_of_getElem? (i := 633) (by decide +kernel)⟩
theorem lw_p13 : lw_okq (⟨"PeatBanksModel", "addCommoner", "(III)V"⟩, 13) := ⟨⟨by decide +kernel, by decide +kernel⟩, List.mem_of_getElem? (i := 557) (by decide +kernel), List.mem_of_getElem? (i := 636) (by decide +kernel), List.mem_of_getElem? (i := 637) (by decide +kernel)⟩
theorem lw_p14 : lw_okq (⟨"PeatBanksModel", "reason", "(II)I"⟩, 13) := ⟨⟨by decide +kernel, by decide +kernel⟩, List.mem_of_getElem? (i := 557) (by decide +kernel), List.mem_of_getElem? (i := 648) (by decide +kernel), List.mem_of_getElem? (i := 649) (by decide +kernel)⟩
theorem lw_p15 : lw_okq (⟨"PeatBanksModel", "hasRight", "(II)Z"⟩, 13) := ⟨⟨by decide +kernel, by decide +kernel⟩, List.mem_of_getElem? (i := 557) (by decide +kernel), List.mem_of_getElem? (i := 652) (by decide +kernel), List.mem_of_getElem? (i := 653) (by decide +kernel)⟩
def lw_privs_1 : List (MethodName × Nat) := [(⟨"PeatBanks$Moss", "hasDayLeft", "(I)Z"⟩, 14), (⟨"PeatBanks$Moss", "hasRight", "(II)Z"⟩, 14), (⟨"PeatBanks$Rows", "isStacked", "(I)Z"⟩, 7), (⟨"PeatBanks$Moss", "serve", "(I)V"⟩, 14), (⟨"PeatBanks$DayText", "openGroup", "(I)V"⟩, 5), (⟨"PeatBanks$Moss", "useDayIfLeft", "(I)V"⟩, 14), (⟨"PeatBanks$Moss", "givePeats", "(II)V"⟩, 14), (⟨"PeatBanks$Rows", "isLyingOf", "(II)Z"⟩, 7), (⟨"PeatBanks$Rows", "countDrierThan", "(II)I"⟩, 7), (⟨"PeatBanks$Rows", "comesBefore", "(II)Z"⟩, 7), (⟨"PeatBanksModel", "ofPlot", "(II)I"⟩, 13), (⟨"PeatBanksModel", "records", "()V"⟩, 13), (⟨"PeatBanksModel", "ofCommoner", "(II)I"⟩, 13), (⟨"PeatBanksModel", "addCommoner", "(III)V"⟩, 13), (⟨"PeatBanksModel", "reason", "(II)I"⟩, 13), (⟨"PeatBanksModel", "hasRight", "(II)Z"⟩, 13)]
theorem lw_r1 : ∀ q ∈ lw_privs_1, lw_okq q := List.forall_mem_cons.mpr ⟨lw_p0, List.forall_mem_cons.mpr ⟨lw_p1, List.forall_mem_cons.mpr ⟨lw_p2, List.forall_mem_cons.mpr ⟨lw_p3, List.forall_mem_cons.mpr ⟨lw_p4, List.forall_mem_cons.mpr ⟨lw_p5, List.forall_mem_cons.mpr ⟨lw_p6, List.forall_mem_cons.mpr ⟨lw_p7, List.forall_mem_cons.mpr ⟨lw_p8, List.forall_mem_cons.mpr ⟨lw_p9, List.forall_mem_cons.mpr ⟨lw_p10, List.forall_mem_cons.mpr ⟨lw_p11, List.forall_mem_cons.mpr ⟨lw_p12, List.forall_mem_cons.mpr ⟨lw_p13, List.forall_mem_cons.mpr ⟨lw_p14, List.forall_mem_cons.mpr ⟨lw_p15, fun _ h => absurd h List.not_mem_nil⟩⟩⟩⟩⟩⟩⟩⟩⟩⟩⟩⟩⟩⟩⟩⟩
theorem lw_p16 : lw_okq (⟨"PeatBanksModel", "layRow", "(III)V"⟩, 13) := ⟨⟨by decide +kernel, by decide +kernel⟩, List.mem_of_getElem? (i := 557) (by decide +kernel), List.mem_of_getElem? (i := 656) (by decide +kernel), List.mem_of_getElem? (i := 657) (by decide +kernel)⟩
theorem lw_p17 : lw_okq (⟨"PeatBanksModel", "opensDispute", "(III)V"⟩, 13) := ⟨⟨by decide +kernel, by decide +kernel⟩, List.mem_of_getElem? (i := 557) (by decide +kernel), List.mem_of_getElem? (i := 660) (by decide +kernel), List.mem_of_getElem? (i := 661) (by decide +kernel)⟩
theorem lw_p18 : lw_okq (⟨"PeatBanksModel", "placeOf", "(I)I"⟩, 13) := ⟨⟨by decide +kernel, by decide +kernel⟩, List.mem_of_getElem? (i := 557) (by decide +kernel), List.mem_of_getElem? (i := 668) (by decide +kernel), List.mem_of_getElem? (i := 669) (by decide +kernel)⟩
theorem lw_p19 : lw_okq (⟨"PeatBanksModel", "ofRow", "(II)I"⟩, 13) := ⟨⟨by decide +kernel, by decide +kernel⟩, List.mem_of_getElem? (i := 557) (by decide +kernel), List.mem_of_getElem? (i := 672) (by decide +kernel), List.mem_of_getElem? (i := 673) (by decide +kernel)⟩
theorem lw_p20 : lw_okq (⟨"PeatBanksModel", "rowsOf", "(IZ)I"⟩, 13) := ⟨⟨by decide +kernel, by decide +kernel⟩, List.mem_of_getElem? (i := 557) (by decide +kernel), List.mem_of_getElem? (i := 680) (by decide +kernel), List.mem_of_getElem? (i := 681) (by decide +kernel)⟩
theorem lw_p21 : lw_okq (⟨"PeatBanksModel", "passes", "(I)I"⟩, 13) := ⟨⟨by decide +kernel, by decide +kernel⟩, List.mem_of_getElem? (i := 557) (by decide +kernel), List.mem_of_getElem? (i := 688) (by decide +kernel), List.mem_of_getElem? (i := 689) (by decide +kernel)⟩
theorem lw_p22 : lw_okq (⟨"PeatBanksModel", "weathers", "(I)V"⟩, 13) := ⟨⟨by decide +kernel, by decide +kernel⟩, List.mem_of_getElem? (i := 557) (by decide +kernel), List.mem_of_getElem? (i := 692) (by decide +kernel), List.mem_of_getElem? (i := 693) (by decide +kernel)⟩
theorem lw_p23 : lw_okq (⟨"PeatBanksModel", "serves", "(I)I"⟩, 13) := ⟨⟨by decide +kernel, by decide +kernel⟩, List.mem_of_getElem? (i := 557) (by decide +kernel), List.mem_of_getElem? (i := 699) (by decide +kernel), List.mem_of_getElem? (i := 700) (by decide +kernel)⟩
theorem lw_p24 : lw_okq (⟨"PeatBanksModel", "nextFor", "(I)I"⟩, 13) := ⟨⟨by decide +kernel, by decide +kernel⟩, List.mem_of_getElem? (i := 557) (by decide +kernel), List.mem_of_getElem? (i := 703) (by decide +kernel), List.mem_of_getElem? (i := 704) (by decide +kernel)⟩
theorem lw_p25 : lw_okq (⟨"PeatBanksModel", "brings", "(I)I"⟩, 13) := ⟨⟨by decide +kernel, by decide +kernel⟩, List.mem_of_getElem? (i := 557) (by decide +kernel), List.mem_of_getElem? (i := 707) (by decide +kernel), List.mem_of_getElem? (i := 708) (by decide +kernel)⟩
theorem lw_p26 : lw_okq (⟨"PeatBanksModel", "leaves", "(I)V"⟩, 13) := ⟨⟨by decide +kernel, by decide +kernel⟩, List.mem_of_getElem? (i := 557) (by decide +kernel), List.mem_of_getElem? (i := 711) (by decide +kernel), List.mem_of_getElem? (i := 712) (by decide +kernel)⟩
theorem lw_p27 : lw_okq (⟨"PeatBanksModel", "reads", "()I"⟩, 13) := ⟨⟨by decide +kernel, by decide +kernel⟩, List.mem_of_getElem? (i := 557) (by decide +kernel), List.mem_of_getElem? (i := 719) (by decide +kernel), List.mem_of_getElem? (i := 720) (by decide +kernel)⟩
theorem lw_p28 : lw_okq (⟨"PeatBanksModel", "readsGroup", "()V"⟩, 13) := ⟨⟨by decide +kernel, by decide +kernel⟩, List.mem_of_getElem? (i := 557) (by decide +kernel), List.mem_of_getElem? (i := 723) (by decide +kernel), List.mem_of_getElem? (i := 724) (by decide +kernel)⟩
theorem lw_p29 : lw_okq (⟨"PeatBanksModel", "sign", "()I"⟩, 13) := ⟨⟨by decide +kernel, by decide +kernel⟩, List.mem_of_getElem? (i := 557) (by decide +kernel), List.mem_of_getElem? (i := 727) (by decide +kernel), List.mem_of_getElem? (i := 728) (by decide +kernel)⟩
theorem lw_p30 : lw_okq (⟨"PeatBanksModel", "number", "()I"⟩, 13) := ⟨⟨by decide +kernel, by decide +kernel⟩, List.mem_of_getElem? (i := 557) (by decide +kernel), List.mem_of_getElem? (i := 731) (by decide +kernel), List.mem_of_getElem? (i := 732) (by decide +kernel)⟩
theorem lw_p31 : lw_okq (⟨"PeatBanksModel", "ofDispute", "(II)I"⟩, 13) := ⟨⟨by decide +kernel, by decide +kernel⟩, List.mem_of_getElem? (i := 557) (by decide +kernel), List.mem_of_getElem? (i := 739) (by decide +kernel), List.mem_of_getElem? (i := 740) (by decide +kernel)⟩
def lw_privs_2 : List (MethodName × Nat) := [(⟨"PeatBanksModel", "layRow", "(III)V"⟩, 13), (⟨"PeatBanksModel", "opensDispute", "(III)V"⟩, 13), (⟨"PeatBanksModel", "placeOf", "(I)I"⟩, 13), (⟨"PeatBanksModel", "ofRow", "(II)I"⟩, 13), (⟨"PeatBanksModel", "rowsOf", "(IZ)I"⟩, 13), (⟨"PeatBanksModel", "passes", "(I)I"⟩, 13), (⟨"PeatBanksModel", "weathers", "(I)V"⟩, 13), (⟨"PeatBanksModel", "serves", "(I)I"⟩, 13), (⟨"PeatBanksModel", "nextFor", "(I)I"⟩, 13), (⟨"PeatBanksModel", "brings", "(I)I"⟩, 13), (⟨"PeatBanksModel", "leaves", "(I)V"⟩, 13), (⟨"PeatBanksModel", "reads", "()I"⟩, 13), (⟨"PeatBanksModel", "readsGroup", "()V"⟩, 13), (⟨"PeatBanksModel", "sign", "()I"⟩, 13), (⟨"PeatBanksModel", "number", "()I"⟩, 13), (⟨"PeatBanksModel", "ofDispute", "(II)I"⟩, 13)]
theorem lw_r2 : ∀ q ∈ lw_privs_2, lw_okq q := List.forall_mem_cons.mpr ⟨lw_p16, List.forall_mem_cons.mpr ⟨lw_p17, List.forall_mem_cons.mpr ⟨lw_p18, List.forall_mem_cons.mpr ⟨lw_p19, List.forall_mem_cons.mpr ⟨lw_p20, List.forall_mem_cons.mpr ⟨lw_p21, List.forall_mem_cons.mpr ⟨lw_p22, List.forall_mem_cons.mpr ⟨lw_p23, List.forall_mem_cons.mpr ⟨lw_p24, List.forall_mem_cons.mpr ⟨lw_p25, List.forall_mem_cons.mpr ⟨lw_p26, List.forall_mem_cons.mpr ⟨lw_p27, List.forall_mem_cons.mpr ⟨lw_p28, List.forall_mem_cons.mpr ⟨lw_p29, List.forall_mem_cons.mpr ⟨lw_p30, List.forall_mem_cons.mpr ⟨lw_p31, fun _ h => absurd h List.not_mem_nil⟩⟩⟩⟩⟩⟩⟩⟩⟩⟩⟩⟩⟩⟩⟩⟩
theorem lw_p32 : lw_okq (⟨"PeatBanksModel", "dropsOldest", "()V"⟩, 13) := ⟨⟨by decide +kernel, by decide +kernel⟩, List.mem_of_getElem? (i := 557) (by decide +kernel), List.mem_of_getElem? (i := 743) (by decide +kernel), List.mem_of_getElem? (i := 744) (by decide +kernel)⟩
theorem lw_p33 : lw_okq (⟨"PeatBanksModel", "plotsOf", "(II)I"⟩, 13) := ⟨⟨by decide +kernel, by decide +kernel⟩, List.mem_of_getElem? (i := 557) (by decide +kernel), List.mem_of_getElem? (i := 775) (by decide +kernel), List.mem_of_getElem? (i := 776) (by decide +kernel)⟩
theorem lw_p34 : lw_okq (⟨"PeatBanksModel", "disputesOf", "(I)I"⟩, 13) := ⟨⟨by decide +kernel, by decide +kernel⟩, List.mem_of_getElem? (i := 557) (by decide +kernel), List.mem_of_getElem? (i := 779) (by decide +kernel), List.mem_of_getElem? (i := 780) (by decide +kernel)⟩
theorem lw_p35 : lw_okq (⟨"PeatBanksModel", "ahead", "(I)I"⟩, 13) := ⟨⟨by decide +kernel, by decide +kernel⟩, List.mem_of_getElem? (i := 557) (by decide +kernel), List.mem_of_getElem? (i := 795) (by decide +kernel), List.mem_of_getElem? (i := 796) (by decide +kernel)⟩
theorem lw_p36 : lw_okq (⟨"PeatBanksModel", "rowsThat", "(I)I"⟩, 13) := ⟨⟨by decide +kernel, by decide +kernel⟩, List.mem_of_getElem? (i := 557) (by decide +kernel), List.mem_of_getElem? (i := 819) (by decide +kernel), List.mem_of_getElem? (i := 820) (by decide +kernel)⟩
theorem lw_p37 : lw_okq (⟨"PeatBanksModel", "allPeats", "()I"⟩, 13) := ⟨⟨by decide +kernel, by decide +kernel⟩, List.mem_of_getElem? (i := 557) (by decide +kernel), List.mem_of_getElem? (i := 823) (by decide +kernel), List.mem_of_getElem? (i := 824) (by decide +kernel)⟩
theorem lw_p38 : lw_okq (⟨"PeatBanksModel", "allLayers", "()I"⟩, 13) := ⟨⟨by decide +kernel, by decide +kernel⟩, List.mem_of_getElem? (i := 557) (by decide +kernel), List.mem_of_getElem? (i := 827) (by decide +kernel), List.mem_of_getElem? (i := 828) (by decide +kernel)⟩
def lw_privs_3 : List (MethodName × Nat) := [(⟨"PeatBanksModel", "dropsOldest", "()V"⟩, 13), (⟨"PeatBanksModel", "plotsOf", "(II)I"⟩, 13), (⟨"PeatBanksModel", "disputesOf", "(I)I"⟩, 13), (⟨"PeatBanksModel", "ahead", "(I)I"⟩, 13), (⟨"PeatBanksModel", "rowsThat", "(I)I"⟩, 13), (⟨"PeatBanksModel", "allPeats", "()I"⟩, 13), (⟨"PeatBanksModel", "allLayers", "()I"⟩, 13)]
theorem lw_r3 : ∀ q ∈ lw_privs_3, lw_okq q := List.forall_mem_cons.mpr ⟨lw_p32, List.forall_mem_cons.mpr ⟨lw_p33, List.forall_mem_cons.mpr ⟨lw_p34, List.forall_mem_cons.mpr ⟨lw_p35, List.forall_mem_cons.mpr ⟨lw_p36, List.forall_mem_cons.mpr ⟨lw_p37, List.forall_mem_cons.mpr ⟨lw_p38, fun _ h => absurd h List.not_mem_nil⟩⟩⟩⟩⟩⟩⟩
def lw_privs : List (MethodName × Nat) := lw_privs_1 ++ (lw_privs_2 ++ (lw_privs_3))
def lw_tbl : List Cond := k2_sels lw_privs ++ tables_1
theorem lw_privs_ok : ∀ q ∈ lw_privs, lw_okq q := by
  show ∀ q ∈ lw_privs_1 ++ (lw_privs_2 ++ (lw_privs_3)), lw_okq q
  exact List.forall_mem_append.mpr ⟨lw_r1, List.forall_mem_append.mpr ⟨lw_r2, lw_r3⟩⟩
end
section
def RX0 : String := "PeatBanks$DayText"
def TX0 : u_T := fun k => match k with
  | 0 => ("PeatBanks$DayText", "characters", "[C", true)
  | 1 => ("PeatBanks$DayText", "length", "I", false)
  | 2 => ("PeatBanks$DayText", "groupWeather", "[I", true)
  | 3 => ("PeatBanks$DayText", "groupDays", "[I", true)
  | _ => ("PeatBanks$DayText", "groups", "I", false)
def tyX0 : Nat → FieldType := fun k => match k with
  | 0 => .array .char
  | 1 => .int
  | 2 => .array .int
  | 3 => .array .int
  | _ => .int
abbrev wsX00 : List Cond := u_ws RX0 TX0 5
theorem nmX0 : ∀ a, a < 5 → ∀ b, b < 5 → a ≠ b → (TX0 a).2.1 ≠ (TX0 b).2.1 := by decide +kernel
theorem tyX0_ok : ∀ k, k < 5 → parseFieldDescriptor (TX0 k).2.2.1 = some (tyX0 k) := by decide +kernel
abbrev cX0_init : ByteArray := prog_2_method_1_code
def yX0_init : MethodName := ⟨RX0, "<init>", "()V"⟩
abbrev cX0_append : ByteArray := prog_2_method_2_code
def yX0_append : MethodName := ⟨RX0, "append", "(C)Z"⟩
abbrev cX0_readGroups : ByteArray := prog_2_method_3_code
def yX0_readGroups : MethodName := ⟨RX0, "readGroups", "()I"⟩
abbrev cX0_openGroup : ByteArray := prog_2_method_4_code
def yX0_openGroup : MethodName := ⟨RX0, "openGroup", "(I)V"⟩
abbrev cX0_isDigit : ByteArray := prog_2_method_5_code
def yX0_isDigit : MethodName := ⟨RX0, "isDigit", "(C)Z"⟩
abbrev cX0_isWeatherLetter : ByteArray := prog_2_method_6_code
def yX0_isWeatherLetter : MethodName := ⟨RX0, "isWeatherLetter", "(C)Z"⟩
abbrev cX0_weatherOf : ByteArray := prog_2_method_7_code
def yX0_weatherOf : MethodName := ⟨RX0, "weatherOf", "(C)I"⟩
def RX1 : String := "PeatBanks$Disputes"
def TX1 : u_T := fun k => match k with
  | 0 => ("PeatBanks$Disputes", "cutter", "[I", true)
  | 1 => ("PeatBanks$Disputes", "wronged", "[I", true)
  | 2 => ("PeatBanks$Disputes", "row", "[I", true)
  | 3 => ("PeatBanks$Disputes", "plot", "[I", true)
  | 4 => ("PeatBanks$Disputes", "settled", "I", false)
  | _ => ("PeatBanks$Disputes", "soFar", "I", false)
def tyX1 : Nat → FieldType := fun k => match k with
  | 0 => .array .int
  | 1 => .array .int
  | 2 => .array .int
  | 3 => .array .int
  | 4 => .int
  | _ => .int
abbrev wsX10 : List Cond := u_ws RX1 TX1 6
theorem nmX1 : ∀ a, a < 6 → ∀ b, b < 6 → a ≠ b → (TX1 a).2.1 ≠ (TX1 b).2.1 := by decide +kernel
theorem tyX1_ok : ∀ k, k < 6 → parseFieldDescriptor (TX1 k).2.2.1 = some (tyX1 k) := by decide +kernel
abbrev cX1_init : ByteArray := prog_3_method_1_code
def yX1_init : MethodName := ⟨RX1, "<init>", "()V"⟩
abbrev cX1_copyFrom : ByteArray := prog_3_method_2_code
def yX1_copyFrom : MethodName := ⟨RX1, "copyFrom", "(LPeatBanks$Disputes;)V"⟩
abbrev cX1_open : ByteArray := prog_3_method_3_code
def yX1_open : MethodName := ⟨RX1, "open", "(IIII)V"⟩
abbrev cX1_countOpen : ByteArray := prog_3_method_4_code
def yX1_countOpen : MethodName := ⟨RX1, "countOpen", "()I"⟩
abbrev cX1_countOpenWith : ByteArray := prog_3_method_5_code
def yX1_countOpenWith : MethodName := ⟨RX1, "countOpenWith", "(I)I"⟩
def RX2 : String := "PeatBanks$History"
def TX2 : u_T := fun k => match k with
  | 0 => ("PeatBanks$History", "latest", "LPeatBanks$Moss;", false)
  | 1 => ("PeatBanks$History", "second", "LPeatBanks$Moss;", false)
  | 2 => ("PeatBanks$History", "third", "LPeatBanks$Moss;", false)
  | 3 => ("PeatBanks$History", "oldest", "LPeatBanks$Moss;", false)
  | _ => ("PeatBanks$History", "states", "I", false)
def tyX2 : Nat → FieldType := fun k => match k with
  | 0 => .object "PeatBanks$Moss"
  | 1 => .object "PeatBanks$Moss"
  | 2 => .object "PeatBanks$Moss"
  | 3 => .object "PeatBanks$Moss"
  | _ => .int
abbrev wsX20 : List Cond := u_ws RX2 TX2 5
theorem nmX2 : ∀ a, a < 5 → ∀ b, b < 5 → a ≠ b → (TX2 a).2.1 ≠ (TX2 b).2.1 := by decide +kernel
theorem tyX2_ok : ∀ k, k < 5 → parseFieldDescriptor (TX2 k).2.2.1 = some (tyX2 k) := by decide +kernel
abbrev cX2_init : ByteArray := prog_4_method_1_code
def yX2_init : MethodName := ⟨RX2, "<init>", "()V"⟩
abbrev cX2_record : ByteArray := prog_4_method_2_code
def yX2_record : MethodName := ⟨RX2, "record", "(LPeatBanks$Moss;)V"⟩
abbrev cX2_takeBack : ByteArray := prog_4_method_3_code
def yX2_takeBack : MethodName := ⟨RX2, "takeBack", "(LPeatBanks$Moss;)V"⟩
def RX3 : String := "PeatBanks$Moss"
def TX3 : u_T := fun k => match k with
  | 0 => ("PeatBanks$Moss", "layers", "[I", true)
  | 1 => ("PeatBanks$Moss", "owners", "[I", true)
  | 2 => ("PeatBanks$Moss", "rights", "[I", true)
  | 3 => ("PeatBanks$Moss", "days", "[I", true)
  | 4 => ("PeatBanks$Moss", "used", "[I", true)
  | 5 => ("PeatBanks$Moss", "hearths", "[I", true)
  | 6 => ("PeatBanks$Moss", "rows", "LPeatBanks$Rows;", true)
  | 7 => ("PeatBanks$Moss", "disputes", "LPeatBanks$Disputes;", true)
  | 8 => ("PeatBanks$Moss", "cartRows", "I", false)
  | 9 => ("PeatBanks$Moss", "stakes", "I", false)
  | 10 => ("PeatBanks$Moss", "rota", "I", false)
  | 11 => ("PeatBanks$Moss", "dayOfYear", "I", false)
  | 12 => ("PeatBanks$Moss", "years", "I", false)
  | _ => ("PeatBanks$Moss", "rowsHome", "I", false)
def tyX3 : Nat → FieldType := fun k => match k with
  | 0 => .array .int
  | 1 => .array .int
  | 2 => .array .int
  | 3 => .array .int
  | 4 => .array .int
  | 5 => .array .int
  | 6 => .object "PeatBanks$Rows"
  | 7 => .object "PeatBanks$Disputes"
  | 8 => .int
  | 9 => .int
  | 10 => .int
  | 11 => .int
  | 12 => .int
  | _ => .int
abbrev wsX30 : List Cond := u_ws RX3 TX3 14
theorem nmX3 : ∀ a, a < 14 → ∀ b, b < 14 → a ≠ b → (TX3 a).2.1 ≠ (TX3 b).2.1 := by decide +kernel
theorem tyX3_ok : ∀ k, k < 14 → parseFieldDescriptor (TX3 k).2.2.1 = some (tyX3 k) := by decide +kernel
abbrev cX3_init : ByteArray := prog_5_method_1_code
def yX3_init : MethodName := ⟨RX3, "<init>", "()V"⟩
abbrev cX3_copyFrom : ByteArray := prog_5_method_2_code
def yX3_copyFrom : MethodName := ⟨RX3, "copyFrom", "(LPeatBanks$Moss;)V"⟩
abbrev cX3_reasonAgainst : ByteArray := prog_5_method_3_code
def yX3_reasonAgainst : MethodName := ⟨RX3, "reasonAgainst", "(II)I"⟩
abbrev cX3_hasDayLeft : ByteArray := prog_5_method_4_code
def yX3_hasDayLeft : MethodName := ⟨RX3, "hasDayLeft", "(I)Z"⟩
abbrev cX3_hasRight : ByteArray := prog_5_method_5_code
def yX3_hasRight : MethodName := ⟨RX3, "hasRight", "(II)Z"⟩
abbrev cX3_takeLayer : ByteArray := prog_5_method_6_code
def yX3_takeLayer : MethodName := ⟨RX3, "takeLayer", "(II)I"⟩
abbrev cX3_passDays : ByteArray := prog_5_method_7_code
def yX3_passDays : MethodName := ⟨RX3, "passDays", "(II)I"⟩
abbrev cX3_commonerOfCart : ByteArray := prog_5_method_8_code
def yX3_commonerOfCart : MethodName := ⟨RX3, "commonerOfCart", "(I)I"⟩
abbrev cX3_serve : ByteArray := prog_5_method_9_code
def yX3_serve : MethodName := ⟨RX3, "serve", "(I)V"⟩
abbrev cX3_settleOldest : ByteArray := prog_5_method_10_code
def yX3_settleOldest : MethodName := ⟨RX3, "settleOldest", "()I"⟩
abbrev cX3_useDayIfLeft : ByteArray := prog_5_method_11_code
def yX3_useDayIfLeft : MethodName := ⟨RX3, "useDayIfLeft", "(I)V"⟩
abbrev cX3_givePeats : ByteArray := prog_5_method_12_code
def yX3_givePeats : MethodName := ⟨RX3, "givePeats", "(II)V"⟩
abbrev cX3_closeYear : ByteArray := prog_5_method_13_code
def yX3_closeYear : MethodName := ⟨RX3, "closeYear", "()I"⟩
def RX4 : String := "PeatBanks$Rows"
def TX4 : u_T := fun k => match k with
  | 0 => ("PeatBanks$Rows", "owner", "[I", true)
  | 1 => ("PeatBanks$Rows", "plot", "[I", true)
  | 2 => ("PeatBanks$Rows", "wetness", "[I", true)
  | 3 => ("PeatBanks$Rows", "turned", "[Z", true)
  | 4 => ("PeatBanks$Rows", "stacked", "[Z", true)
  | 5 => ("PeatBanks$Rows", "lying", "[Z", true)
  | _ => ("PeatBanks$Rows", "soFar", "I", false)
def tyX4 : Nat → FieldType := fun k => match k with
  | 0 => .array .int
  | 1 => .array .int
  | 2 => .array .int
  | 3 => .array .boolean
  | 4 => .array .boolean
  | 5 => .array .boolean
  | _ => .int
abbrev wsX40 : List Cond := u_ws RX4 TX4 7
theorem nmX4 : ∀ a, a < 7 → ∀ b, b < 7 → a ≠ b → (TX4 a).2.1 ≠ (TX4 b).2.1 := by decide +kernel
theorem tyX4_ok : ∀ k, k < 7 → parseFieldDescriptor (TX4 k).2.2.1 = some (tyX4 k) := by decide +kernel
abbrev cX4_init : ByteArray := prog_6_method_1_code
def yX4_init : MethodName := ⟨RX4, "<init>", "()V"⟩
abbrev cX4_copyFrom : ByteArray := prog_6_method_2_code
def yX4_copyFrom : MethodName := ⟨RX4, "copyFrom", "(LPeatBanks$Rows;)V"⟩
abbrev cX4_hasNumberLeft : ByteArray := prog_6_method_3_code
def yX4_hasNumberLeft : MethodName := ⟨RX4, "hasNumberLeft", "()Z"⟩
abbrev cX4_lay : ByteArray := prog_6_method_4_code
def yX4_lay : MethodName := ⟨RX4, "lay", "(II)I"⟩
abbrev cX4_isLying : ByteArray := prog_6_method_5_code
def yX4_isLying : MethodName := ⟨RX4, "isLying", "(I)Z"⟩
abbrev cX4_isLyingOf : ByteArray := prog_6_method_6_code
def yX4_isLyingOf : MethodName := ⟨RX4, "isLyingOf", "(II)Z"⟩
abbrev cX4_isStacked : ByteArray := prog_6_method_7_code
def yX4_isStacked : MethodName := ⟨RX4, "isStacked", "(I)Z"⟩
abbrev cX4_isDry : ByteArray := prog_6_method_8_code
def yX4_isDry : MethodName := ⟨RX4, "isDry", "(I)Z"⟩
abbrev cX4_peatsAtHearth : ByteArray := prog_6_method_9_code
def yX4_peatsAtHearth : MethodName := ⟨RX4, "peatsAtHearth", "(I)I"⟩
abbrev cX4_countLying : ByteArray := prog_6_method_10_code
def yX4_countLying : MethodName := ⟨RX4, "countLying", "()I"⟩
abbrev cX4_countStacked : ByteArray := prog_6_method_11_code
def yX4_countStacked : MethodName := ⟨RX4, "countStacked", "()I"⟩
abbrev cX4_countDry : ByteArray := prog_6_method_12_code
def yX4_countDry : MethodName := ⟨RX4, "countDry", "()I"⟩
abbrev cX4_countLyingOf : ByteArray := prog_6_method_13_code
def yX4_countLyingOf : MethodName := ⟨RX4, "countLyingOf", "(I)I"⟩
abbrev cX4_countStackedOf : ByteArray := prog_6_method_14_code
def yX4_countStackedOf : MethodName := ⟨RX4, "countStackedOf", "(I)I"⟩
abbrev cX4_driestOf : ByteArray := prog_6_method_15_code
def yX4_driestOf : MethodName := ⟨RX4, "driestOf", "(II)I"⟩
abbrev cX4_countDrierThan : ByteArray := prog_6_method_16_code
def yX4_countDrierThan : MethodName := ⟨RX4, "countDrierThan", "(II)I"⟩
abbrev cX4_comesBefore : ByteArray := prog_6_method_17_code
def yX4_comesBefore : MethodName := ⟨RX4, "comesBefore", "(II)Z"⟩
abbrev cX4_driestStackedOf : ByteArray := prog_6_method_18_code
def yX4_driestStackedOf : MethodName := ⟨RX4, "driestStackedOf", "(I)I"⟩
abbrev cX4_dryOrWet : ByteArray := prog_6_method_19_code
def yX4_dryOrWet : MethodName := ⟨RX4, "dryOrWet", "(I)V"⟩
abbrev cX4_changeBy : ByteArray := prog_6_method_20_code
def yX4_changeBy : MethodName := ⟨RX4, "changeBy", "(IZ)I"⟩
abbrev cX4_loseAll : ByteArray := prog_6_method_21_code
def yX4_loseAll : MethodName := ⟨RX4, "loseAll", "()I"⟩
def RX5 : String := "PeatBanks"
def TX5 : u_T := fun k => match k with
  | 0 => ("PeatBanks", "now", "LPeatBanks$Moss;", true)
  | 1 => ("PeatBanks", "kept", "LPeatBanks$Moss;", true)
  | 2 => ("PeatBanks", "trial", "LPeatBanks$Moss;", true)
  | 3 => ("PeatBanks", "history", "LPeatBanks$History;", true)
  | 4 => ("PeatBanks", "text", "LPeatBanks$DayText;", true)
  | _ => ("PeatBanks", "hasKept", "Z", false)
def tyX5 : Nat → FieldType := fun k => match k with
  | 0 => .object "PeatBanks$Moss"
  | 1 => .object "PeatBanks$Moss"
  | 2 => .object "PeatBanks$Moss"
  | 3 => .object "PeatBanks$History"
  | 4 => .object "PeatBanks$DayText"
  | _ => .boolean
abbrev wsX50 : List Cond := u_ws RX5 TX5 6
theorem nmX5 : ∀ a, a < 6 → ∀ b, b < 6 → a ≠ b → (TX5 a).2.1 ≠ (TX5 b).2.1 := by decide +kernel
theorem tyX5_ok : ∀ k, k < 6 → parseFieldDescriptor (TX5 k).2.2.1 = some (tyX5 k) := by decide +kernel
abbrev cX5_init : ByteArray := prog_1_method_1_code
def yX5_init : MethodName := ⟨RX5, "<init>", "()V"⟩
abbrev cX5_lend : ByteArray := prog_1_method_2_code
def yX5_lend : MethodName := ⟨RX5, "lend", "(II)I"⟩
abbrev cX5_handOver : ByteArray := prog_1_method_3_code
def yX5_handOver : MethodName := ⟨RX5, "handOver", "(II)I"⟩
abbrev cX5_setDays : ByteArray := prog_1_method_4_code
def yX5_setDays : MethodName := ⟨RX5, "setDays", "(II)I"⟩
abbrev cX5_set : ByteArray := prog_1_method_5_code
def yX5_set : MethodName := ⟨RX5, "set", "(II)I"⟩
abbrev cX5_cut : ByteArray := prog_1_method_6_code
def yX5_cut : MethodName := ⟨RX5, "cut", "(II)I"⟩
abbrev cX5_turn : ByteArray := prog_1_method_7_code
def yX5_turn : MethodName := ⟨RX5, "turn", "(I)I"⟩
abbrev cX5_stack : ByteArray := prog_1_method_8_code
def yX5_stack : MethodName := ⟨RX5, "stack", "(I)I"⟩
abbrev cX5_pass : ByteArray := prog_1_method_9_code
def yX5_pass : MethodName := ⟨RX5, "pass", "(I)I"⟩
abbrev cX5_passAll : ByteArray := prog_1_method_10_code
def yX5_passAll : MethodName := ⟨RX5, "passAll", "()I"⟩
abbrev cX5_settle : ByteArray := prog_1_method_11_code
def yX5_settle : MethodName := ⟨RX5, "settle", "()I"⟩
abbrev cX5_endYear : ByteArray := prog_1_method_12_code
def yX5_endYear : MethodName := ⟨RX5, "endYear", "()I"⟩
abbrev cX5_type : ByteArray := prog_1_method_13_code
def yX5_type : MethodName := ⟨RX5, "type", "(C)I"⟩
abbrev cX5_clearText : ByteArray := prog_1_method_14_code
def yX5_clearText : MethodName := ⟨RX5, "clearText", "()I"⟩
abbrev cX5_undo : ByteArray := prog_1_method_15_code
def yX5_undo : MethodName := ⟨RX5, "undo", "()I"⟩
abbrev cX5_keep : ByteArray := prog_1_method_16_code
def yX5_keep : MethodName := ⟨RX5, "keep", "()I"⟩
abbrev cX5_restore : ByteArray := prog_1_method_17_code
def yX5_restore : MethodName := ⟨RX5, "restore", "()I"⟩
abbrev cX5_commoner : ByteArray := prog_1_method_18_code
def yX5_commoner : MethodName := ⟨RX5, "commoner", "(II)I"⟩
abbrev cX5_plot : ByteArray := prog_1_method_19_code
def yX5_plot : MethodName := ⟨RX5, "plot", "(II)I"⟩
abbrev cX5_row : ByteArray := prog_1_method_20_code
def yX5_row : MethodName := ⟨RX5, "row", "(II)I"⟩
abbrev cX5_driest : ByteArray := prog_1_method_21_code
def yX5_driest : MethodName := ⟨RX5, "driest", "(II)I"⟩
abbrev cX5_why : ByteArray := prog_1_method_22_code
def yX5_why : MethodName := ⟨RX5, "why", "(II)I"⟩
abbrev cX5_dispute : ByteArray := prog_1_method_23_code
def yX5_dispute : MethodName := ⟨RX5, "dispute", "(II)I"⟩
abbrev cX5_cart : ByteArray := prog_1_method_24_code
def yX5_cart : MethodName := ⟨RX5, "cart", "(I)I"⟩
abbrev cX5_would : ByteArray := prog_1_method_25_code
def yX5_would : MethodName := ⟨RX5, "would", "(II)I"⟩
abbrev cX5_count : ByteArray := prog_1_method_26_code
def yX5_count : MethodName := ⟨RX5, "count", "(I)I"⟩
abbrev cX5_isWithin : ByteArray := prog_1_method_27_code
def yX5_isWithin : MethodName := ⟨RX5, "isWithin", "(III)Z"⟩
abbrev cX5_isCommoner : ByteArray := prog_1_method_28_code
def yX5_isCommoner : MethodName := ⟨RX5, "isCommoner", "(I)Z"⟩
abbrev cX5_isPlot : ByteArray := prog_1_method_29_code
def yX5_isPlot : MethodName := ⟨RX5, "isPlot", "(I)Z"⟩
abbrev cX5_isWeather : ByteArray := prog_1_method_30_code
def yX5_isWeather : MethodName := ⟨RX5, "isWeather", "(I)Z"⟩
abbrev cX5_isSettingValue : ByteArray := prog_1_method_31_code
def yX5_isSettingValue : MethodName := ⟨RX5, "isSettingValue", "(II)Z"⟩
abbrev cX5_oneIf : ByteArray := prog_1_method_32_code
def yX5_oneIf : MethodName := ⟨RX5, "oneIf", "(Z)I"⟩
abbrev cX5_countEqual : ByteArray := prog_1_method_33_code
def yX5_countEqual : MethodName := ⟨RX5, "countEqual", "([II)I"⟩
abbrev cX5_sumOf : ByteArray := prog_1_method_34_code
def yX5_sumOf : MethodName := ⟨RX5, "sumOf", "([I)I"⟩
abbrev cX5_copyNumbers : ByteArray := prog_1_method_35_code
def yX5_copyNumbers : MethodName := ⟨RX5, "copyNumbers", "([I[I)V"⟩
abbrev cX5_copyFlags : ByteArray := prog_1_method_36_code
def yX5_copyFlags : MethodName := ⟨RX5, "copyFlags", "([Z[Z)V"⟩
def RX6 : String := "PeatBanksModel"
def TX6 : u_T := fun k => match k with
  | 0 => ("PeatBanksModel", "thrown", "I", false)
  | 1 => ("PeatBanksModel", "s", "[I", true)
  | 2 => ("PeatBanksModel", "aside", "[I", true)
  | 3 => ("PeatBanksModel", "saved", "[I", true)
  | 4 => ("PeatBanksModel", "savedMany", "I", false)
  | 5 => ("PeatBanksModel", "snapshot", "[I", true)
  | 6 => ("PeatBanksModel", "hasSnapshot", "Z", false)
  | 7 => ("PeatBanksModel", "text", "[I", true)
  | 8 => ("PeatBanksModel", "length", "I", false)
  | 9 => ("PeatBanksModel", "at", "I", false)
  | 10 => ("PeatBanksModel", "isWell", "Z", false)
  | 11 => ("PeatBanksModel", "groups", "[I", true)
  | _ => ("PeatBanksModel", "groupMany", "I", false)
def tyX6 : Nat → FieldType := fun k => match k with
  | 0 => .int
  | 1 => .array .int
  | 2 => .array .int
  | 3 => .array .int
  | 4 => .int
  | 5 => .array .int
  | 6 => .boolean
  | 7 => .array .int
  | 8 => .int
  | 9 => .int
  | 10 => .boolean
  | 11 => .array .int
  | _ => .int
abbrev wsX60 : List Cond := u_ws RX6 TX6 13
theorem nmX6 : ∀ a, a < 13 → ∀ b, b < 13 → a ≠ b → (TX6 a).2.1 ≠ (TX6 b).2.1 := by decide +kernel
theorem tyX6_ok : ∀ k, k < 13 → parseFieldDescriptor (TX6 k).2.2.1 = some (tyX6 k) := by decide +kernel
abbrev cX6_init : ByteArray := prog_8_method_1_code
def yX6_init : MethodName := ⟨RX6, "<init>", "()V"⟩
abbrev cX6_in : ByteArray := prog_8_method_3_code
def yX6_in : MethodName := ⟨RX6, "in", "(III)Z"⟩
abbrev cX6_isCommoner : ByteArray := prog_8_method_4_code
def yX6_isCommoner : MethodName := ⟨RX6, "isCommoner", "(I)Z"⟩
abbrev cX6_isPlot : ByteArray := prog_8_method_5_code
def yX6_isPlot : MethodName := ⟨RX6, "isPlot", "(I)Z"⟩
abbrev cX6_ofCommoner : ByteArray := prog_8_method_6_code
def yX6_ofCommoner : MethodName := ⟨RX6, "ofCommoner", "(II)I"⟩
abbrev cX6_addCommoner : ByteArray := prog_8_method_7_code
def yX6_addCommoner : MethodName := ⟨RX6, "addCommoner", "(III)V"⟩
abbrev cX6_ofPlot : ByteArray := prog_8_method_8_code
def yX6_ofPlot : MethodName := ⟨RX6, "ofPlot", "(II)I"⟩
abbrev cX6_ofRow : ByteArray := prog_8_method_9_code
def yX6_ofRow : MethodName := ⟨RX6, "ofRow", "(II)I"⟩
abbrev cX6_layRow : ByteArray := prog_8_method_10_code
def yX6_layRow : MethodName := ⟨RX6, "layRow", "(III)V"⟩
abbrev cX6_ofDispute : ByteArray := prog_8_method_11_code
def yX6_ofDispute : MethodName := ⟨RX6, "ofDispute", "(II)I"⟩
abbrev cX6_placeOf : ByteArray := prog_8_method_12_code
def yX6_placeOf : MethodName := ⟨RX6, "placeOf", "(I)I"⟩
abbrev cX6_records : ByteArray := prog_8_method_13_code
def yX6_records : MethodName := ⟨RX6, "records", "()V"⟩
abbrev cX6_drier : ByteArray := prog_8_method_14_code
def yX6_drier : MethodName := ⟨RX6, "drier", "(II)I"⟩
abbrev cX6_weathers : ByteArray := prog_8_method_15_code
def yX6_weathers : MethodName := ⟨RX6, "weathers", "(I)V"⟩
abbrev cX6_brings : ByteArray := prog_8_method_16_code
def yX6_brings : MethodName := ⟨RX6, "brings", "(I)I"⟩
abbrev cX6_leaves : ByteArray := prog_8_method_17_code
def yX6_leaves : MethodName := ⟨RX6, "leaves", "(I)V"⟩
abbrev cX6_nextFor : ByteArray := prog_8_method_18_code
def yX6_nextFor : MethodName := ⟨RX6, "nextFor", "(I)I"⟩
abbrev cX6_serves : ByteArray := prog_8_method_19_code
def yX6_serves : MethodName := ⟨RX6, "serves", "(I)I"⟩
abbrev cX6_passes : ByteArray := prog_8_method_20_code
def yX6_passes : MethodName := ⟨RX6, "passes", "(I)I"⟩
abbrev cX6_lend : ByteArray := prog_8_method_21_code
def yX6_lend : MethodName := ⟨RX6, "lend", "(II)I"⟩
abbrev cX6_handOver : ByteArray := prog_8_method_22_code
def yX6_handOver : MethodName := ⟨RX6, "handOver", "(II)I"⟩
abbrev cX6_setDays : ByteArray := prog_8_method_23_code
def yX6_setDays : MethodName := ⟨RX6, "setDays", "(II)I"⟩
abbrev cX6_set : ByteArray := prog_8_method_24_code
def yX6_set : MethodName := ⟨RX6, "set", "(II)I"⟩
abbrev cX6_hasRight : ByteArray := prog_8_method_25_code
def yX6_hasRight : MethodName := ⟨RX6, "hasRight", "(II)Z"⟩
abbrev cX6_reason : ByteArray := prog_8_method_26_code
def yX6_reason : MethodName := ⟨RX6, "reason", "(II)I"⟩
abbrev cX6_opensDispute : ByteArray := prog_8_method_27_code
def yX6_opensDispute : MethodName := ⟨RX6, "opensDispute", "(III)V"⟩
abbrev cX6_cut : ByteArray := prog_8_method_28_code
def yX6_cut : MethodName := ⟨RX6, "cut", "(II)I"⟩
abbrev cX6_turn : ByteArray := prog_8_method_29_code
def yX6_turn : MethodName := ⟨RX6, "turn", "(I)I"⟩
abbrev cX6_rowsOf : ByteArray := prog_8_method_30_code
def yX6_rowsOf : MethodName := ⟨RX6, "rowsOf", "(IZ)I"⟩
abbrev cX6_stack : ByteArray := prog_8_method_31_code
def yX6_stack : MethodName := ⟨RX6, "stack", "(I)I"⟩
abbrev cX6_pass : ByteArray := prog_8_method_32_code
def yX6_pass : MethodName := ⟨RX6, "pass", "(I)I"⟩
abbrev cX6_passAll : ByteArray := prog_8_method_33_code
def yX6_passAll : MethodName := ⟨RX6, "passAll", "()I"⟩
abbrev cX6_dropsOldest : ByteArray := prog_8_method_34_code
def yX6_dropsOldest : MethodName := ⟨RX6, "dropsOldest", "()V"⟩
abbrev cX6_settle : ByteArray := prog_8_method_35_code
def yX6_settle : MethodName := ⟨RX6, "settle", "()I"⟩
abbrev cX6_endYear : ByteArray := prog_8_method_36_code
def yX6_endYear : MethodName := ⟨RX6, "endYear", "()I"⟩
abbrev cX6_type : ByteArray := prog_8_method_37_code
def yX6_type : MethodName := ⟨RX6, "type", "(C)I"⟩
abbrev cX6_clearText : ByteArray := prog_8_method_38_code
def yX6_clearText : MethodName := ⟨RX6, "clearText", "()I"⟩
abbrev cX6_sign : ByteArray := prog_8_method_39_code
def yX6_sign : MethodName := ⟨RX6, "sign", "()I"⟩
abbrev cX6_number : ByteArray := prog_8_method_40_code
def yX6_number : MethodName := ⟨RX6, "number", "()I"⟩
abbrev cX6_readsGroup : ByteArray := prog_8_method_41_code
def yX6_readsGroup : MethodName := ⟨RX6, "readsGroup", "()V"⟩
abbrev cX6_reads : ByteArray := prog_8_method_42_code
def yX6_reads : MethodName := ⟨RX6, "reads", "()I"⟩
abbrev cX6_undo : ByteArray := prog_8_method_43_code
def yX6_undo : MethodName := ⟨RX6, "undo", "()I"⟩
abbrev cX6_keep : ByteArray := prog_8_method_44_code
def yX6_keep : MethodName := ⟨RX6, "keep", "()I"⟩
abbrev cX6_restore : ByteArray := prog_8_method_45_code
def yX6_restore : MethodName := ⟨RX6, "restore", "()I"⟩
abbrev cX6_plotsOf : ByteArray := prog_8_method_46_code
def yX6_plotsOf : MethodName := ⟨RX6, "plotsOf", "(II)I"⟩
abbrev cX6_disputesOf : ByteArray := prog_8_method_47_code
def yX6_disputesOf : MethodName := ⟨RX6, "disputesOf", "(I)I"⟩
abbrev cX6_commoner : ByteArray := prog_8_method_48_code
def yX6_commoner : MethodName := ⟨RX6, "commoner", "(II)I"⟩
abbrev cX6_plot : ByteArray := prog_8_method_49_code
def yX6_plot : MethodName := ⟨RX6, "plot", "(II)I"⟩
abbrev cX6_row : ByteArray := prog_8_method_50_code
def yX6_row : MethodName := ⟨RX6, "row", "(II)I"⟩
abbrev cX6_ahead : ByteArray := prog_8_method_51_code
def yX6_ahead : MethodName := ⟨RX6, "ahead", "(I)I"⟩
abbrev cX6_driest : ByteArray := prog_8_method_52_code
def yX6_driest : MethodName := ⟨RX6, "driest", "(II)I"⟩
abbrev cX6_why : ByteArray := prog_8_method_53_code
def yX6_why : MethodName := ⟨RX6, "why", "(II)I"⟩
abbrev cX6_dispute : ByteArray := prog_8_method_54_code
def yX6_dispute : MethodName := ⟨RX6, "dispute", "(II)I"⟩
abbrev cX6_cart : ByteArray := prog_8_method_55_code
def yX6_cart : MethodName := ⟨RX6, "cart", "(I)I"⟩
abbrev cX6_would : ByteArray := prog_8_method_56_code
def yX6_would : MethodName := ⟨RX6, "would", "(II)I"⟩
abbrev cX6_rowsThat : ByteArray := prog_8_method_57_code
def yX6_rowsThat : MethodName := ⟨RX6, "rowsThat", "(I)I"⟩
abbrev cX6_allPeats : ByteArray := prog_8_method_58_code
def yX6_allPeats : MethodName := ⟨RX6, "allPeats", "()I"⟩
abbrev cX6_allLayers : ByteArray := prog_8_method_59_code
def yX6_allLayers : MethodName := ⟨RX6, "allLayers", "()I"⟩
abbrev cX6_count : ByteArray := prog_8_method_60_code
def yX6_count : MethodName := ⟨RX6, "count", "(I)I"⟩
def RJ9 : String := "java/lang/Math"
def TJ9 : u_T := fun k => match k with
  | _ => ("", "", "", false)
def tyJ9 : Nat → FieldType := fun k => match k with
  | _ => .int
abbrev cJ9_max_7cf53 : ByteArray := prog_9_method_65_code
def yJ9_max_7cf53 : MethodName := ⟨RJ9, "max", "(II)I"⟩
abbrev cJ9_min_7cf53 : ByteArray := prog_9_method_69_code
def yJ9_min_7cf53 : MethodName := ⟨RJ9, "min", "(II)I"⟩
def RJ10 : String := "java/lang/System"
def TJ10 : u_T := fun k => match k with
  | _ => ("", "", "", false)
def tyJ10 : Nat → FieldType := fun k => match k with
  | _ => .int
def RL : String := "PeatBanksLaw"
abbrev cL_law : ByteArray := code
def yL_law : MethodName := ⟨RL, "law", "([I)Z"⟩
abbrev vwCl : List vw_C := [(RX0, TX0, 5), (RX1, TX1, 6), (RX2, TX2, 5), (RX3, TX3, 14), (RX4, TX4, 7), (RX5, TX5, 6), (RX6, TX6, 13)]
/-! the words of the tables that a method may carry; a method's own word list is its code and all of them -/
theorem goodIn_app {big a b : List Cond} (ha : GoodIn big a) (hb : GoodIn big b) : GoodIn big (a ++ b) := fun w h => (List.mem_append.mp h).elim (ha w) (hb w)
def wsG : List Cond := lw_tbl.filter goodWord
theorem kG {w : Cond} (n : Nat) (h : lw_tbl[n]? = some w) (g : goodWord w = true) : w ∈ wsG := List.mem_filter.mpr ⟨List.mem_of_getElem? h, g⟩
theorem wsG_in : ∀ w ∈ wsG, w ∈ lw_tbl := fun _ h => (List.mem_filter.mp h).1
theorem wsG_good : ∀ w ∈ wsG, (w.onTables && w.keeps) = true ∨ ∃ ty, w = .arrayClass ty := fun _ h => good_of_word (List.mem_filter.mp h).2
def wU (y : MethodName) (cc : ByteArray) (n : Nat) (ret : Option FieldType) : List Cond := .code y cc n ret :: wsG
theorem wU_in {y : MethodName} {cc : ByteArray} {n : Nat} {ret : Option FieldType} {w : Cond} (h : w ∈ wsG) : w ∈ wU y cc n ret := List.mem_cons_of_mem _ h
theorem gU {Ts : List Cond} (hT : ∀ w ∈ wsG, w ∈ Ts) {y : MethodName} {cc : ByteArray} {n : Nat} {ret : Option FieldType} (h : Cond.code y cc n ret ∈ wsG) : GoodIn Ts (wU y cc n ret) := by
  intro w hw
  rcases List.mem_cons.mp hw with rfl | hw
  · exact ⟨hT _ h, wsG_good _ h⟩
  · exact ⟨hT _ hw, wsG_good _ hw⟩
theorem gV {Ts : List Cond} (hT : ∀ w ∈ wsG, w ∈ Ts) {own C : String} {idx : Nat} {y : MethodName} {cc : ByteArray} {n : Nat} {ret : Option FieldType} (h1 : Cond.methodLink own idx y ∈ wsG) (h2 : Cond.instanceMethod y ∈ wsG) (h3 : Cond.selects C y y ∈ wsG) (h4 : Cond.initialized C ∈ wsG) (h : Cond.code y cc n ret ∈ wsG) : GoodIn Ts (wsV own idx C y (wU y cc n ret)) := by
  refine goodIn_app (fun w hw => ?_) (gU hT h)
  have hw : w ∈ wsG := by
    simp only [List.mem_cons, List.not_mem_nil, or_false] at hw
    rcases hw with rfl | rfl | rfl | rfl <;> assumption
  exact ⟨hT _ hw, wsG_good _ hw⟩
theorem gS {Ts : List Cond} (hT : ∀ w ∈ wsG, w ∈ Ts) {own : String} {idx : Nat} {y : MethodName} {cc : ByteArray} {n : Nat} {ret : Option FieldType} (h1 : Cond.methodLink own idx y ∈ wsG) (h2 : Cond.static y ∈ wsG) (h4 : Cond.initialized y.cls ∈ wsG) (h : Cond.code y cc n ret ∈ wsG) : GoodIn Ts (va_wsS own idx y (wU y cc n ret)) := by
  refine goodIn_app (fun w hw => ?_) (gU hT h)
  have hw : w ∈ wsG := by
    simp only [List.mem_cons, List.not_mem_nil, or_false] at hw
    rcases hw with rfl | rfl | rfl <;> assumption
  exact ⟨hT _ hw, wsG_good _ hw⟩
theorem hiX0 : ∀ w ∈ u_ws RX0 TX0 5, w ∈ wsG := fun w h => List.mem_filter.mpr ((show ∀ w ∈ u_ws RX0 TX0 5, w ∈ lw_tbl ∧ goodWord w = true from by decide +kernel) w h)
theorem hiX1 : ∀ w ∈ u_ws RX1 TX1 6, w ∈ wsG := fun w h => List.mem_filter.mpr ((show ∀ w ∈ u_ws RX1 TX1 6, w ∈ lw_tbl ∧ goodWord w = true from by decide +kernel) w h)
theorem hiX2 : ∀ w ∈ u_ws RX2 TX2 5, w ∈ wsG := fun w h => List.mem_filter.mpr ((show ∀ w ∈ u_ws RX2 TX2 5, w ∈ lw_tbl ∧ goodWord w = true from by decide +kernel) w h)
theorem hiX3 : ∀ w ∈ u_ws RX3 TX3 14, w ∈ wsG := fun w h => List.mem_filter.mpr ((show ∀ w ∈ u_ws RX3 TX3 14, w ∈ lw_tbl ∧ goodWord w = true from by decide +kernel) w h)
theorem hiX4 : ∀ w ∈ u_ws RX4 TX4 7, w ∈ wsG := fun w h => List.mem_filter.mpr ((show ∀ w ∈ u_ws RX4 TX4 7, w ∈ lw_tbl ∧ goodWord w = true from by decide +kernel) w h)
theorem hiX5 : ∀ w ∈ u_ws RX5 TX5 6, w ∈ wsG := fun w h => List.mem_filter.mpr ((show ∀ w ∈ u_ws RX5 TX5 6, w ∈ lw_tbl ∧ goodWord w = true from by decide +kernel) w h)
theorem hiX6 : ∀ w ∈ u_ws RX6 TX6 13, w ∈ wsG := fun w h => List.mem_filter.mpr ((show ∀ w ∈ u_ws RX6 TX6 13, w ∈ lw_tbl ∧ goodWord w = true from by decide +kernel) w h)
end
section
theorem kn_L : Cond.initialized RL ∈ wsG := kG 39 (by decide +kernel) (by decide +kernel)
theorem kn_X5 : Cond.initialized RX5 ∈ wsG := kG 40 (by decide +kernel) (by decide +kernel)
theorem kn_X3 : Cond.initialized RX3 ∈ wsG := kG 41 (by decide +kernel) (by decide +kernel)
theorem kn_X4 : Cond.initialized RX4 ∈ wsG := kG 42 (by decide +kernel) (by decide +kernel)
theorem kn_X1 : Cond.initialized RX1 ∈ wsG := kG 43 (by decide +kernel) (by decide +kernel)
theorem kn_X2 : Cond.initialized RX2 ∈ wsG := kG 44 (by decide +kernel) (by decide +kernel)
theorem kn_X0 : Cond.initialized RX0 ∈ wsG := kG 45 (by decide +kernel) (by decide +kernel)
theorem kn_X6 : Cond.initialized RX6 ∈ wsG := kG 46 (by decide +kernel) (by decide +kernel)
theorem kn_J9 : Cond.initialized RJ9 ∈ wsG := kG 47 (by decide +kernel) (by decide +kernel)
theorem kn_J10 : Cond.initialized RJ10 ∈ wsG := kG 48 (by decide +kernel) (by decide +kernel)
theorem kl_L_7 : Cond.classLink RL 7 RX5 ∈ wsG := kG 49 (by decide +kernel) (by decide +kernel)
theorem kt_X5 : Cond.instantiable RX5 6 ∈ wsG := kG 50 (by decide +kernel) (by decide +kernel)
theorem km_L_9 : Cond.methodLink RL 9 yX5_init ∈ wsG := kG 51 (by decide +kernel) (by decide +kernel)
theorem ki_X5_init : Cond.instanceMethod yX5_init ∈ wsG := kG 52 (by decide +kernel) (by decide +kernel)
theorem kc_X5_init : Cond.code yX5_init cX5_init 1 none ∈ wsG := kG 53 (by decide +kernel) (by decide +kernel)
theorem km_X5_3 : Cond.methodLink RX5 3 objectInit ∈ wsG := kG 54 (by decide +kernel) (by decide +kernel)
theorem ki_objectInit : Cond.instanceMethod objectInit ∈ wsG := kG 55 (by decide +kernel) (by decide +kernel)
theorem kc_objectInit : Cond.code objectInit ⟨#[0xb1]⟩ 1 none ∈ wsG := kG 56 (by decide +kernel) (by decide +kernel)
theorem kl_X5_9 : Cond.classLink RX5 9 RX3 ∈ wsG := kG 57 (by decide +kernel) (by decide +kernel)
theorem kt_X3 : Cond.instantiable RX3 14 ∈ wsG := kG 58 (by decide +kernel) (by decide +kernel)
theorem km_X5_11 : Cond.methodLink RX5 11 yX3_init ∈ wsG := kG 59 (by decide +kernel) (by decide +kernel)
theorem ki_X3_init : Cond.instanceMethod yX3_init ∈ wsG := kG 60 (by decide +kernel) (by decide +kernel)
theorem kc_X3_init : Cond.code yX3_init cX3_init 2 none ∈ wsG := kG 61 (by decide +kernel) (by decide +kernel)
theorem km_X3_3 : Cond.methodLink RX3 3 objectInit ∈ wsG := kG 62 (by decide +kernel) (by decide +kernel)
theorem kl_X3_30 : Cond.classLink RX3 30 RX4 ∈ wsG := kG 63 (by decide +kernel) (by decide +kernel)
theorem kt_X4 : Cond.instantiable RX4 7 ∈ wsG := kG 64 (by decide +kernel) (by decide +kernel)
theorem km_X3_32 : Cond.methodLink RX3 32 yX4_init ∈ wsG := kG 65 (by decide +kernel) (by decide +kernel)
theorem ki_X4_init : Cond.instanceMethod yX4_init ∈ wsG := kG 66 (by decide +kernel) (by decide +kernel)
theorem kc_X4_init : Cond.code yX4_init cX4_init 1 none ∈ wsG := kG 67 (by decide +kernel) (by decide +kernel)
theorem km_X4_3 : Cond.methodLink RX4 3 objectInit ∈ wsG := kG 68 (by decide +kernel) (by decide +kernel)
theorem kf_X4_9 : Cond.fieldLink RX4 9 "PeatBanks$Rows" "owner" "[I" ∈ wsG := kG 69 (by decide +kernel) (by decide +kernel)
theorem kf_X5_109 : Cond.fieldLink RX5 109 "PeatBanks$Rows" "owner" "[I" ∈ wsG := kG 70 (by decide +kernel) (by decide +kernel)
theorem kf_X3_142 : Cond.fieldLink RX3 142 "PeatBanks$Rows" "owner" "[I" ∈ wsG := kG 71 (by decide +kernel) (by decide +kernel)
theorem kf_X4_15 : Cond.fieldLink RX4 15 "PeatBanks$Rows" "plot" "[I" ∈ wsG := kG 72 (by decide +kernel) (by decide +kernel)
theorem kf_X5_192 : Cond.fieldLink RX5 192 "PeatBanks$Rows" "plot" "[I" ∈ wsG := kG 73 (by decide +kernel) (by decide +kernel)
theorem kf_X4_18 : Cond.fieldLink RX4 18 "PeatBanks$Rows" "wetness" "[I" ∈ wsG := kG 74 (by decide +kernel) (by decide +kernel)
theorem kf_X5_103 : Cond.fieldLink RX5 103 "PeatBanks$Rows" "wetness" "[I" ∈ wsG := kG 75 (by decide +kernel) (by decide +kernel)
theorem kf_X4_21 : Cond.fieldLink RX4 21 "PeatBanks$Rows" "turned" "[Z" ∈ wsG := kG 76 (by decide +kernel) (by decide +kernel)
theorem kf_X5_100 : Cond.fieldLink RX5 100 "PeatBanks$Rows" "turned" "[Z" ∈ wsG := kG 77 (by decide +kernel) (by decide +kernel)
theorem kf_X4_25 : Cond.fieldLink RX4 25 "PeatBanks$Rows" "stacked" "[Z" ∈ wsG := kG 78 (by decide +kernel) (by decide +kernel)
theorem kf_X5_96 : Cond.fieldLink RX5 96 "PeatBanks$Rows" "stacked" "[Z" ∈ wsG := kG 79 (by decide +kernel) (by decide +kernel)
theorem kf_X4_28 : Cond.fieldLink RX4 28 "PeatBanks$Rows" "lying" "[Z" ∈ wsG := kG 80 (by decide +kernel) (by decide +kernel)
theorem kf_X3_120 : Cond.fieldLink RX3 120 "PeatBanks$Rows" "lying" "[Z" ∈ wsG := kG 81 (by decide +kernel) (by decide +kernel)
theorem kf_X4_39 : Cond.fieldLink RX4 39 "PeatBanks$Rows" "soFar" "I" ∈ wsG := kG 82 (by decide +kernel) (by decide +kernel)
theorem kf_X5_223 : Cond.fieldLink RX5 223 "PeatBanks$Rows" "soFar" "I" ∈ wsG := kG 83 (by decide +kernel) (by decide +kernel)
theorem ka_int : Cond.arrayClass .int ∈ wsG := kG 99 (by decide +kernel) (by decide +kernel)
theorem ka_boolean : Cond.arrayClass .boolean ∈ wsG := kG 100 (by decide +kernel) (by decide +kernel)
theorem kl_X3_37 : Cond.classLink RX3 37 RX1 ∈ wsG := kG 101 (by decide +kernel) (by decide +kernel)
theorem kt_X1 : Cond.instantiable RX1 6 ∈ wsG := kG 102 (by decide +kernel) (by decide +kernel)
theorem km_X3_39 : Cond.methodLink RX3 39 yX1_init ∈ wsG := kG 103 (by decide +kernel) (by decide +kernel)
theorem ki_X1_init : Cond.instanceMethod yX1_init ∈ wsG := kG 104 (by decide +kernel) (by decide +kernel)
theorem kc_X1_init : Cond.code yX1_init cX1_init 1 none ∈ wsG := kG 105 (by decide +kernel) (by decide +kernel)
theorem km_X1_3 : Cond.methodLink RX1 3 objectInit ∈ wsG := kG 106 (by decide +kernel) (by decide +kernel)
theorem kf_X1_9 : Cond.fieldLink RX1 9 "PeatBanks$Disputes" "cutter" "[I" ∈ wsG := kG 107 (by decide +kernel) (by decide +kernel)
theorem kf_X3_130 : Cond.fieldLink RX3 130 "PeatBanks$Disputes" "cutter" "[I" ∈ wsG := kG 108 (by decide +kernel) (by decide +kernel)
theorem kf_X5_204 : Cond.fieldLink RX5 204 "PeatBanks$Disputes" "cutter" "[I" ∈ wsG := kG 109 (by decide +kernel) (by decide +kernel)
theorem kf_X1_15 : Cond.fieldLink RX1 15 "PeatBanks$Disputes" "wronged" "[I" ∈ wsG := kG 110 (by decide +kernel) (by decide +kernel)
theorem kf_X3_136 : Cond.fieldLink RX3 136 "PeatBanks$Disputes" "wronged" "[I" ∈ wsG := kG 111 (by decide +kernel) (by decide +kernel)
theorem kf_X5_207 : Cond.fieldLink RX5 207 "PeatBanks$Disputes" "wronged" "[I" ∈ wsG := kG 112 (by decide +kernel) (by decide +kernel)
theorem kf_X1_18 : Cond.fieldLink RX1 18 "PeatBanks$Disputes" "row" "[I" ∈ wsG := kG 113 (by decide +kernel) (by decide +kernel)
theorem kf_X3_139 : Cond.fieldLink RX3 139 "PeatBanks$Disputes" "row" "[I" ∈ wsG := kG 114 (by decide +kernel) (by decide +kernel)
theorem kf_X5_210 : Cond.fieldLink RX5 210 "PeatBanks$Disputes" "row" "[I" ∈ wsG := kG 115 (by decide +kernel) (by decide +kernel)
theorem kf_X1_21 : Cond.fieldLink RX1 21 "PeatBanks$Disputes" "plot" "[I" ∈ wsG := kG 116 (by decide +kernel) (by decide +kernel)
theorem kf_X5_213 : Cond.fieldLink RX5 213 "PeatBanks$Disputes" "plot" "[I" ∈ wsG := kG 117 (by decide +kernel) (by decide +kernel)
theorem kf_X1_28 : Cond.fieldLink RX1 28 "PeatBanks$Disputes" "settled" "I" ∈ wsG := kG 118 (by decide +kernel) (by decide +kernel)
theorem kf_X3_127 : Cond.fieldLink RX3 127 "PeatBanks$Disputes" "settled" "I" ∈ wsG := kG 119 (by decide +kernel) (by decide +kernel)
theorem kf_X5_201 : Cond.fieldLink RX5 201 "PeatBanks$Disputes" "settled" "I" ∈ wsG := kG 120 (by decide +kernel) (by decide +kernel)
theorem kf_X1_32 : Cond.fieldLink RX1 32 "PeatBanks$Disputes" "soFar" "I" ∈ wsG := kG 121 (by decide +kernel) (by decide +kernel)
theorem kf_X3_157 : Cond.fieldLink RX3 157 "PeatBanks$Disputes" "soFar" "I" ∈ wsG := kG 122 (by decide +kernel) (by decide +kernel)
theorem kf_X5_239 : Cond.fieldLink RX5 239 "PeatBanks$Disputes" "soFar" "I" ∈ wsG := kG 123 (by decide +kernel) (by decide +kernel)
theorem kf_X3_9 : Cond.fieldLink RX3 9 "PeatBanks$Moss" "layers" "[I" ∈ wsG := kG 137 (by decide +kernel) (by decide +kernel)
theorem kf_X5_185 : Cond.fieldLink RX5 185 "PeatBanks$Moss" "layers" "[I" ∈ wsG := kG 138 (by decide +kernel) (by decide +kernel)
theorem kf_X3_15 : Cond.fieldLink RX3 15 "PeatBanks$Moss" "owners" "[I" ∈ wsG := kG 139 (by decide +kernel) (by decide +kernel)
theorem kf_X5_55 : Cond.fieldLink RX5 55 "PeatBanks$Moss" "owners" "[I" ∈ wsG := kG 140 (by decide +kernel) (by decide +kernel)
theorem kf_X3_18 : Cond.fieldLink RX3 18 "PeatBanks$Moss" "rights" "[I" ∈ wsG := kG 141 (by decide +kernel) (by decide +kernel)
theorem kf_X5_47 : Cond.fieldLink RX5 47 "PeatBanks$Moss" "rights" "[I" ∈ wsG := kG 142 (by decide +kernel) (by decide +kernel)
theorem kf_X3_21 : Cond.fieldLink RX3 21 "PeatBanks$Moss" "days" "[I" ∈ wsG := kG 143 (by decide +kernel) (by decide +kernel)
theorem kf_X5_62 : Cond.fieldLink RX5 62 "PeatBanks$Moss" "days" "[I" ∈ wsG := kG 144 (by decide +kernel) (by decide +kernel)
theorem kf_X3_24 : Cond.fieldLink RX3 24 "PeatBanks$Moss" "used" "[I" ∈ wsG := kG 145 (by decide +kernel) (by decide +kernel)
theorem kf_X5_169 : Cond.fieldLink RX5 169 "PeatBanks$Moss" "used" "[I" ∈ wsG := kG 146 (by decide +kernel) (by decide +kernel)
theorem kf_X3_27 : Cond.fieldLink RX3 27 "PeatBanks$Moss" "hearths" "[I" ∈ wsG := kG 147 (by decide +kernel) (by decide +kernel)
theorem kf_X5_172 : Cond.fieldLink RX5 172 "PeatBanks$Moss" "hearths" "[I" ∈ wsG := kG 148 (by decide +kernel) (by decide +kernel)
theorem kf_X3_33 : Cond.fieldLink RX3 33 "PeatBanks$Moss" "rows" "LPeatBanks$Rows;" ∈ wsG := kG 149 (by decide +kernel) (by decide +kernel)
theorem kf_X5_80 : Cond.fieldLink RX5 80 "PeatBanks$Moss" "rows" "LPeatBanks$Rows;" ∈ wsG := kG 150 (by decide +kernel) (by decide +kernel)
theorem kf_X3_40 : Cond.fieldLink RX3 40 "PeatBanks$Moss" "disputes" "LPeatBanks$Disputes;" ∈ wsG := kG 151 (by decide +kernel) (by decide +kernel)
theorem kf_X5_135 : Cond.fieldLink RX5 135 "PeatBanks$Moss" "disputes" "LPeatBanks$Disputes;" ∈ wsG := kG 152 (by decide +kernel) (by decide +kernel)
theorem kf_X3_44 : Cond.fieldLink RX3 44 "PeatBanks$Moss" "cartRows" "I" ∈ wsG := kG 153 (by decide +kernel) (by decide +kernel)
theorem kf_X5_69 : Cond.fieldLink RX5 69 "PeatBanks$Moss" "cartRows" "I" ∈ wsG := kG 154 (by decide +kernel) (by decide +kernel)
theorem kf_X3_59 : Cond.fieldLink RX3 59 "PeatBanks$Moss" "stakes" "I" ∈ wsG := kG 155 (by decide +kernel) (by decide +kernel)
theorem kf_X5_73 : Cond.fieldLink RX5 73 "PeatBanks$Moss" "stakes" "I" ∈ wsG := kG 156 (by decide +kernel) (by decide +kernel)
theorem kf_X3_62 : Cond.fieldLink RX3 62 "PeatBanks$Moss" "rota" "I" ∈ wsG := kG 157 (by decide +kernel) (by decide +kernel)
theorem kf_X3_65 : Cond.fieldLink RX3 65 "PeatBanks$Moss" "dayOfYear" "I" ∈ wsG := kG 158 (by decide +kernel) (by decide +kernel)
theorem kf_X5_217 : Cond.fieldLink RX5 217 "PeatBanks$Moss" "dayOfYear" "I" ∈ wsG := kG 159 (by decide +kernel) (by decide +kernel)
theorem kf_X3_68 : Cond.fieldLink RX3 68 "PeatBanks$Moss" "years" "I" ∈ wsG := kG 160 (by decide +kernel) (by decide +kernel)
theorem kf_X5_220 : Cond.fieldLink RX5 220 "PeatBanks$Moss" "years" "I" ∈ wsG := kG 161 (by decide +kernel) (by decide +kernel)
theorem kf_X3_71 : Cond.fieldLink RX3 71 "PeatBanks$Moss" "rowsHome" "I" ∈ wsG := kG 162 (by decide +kernel) (by decide +kernel)
theorem kf_X5_232 : Cond.fieldLink RX5 232 "PeatBanks$Moss" "rowsHome" "I" ∈ wsG := kG 163 (by decide +kernel) (by decide +kernel)
theorem kl_X5_22 : Cond.classLink RX5 22 RX2 ∈ wsG := kG 193 (by decide +kernel) (by decide +kernel)
theorem kt_X2 : Cond.instantiable RX2 5 ∈ wsG := kG 194 (by decide +kernel) (by decide +kernel)
theorem km_X5_24 : Cond.methodLink RX5 24 yX2_init ∈ wsG := kG 195 (by decide +kernel) (by decide +kernel)
theorem ki_X2_init : Cond.instanceMethod yX2_init ∈ wsG := kG 196 (by decide +kernel) (by decide +kernel)
theorem kc_X2_init : Cond.code yX2_init cX2_init 1 none ∈ wsG := kG 197 (by decide +kernel) (by decide +kernel)
theorem km_X2_3 : Cond.methodLink RX2 3 objectInit ∈ wsG := kG 198 (by decide +kernel) (by decide +kernel)
theorem kl_X2_9 : Cond.classLink RX2 9 RX3 ∈ wsG := kG 199 (by decide +kernel) (by decide +kernel)
theorem km_X2_11 : Cond.methodLink RX2 11 yX3_init ∈ wsG := kG 200 (by decide +kernel) (by decide +kernel)
theorem kf_X2_12 : Cond.fieldLink RX2 12 "PeatBanks$History" "latest" "LPeatBanks$Moss;" ∈ wsG := kG 201 (by decide +kernel) (by decide +kernel)
theorem kf_X2_18 : Cond.fieldLink RX2 18 "PeatBanks$History" "second" "LPeatBanks$Moss;" ∈ wsG := kG 202 (by decide +kernel) (by decide +kernel)
theorem kf_X2_21 : Cond.fieldLink RX2 21 "PeatBanks$History" "third" "LPeatBanks$Moss;" ∈ wsG := kG 203 (by decide +kernel) (by decide +kernel)
theorem kf_X2_24 : Cond.fieldLink RX2 24 "PeatBanks$History" "oldest" "LPeatBanks$Moss;" ∈ wsG := kG 204 (by decide +kernel) (by decide +kernel)
theorem kf_X2_31 : Cond.fieldLink RX2 31 "PeatBanks$History" "states" "I" ∈ wsG := kG 205 (by decide +kernel) (by decide +kernel)
theorem kf_X5_157 : Cond.fieldLink RX5 157 "PeatBanks$History" "states" "I" ∈ wsG := kG 206 (by decide +kernel) (by decide +kernel)
theorem kl_X5_29 : Cond.classLink RX5 29 RX0 ∈ wsG := kG 218 (by decide +kernel) (by decide +kernel)
theorem kt_X0 : Cond.instantiable RX0 5 ∈ wsG := kG 219 (by decide +kernel) (by decide +kernel)
theorem km_X5_31 : Cond.methodLink RX5 31 yX0_init ∈ wsG := kG 220 (by decide +kernel) (by decide +kernel)
theorem ki_X0_init : Cond.instanceMethod yX0_init ∈ wsG := kG 221 (by decide +kernel) (by decide +kernel)
theorem kc_X0_init : Cond.code yX0_init cX0_init 1 none ∈ wsG := kG 222 (by decide +kernel) (by decide +kernel)
theorem km_X0_3 : Cond.methodLink RX0 3 objectInit ∈ wsG := kG 223 (by decide +kernel) (by decide +kernel)
theorem kf_X0_9 : Cond.fieldLink RX0 9 "PeatBanks$DayText" "characters" "[C" ∈ wsG := kG 224 (by decide +kernel) (by decide +kernel)
theorem kf_X0_22 : Cond.fieldLink RX0 22 "PeatBanks$DayText" "length" "I" ∈ wsG := kG 225 (by decide +kernel) (by decide +kernel)
theorem kf_X5_154 : Cond.fieldLink RX5 154 "PeatBanks$DayText" "length" "I" ∈ wsG := kG 226 (by decide +kernel) (by decide +kernel)
theorem kf_X0_15 : Cond.fieldLink RX0 15 "PeatBanks$DayText" "groupWeather" "[I" ∈ wsG := kG 227 (by decide +kernel) (by decide +kernel)
theorem kf_X5_132 : Cond.fieldLink RX5 132 "PeatBanks$DayText" "groupWeather" "[I" ∈ wsG := kG 228 (by decide +kernel) (by decide +kernel)
theorem kf_X0_19 : Cond.fieldLink RX0 19 "PeatBanks$DayText" "groupDays" "[I" ∈ wsG := kG 229 (by decide +kernel) (by decide +kernel)
theorem kf_X5_129 : Cond.fieldLink RX5 129 "PeatBanks$DayText" "groupDays" "[I" ∈ wsG := kG 230 (by decide +kernel) (by decide +kernel)
theorem kf_X0_26 : Cond.fieldLink RX0 26 "PeatBanks$DayText" "groups" "I" ∈ wsG := kG 231 (by decide +kernel) (by decide +kernel)
theorem kf_X5_126 : Cond.fieldLink RX5 126 "PeatBanks$DayText" "groups" "I" ∈ wsG := kG 232 (by decide +kernel) (by decide +kernel)
theorem ka_char : Cond.arrayClass .char ∈ wsG := kG 244 (by decide +kernel) (by decide +kernel)
theorem kf_X5_12 : Cond.fieldLink RX5 12 "PeatBanks" "now" "LPeatBanks$Moss;" ∈ wsG := kG 245 (by decide +kernel) (by decide +kernel)
theorem kf_X5_16 : Cond.fieldLink RX5 16 "PeatBanks" "kept" "LPeatBanks$Moss;" ∈ wsG := kG 246 (by decide +kernel) (by decide +kernel)
theorem kf_X5_19 : Cond.fieldLink RX5 19 "PeatBanks" "trial" "LPeatBanks$Moss;" ∈ wsG := kG 247 (by decide +kernel) (by decide +kernel)
theorem kf_X5_25 : Cond.fieldLink RX5 25 "PeatBanks" "history" "LPeatBanks$History;" ∈ wsG := kG 248 (by decide +kernel) (by decide +kernel)
theorem kf_X5_32 : Cond.fieldLink RX5 32 "PeatBanks" "text" "LPeatBanks$DayText;" ∈ wsG := kG 249 (by decide +kernel) (by decide +kernel)
theorem kf_X5_36 : Cond.fieldLink RX5 36 "PeatBanks" "hasKept" "Z" ∈ wsG := kG 250 (by decide +kernel) (by decide +kernel)
theorem km_L_13 : Cond.methodLink RL 13 yX5_lend ∈ wsG := kG 264 (by decide +kernel) (by decide +kernel)
theorem ki_X5_lend : Cond.instanceMethod yX5_lend ∈ wsG := kG 265 (by decide +kernel) (by decide +kernel)
theorem ke_X5_lend : Cond.selects RX5 yX5_lend yX5_lend ∈ wsG := kG 266 (by decide +kernel) (by decide +kernel)
theorem kc_X5_lend : Cond.code yX5_lend cX5_lend 4 (some .int) ∈ wsG := kG 267 (by decide +kernel) (by decide +kernel)
theorem km_X5_40 : Cond.methodLink RX5 40 yX5_isPlot ∈ wsG := kG 268 (by decide +kernel) (by decide +kernel)
theorem ks_X5_isPlot : Cond.static yX5_isPlot ∈ wsG := kG 269 (by decide +kernel) (by decide +kernel)
theorem kc_X5_isPlot : Cond.code yX5_isPlot cX5_isPlot 1 (some .boolean) ∈ wsG := kG 270 (by decide +kernel) (by decide +kernel)
theorem km_X5_58 : Cond.methodLink RX5 58 yX5_isWithin ∈ wsG := kG 271 (by decide +kernel) (by decide +kernel)
theorem ks_X5_isWithin : Cond.static yX5_isWithin ∈ wsG := kG 272 (by decide +kernel) (by decide +kernel)
theorem kc_X5_isWithin : Cond.code yX5_isWithin cX5_isWithin 3 (some .boolean) ∈ wsG := kG 273 (by decide +kernel) (by decide +kernel)
theorem km_X5_44 : Cond.methodLink RX5 44 yX5_isCommoner ∈ wsG := kG 274 (by decide +kernel) (by decide +kernel)
theorem ks_X5_isCommoner : Cond.static yX5_isCommoner ∈ wsG := kG 275 (by decide +kernel) (by decide +kernel)
theorem kc_X5_isCommoner : Cond.code yX5_isCommoner cX5_isCommoner 1 (some .boolean) ∈ wsG := kG 276 (by decide +kernel) (by decide +kernel)
theorem km_X5_51 : Cond.methodLink RX5 51 yX2_record ∈ wsG := kG 277 (by decide +kernel) (by decide +kernel)
theorem ki_X2_record : Cond.instanceMethod yX2_record ∈ wsG := kG 278 (by decide +kernel) (by decide +kernel)
theorem ke_X2_record : Cond.selects RX2 yX2_record yX2_record ∈ wsG := kG 279 (by decide +kernel) (by decide +kernel)
theorem kc_X2_record : Cond.code yX2_record cX2_record 3 none ∈ wsG := kG 280 (by decide +kernel) (by decide +kernel)
theorem km_X2_27 : Cond.methodLink RX2 27 yX3_copyFrom ∈ wsG := kG 281 (by decide +kernel) (by decide +kernel)
theorem ki_X3_copyFrom : Cond.instanceMethod yX3_copyFrom ∈ wsG := kG 282 (by decide +kernel) (by decide +kernel)
theorem ke_X3_copyFrom : Cond.selects RX3 yX3_copyFrom yX3_copyFrom ∈ wsG := kG 283 (by decide +kernel) (by decide +kernel)
theorem kc_X3_copyFrom : Cond.code yX3_copyFrom cX3_copyFrom 2 none ∈ wsG := kG 284 (by decide +kernel) (by decide +kernel)
theorem kN_X3_48 : Cond.methodLinkNest RX3 48 yX5_copyNumbers RX5 ∈ lw_tbl := List.mem_of_getElem? (i := 285) (by decide +kernel)
theorem ks_X5_copyNumbers : Cond.static yX5_copyNumbers ∈ wsG := kG 286 (by decide +kernel) (by decide +kernel)
theorem kc_X5_copyNumbers : Cond.code yX5_copyNumbers cX5_copyNumbers 2 none ∈ wsG := kG 287 (by decide +kernel) (by decide +kernel)
theorem km_X5_240 : Cond.methodLink RX5 240 yJ9_min_7cf53 ∈ wsG := kG 288 (by decide +kernel) (by decide +kernel)
theorem ks_J9_min_7cf53 : Cond.static yJ9_min_7cf53 ∈ wsG := kG 289 (by decide +kernel) (by decide +kernel)
theorem kc_min : Cond.code Lib.Math.min.name Lib.Math.min.code 2 (some .int) ∈ wsG := kG 290 (by decide +kernel) (by decide +kernel)
theorem km_X5_245 : Cond.methodLink RX5 245 arraycopyName ∈ wsG := kG 291 (by decide +kernel) (by decide +kernel)
theorem ks_arraycopyName : Cond.static arraycopyName ∈ wsG := kG 292 (by decide +kernel) (by decide +kernel)
theorem kv_arraycopyName : Cond.native arraycopyName ∈ wsG := kG 293 (by decide +kernel) (by decide +kernel)
theorem km_X3_52 : Cond.methodLink RX3 52 yX4_copyFrom ∈ wsG := kG 294 (by decide +kernel) (by decide +kernel)
theorem ki_X4_copyFrom : Cond.instanceMethod yX4_copyFrom ∈ wsG := kG 295 (by decide +kernel) (by decide +kernel)
theorem ke_X4_copyFrom : Cond.selects RX4 yX4_copyFrom yX4_copyFrom ∈ wsG := kG 296 (by decide +kernel) (by decide +kernel)
theorem kc_X4_copyFrom : Cond.code yX4_copyFrom cX4_copyFrom 2 none ∈ wsG := kG 297 (by decide +kernel) (by decide +kernel)
theorem kN_X4_31 : Cond.methodLinkNest RX4 31 yX5_copyNumbers RX5 ∈ lw_tbl := List.mem_of_getElem? (i := 298) (by decide +kernel)
theorem kN_X4_35 : Cond.methodLinkNest RX4 35 yX5_copyFlags RX5 ∈ lw_tbl := List.mem_of_getElem? (i := 299) (by decide +kernel)
theorem ks_X5_copyFlags : Cond.static yX5_copyFlags ∈ wsG := kG 300 (by decide +kernel) (by decide +kernel)
theorem kc_X5_copyFlags : Cond.code yX5_copyFlags cX5_copyFlags 2 none ∈ wsG := kG 301 (by decide +kernel) (by decide +kernel)
theorem km_X3_56 : Cond.methodLink RX3 56 yX1_copyFrom ∈ wsG := kG 302 (by decide +kernel) (by decide +kernel)
theorem ki_X1_copyFrom : Cond.instanceMethod yX1_copyFrom ∈ wsG := kG 303 (by decide +kernel) (by decide +kernel)
theorem ke_X1_copyFrom : Cond.selects RX1 yX1_copyFrom yX1_copyFrom ∈ wsG := kG 304 (by decide +kernel) (by decide +kernel)
theorem kc_X1_copyFrom : Cond.code yX1_copyFrom cX1_copyFrom 2 none ∈ wsG := kG 305 (by decide +kernel) (by decide +kernel)
theorem kN_X1_24 : Cond.methodLinkNest RX1 24 yX5_copyNumbers RX5 ∈ lw_tbl := List.mem_of_getElem? (i := 306) (by decide +kernel)
theorem km_X2_35 : Cond.methodLink RX2 35 yJ9_min_7cf53 ∈ wsG := kG 307 (by decide +kernel) (by decide +kernel)
theorem km_L_18 : Cond.methodLink RL 18 yX5_handOver ∈ wsG := kG 308 (by decide +kernel) (by decide +kernel)
theorem ki_X5_handOver : Cond.instanceMethod yX5_handOver ∈ wsG := kG 309 (by decide +kernel) (by decide +kernel)
theorem ke_X5_handOver : Cond.selects RX5 yX5_handOver yX5_handOver ∈ wsG := kG 310 (by decide +kernel) (by decide +kernel)
theorem kc_X5_handOver : Cond.code yX5_handOver cX5_handOver 4 (some .int) ∈ wsG := kG 311 (by decide +kernel) (by decide +kernel)
theorem km_L_22 : Cond.methodLink RL 22 yX5_setDays ∈ wsG := kG 312 (by decide +kernel) (by decide +kernel)
theorem ki_X5_setDays : Cond.instanceMethod yX5_setDays ∈ wsG := kG 313 (by decide +kernel) (by decide +kernel)
theorem ke_X5_setDays : Cond.selects RX5 yX5_setDays yX5_setDays ∈ wsG := kG 314 (by decide +kernel) (by decide +kernel)
theorem kc_X5_setDays : Cond.code yX5_setDays cX5_setDays 4 (some .int) ∈ wsG := kG 315 (by decide +kernel) (by decide +kernel)
theorem km_L_26 : Cond.methodLink RL 26 yX5_set ∈ wsG := kG 316 (by decide +kernel) (by decide +kernel)
theorem ki_X5_set : Cond.instanceMethod yX5_set ∈ wsG := kG 317 (by decide +kernel) (by decide +kernel)
theorem ke_X5_set : Cond.selects RX5 yX5_set yX5_set ∈ wsG := kG 318 (by decide +kernel) (by decide +kernel)
theorem kc_X5_set : Cond.code yX5_set cX5_set 4 (some .int) ∈ wsG := kG 319 (by decide +kernel) (by decide +kernel)
theorem km_X5_65 : Cond.methodLink RX5 65 yX5_isSettingValue ∈ wsG := kG 320 (by decide +kernel) (by decide +kernel)
theorem ks_X5_isSettingValue : Cond.static yX5_isSettingValue ∈ wsG := kG 321 (by decide +kernel) (by decide +kernel)
theorem kc_X5_isSettingValue : Cond.code yX5_isSettingValue cX5_isSettingValue 2 (some .boolean) ∈ wsG := kG 322 (by decide +kernel) (by decide +kernel)
theorem km_L_30 : Cond.methodLink RL 30 yX5_cut ∈ wsG := kG 323 (by decide +kernel) (by decide +kernel)
theorem ki_X5_cut : Cond.instanceMethod yX5_cut ∈ wsG := kG 324 (by decide +kernel) (by decide +kernel)
theorem ke_X5_cut : Cond.selects RX5 yX5_cut yX5_cut ∈ wsG := kG 325 (by decide +kernel) (by decide +kernel)
theorem kc_X5_cut : Cond.code yX5_cut cX5_cut 3 (some .int) ∈ wsG := kG 326 (by decide +kernel) (by decide +kernel)
theorem km_X5_76 : Cond.methodLink RX5 76 yX3_reasonAgainst ∈ wsG := kG 327 (by decide +kernel) (by decide +kernel)
theorem ki_X3_reasonAgainst : Cond.instanceMethod yX3_reasonAgainst ∈ wsG := kG 328 (by decide +kernel) (by decide +kernel)
theorem ke_X3_reasonAgainst : Cond.selects RX3 yX3_reasonAgainst yX3_reasonAgainst ∈ wsG := kG 329 (by decide +kernel) (by decide +kernel)
theorem kc_X3_reasonAgainst : Cond.code yX3_reasonAgainst cX3_reasonAgainst 4 (some .int) ∈ wsG := kG 330 (by decide +kernel) (by decide +kernel)
theorem km_X3_74 : Cond.methodLink RX3 74 yX3_hasDayLeft ∈ wsG := kG 331 (by decide +kernel) (by decide +kernel)
theorem ki_X3_hasDayLeft : Cond.instanceMethod yX3_hasDayLeft ∈ wsG := kG 333 (by decide +kernel) (by decide +kernel)
theorem kc_X3_hasDayLeft : Cond.code yX3_hasDayLeft cX3_hasDayLeft 2 (some .boolean) ∈ wsG := kG 334 (by decide +kernel) (by decide +kernel)
theorem kN_X3_89 : Cond.methodLinkNest RX3 89 yX5_isCommoner RX5 ∈ lw_tbl := List.mem_of_getElem? (i := 335) (by decide +kernel)
theorem kN_X3_78 : Cond.methodLinkNest RX3 78 yX5_isPlot RX5 ∈ lw_tbl := List.mem_of_getElem? (i := 336) (by decide +kernel)
theorem km_X3_81 : Cond.methodLink RX3 81 yX4_countLying ∈ wsG := kG 337 (by decide +kernel) (by decide +kernel)
theorem ki_X4_countLying : Cond.instanceMethod yX4_countLying ∈ wsG := kG 338 (by decide +kernel) (by decide +kernel)
theorem ke_X4_countLying : Cond.selects RX4 yX4_countLying yX4_countLying ∈ wsG := kG 339 (by decide +kernel) (by decide +kernel)
theorem kc_X4_countLying : Cond.code yX4_countLying cX4_countLying 3 (some .int) ∈ wsG := kG 340 (by decide +kernel) (by decide +kernel)
theorem kN_X4_61 : Cond.methodLinkNest RX4 61 yX5_oneIf RX5 ∈ lw_tbl := List.mem_of_getElem? (i := 341) (by decide +kernel)
theorem ks_X5_oneIf : Cond.static yX5_oneIf ∈ wsG := kG 342 (by decide +kernel) (by decide +kernel)
theorem kc_X5_oneIf : Cond.code yX5_oneIf cX5_oneIf 1 (some .int) ∈ wsG := kG 343 (by decide +kernel) (by decide +kernel)
theorem km_X3_85 : Cond.methodLink RX3 85 yX3_hasRight ∈ wsG := kG 344 (by decide +kernel) (by decide +kernel)
theorem ki_X3_hasRight : Cond.instanceMethod yX3_hasRight ∈ wsG := kG 346 (by decide +kernel) (by decide +kernel)
theorem kc_X3_hasRight : Cond.code yX3_hasRight cX3_hasRight 3 (some .boolean) ∈ wsG := kG 347 (by decide +kernel) (by decide +kernel)
theorem km_X5_84 : Cond.methodLink RX5 84 yX4_hasNumberLeft ∈ wsG := kG 348 (by decide +kernel) (by decide +kernel)
theorem ki_X4_hasNumberLeft : Cond.instanceMethod yX4_hasNumberLeft ∈ wsG := kG 349 (by decide +kernel) (by decide +kernel)
theorem ke_X4_hasNumberLeft : Cond.selects RX4 yX4_hasNumberLeft yX4_hasNumberLeft ∈ wsG := kG 350 (by decide +kernel) (by decide +kernel)
theorem kc_X4_hasNumberLeft : Cond.code yX4_hasNumberLeft cX4_hasNumberLeft 1 (some .boolean) ∈ wsG := kG 351 (by decide +kernel) (by decide +kernel)
theorem km_X5_90 : Cond.methodLink RX5 90 yX3_takeLayer ∈ wsG := kG 352 (by decide +kernel) (by decide +kernel)
theorem ki_X3_takeLayer : Cond.instanceMethod yX3_takeLayer ∈ wsG := kG 353 (by decide +kernel) (by decide +kernel)
theorem ke_X3_takeLayer : Cond.selects RX3 yX3_takeLayer yX3_takeLayer ∈ wsG := kG 354 (by decide +kernel) (by decide +kernel)
theorem kc_X3_takeLayer : Cond.code yX3_takeLayer cX3_takeLayer 4 (some .int) ∈ wsG := kG 355 (by decide +kernel) (by decide +kernel)
theorem km_X3_92 : Cond.methodLink RX3 92 yX4_lay ∈ wsG := kG 356 (by decide +kernel) (by decide +kernel)
theorem ki_X4_lay : Cond.instanceMethod yX4_lay ∈ wsG := kG 357 (by decide +kernel) (by decide +kernel)
theorem ke_X4_lay : Cond.selects RX4 yX4_lay yX4_lay ∈ wsG := kG 358 (by decide +kernel) (by decide +kernel)
theorem kc_X4_lay : Cond.code yX4_lay cX4_lay 4 (some .int) ∈ wsG := kG 359 (by decide +kernel) (by decide +kernel)
theorem km_X4_43 : Cond.methodLink RX4 43 yX4_hasNumberLeft ∈ wsG := kG 360 (by decide +kernel) (by decide +kernel)
theorem km_X3_96 : Cond.methodLink RX3 96 yX1_open ∈ wsG := kG 361 (by decide +kernel) (by decide +kernel)
theorem ki_X1_open : Cond.instanceMethod yX1_open ∈ wsG := kG 362 (by decide +kernel) (by decide +kernel)
theorem ke_X1_open : Cond.selects RX1 yX1_open yX1_open ∈ wsG := kG 363 (by decide +kernel) (by decide +kernel)
theorem kc_X1_open : Cond.code yX1_open cX1_open 5 none ∈ wsG := kG 364 (by decide +kernel) (by decide +kernel)
theorem km_L_34 : Cond.methodLink RL 34 yX5_turn ∈ wsG := kG 365 (by decide +kernel) (by decide +kernel)
theorem ki_X5_turn : Cond.instanceMethod yX5_turn ∈ wsG := kG 366 (by decide +kernel) (by decide +kernel)
theorem ke_X5_turn : Cond.selects RX5 yX5_turn yX5_turn ∈ wsG := kG 367 (by decide +kernel) (by decide +kernel)
theorem kc_X5_turn : Cond.code yX5_turn cX5_turn 2 (some .int) ∈ wsG := kG 368 (by decide +kernel) (by decide +kernel)
theorem km_X5_93 : Cond.methodLink RX5 93 yX4_isLying ∈ wsG := kG 369 (by decide +kernel) (by decide +kernel)
theorem ki_X4_isLying : Cond.instanceMethod yX4_isLying ∈ wsG := kG 370 (by decide +kernel) (by decide +kernel)
theorem ke_X4_isLying : Cond.selects RX4 yX4_isLying yX4_isLying ∈ wsG := kG 371 (by decide +kernel) (by decide +kernel)
theorem kc_X4_isLying : Cond.code yX4_isLying cX4_isLying 2 (some .boolean) ∈ wsG := kG 372 (by decide +kernel) (by decide +kernel)
theorem kN_X4_47 : Cond.methodLinkNest RX4 47 yX5_isWithin RX5 ∈ lw_tbl := List.mem_of_getElem? (i := 373) (by decide +kernel)
theorem km_L_39 : Cond.methodLink RL 39 yX5_stack ∈ wsG := kG 374 (by decide +kernel) (by decide +kernel)
theorem ki_X5_stack : Cond.instanceMethod yX5_stack ∈ wsG := kG 375 (by decide +kernel) (by decide +kernel)
theorem ke_X5_stack : Cond.selects RX5 yX5_stack yX5_stack ∈ wsG := kG 376 (by decide +kernel) (by decide +kernel)
theorem kc_X5_stack : Cond.code yX5_stack cX5_stack 2 (some .int) ∈ wsG := kG 377 (by decide +kernel) (by decide +kernel)
theorem km_X5_106 : Cond.methodLink RX5 106 yX4_isDry ∈ wsG := kG 378 (by decide +kernel) (by decide +kernel)
theorem ki_X4_isDry : Cond.instanceMethod yX4_isDry ∈ wsG := kG 379 (by decide +kernel) (by decide +kernel)
theorem ke_X4_isDry : Cond.selects RX4 yX4_isDry yX4_isDry ∈ wsG := kG 380 (by decide +kernel) (by decide +kernel)
theorem kc_X4_isDry : Cond.code yX4_isDry cX4_isDry 2 (some .boolean) ∈ wsG := kG 381 (by decide +kernel) (by decide +kernel)
theorem km_X4_51 : Cond.methodLink RX4 51 yX4_isLying ∈ wsG := kG 382 (by decide +kernel) (by decide +kernel)
theorem km_X5_112 : Cond.methodLink RX5 112 yX4_countStackedOf ∈ wsG := kG 383 (by decide +kernel) (by decide +kernel)
theorem ki_X4_countStackedOf : Cond.instanceMethod yX4_countStackedOf ∈ wsG := kG 384 (by decide +kernel) (by decide +kernel)
theorem ke_X4_countStackedOf : Cond.selects RX4 yX4_countStackedOf yX4_countStackedOf ∈ wsG := kG 385 (by decide +kernel) (by decide +kernel)
theorem kc_X4_countStackedOf : Cond.code yX4_countStackedOf cX4_countStackedOf 4 (some .int) ∈ wsG := kG 386 (by decide +kernel) (by decide +kernel)
theorem km_X4_65 : Cond.methodLink RX4 65 yX4_isStacked ∈ wsG := kG 387 (by decide +kernel) (by decide +kernel)
theorem ki_X4_isStacked : Cond.instanceMethod yX4_isStacked ∈ wsG := kG 389 (by decide +kernel) (by decide +kernel)
theorem kc_X4_isStacked : Cond.code yX4_isStacked cX4_isStacked 2 (some .boolean) ∈ wsG := kG 390 (by decide +kernel) (by decide +kernel)
theorem km_L_43 : Cond.methodLink RL 43 yX5_pass ∈ wsG := kG 391 (by decide +kernel) (by decide +kernel)
theorem ki_X5_pass : Cond.instanceMethod yX5_pass ∈ wsG := kG 392 (by decide +kernel) (by decide +kernel)
theorem ke_X5_pass : Cond.selects RX5 yX5_pass yX5_pass ∈ wsG := kG 393 (by decide +kernel) (by decide +kernel)
theorem kc_X5_pass : Cond.code yX5_pass cX5_pass 2 (some .int) ∈ wsG := kG 394 (by decide +kernel) (by decide +kernel)
theorem km_X5_116 : Cond.methodLink RX5 116 yX5_isWeather ∈ wsG := kG 395 (by decide +kernel) (by decide +kernel)
theorem ks_X5_isWeather : Cond.static yX5_isWeather ∈ wsG := kG 396 (by decide +kernel) (by decide +kernel)
theorem kc_X5_isWeather : Cond.code yX5_isWeather cX5_isWeather 1 (some .boolean) ∈ wsG := kG 397 (by decide +kernel) (by decide +kernel)
theorem km_X5_119 : Cond.methodLink RX5 119 yX3_passDays ∈ wsG := kG 398 (by decide +kernel) (by decide +kernel)
theorem ki_X3_passDays : Cond.instanceMethod yX3_passDays ∈ wsG := kG 399 (by decide +kernel) (by decide +kernel)
theorem ke_X3_passDays : Cond.selects RX3 yX3_passDays yX3_passDays ∈ wsG := kG 400 (by decide +kernel) (by decide +kernel)
theorem kc_X3_passDays : Cond.code yX3_passDays cX3_passDays 6 (some .int) ∈ wsG := kG 401 (by decide +kernel) (by decide +kernel)
theorem km_X3_100 : Cond.methodLink RX3 100 yX4_dryOrWet ∈ wsG := kG 402 (by decide +kernel) (by decide +kernel)
theorem ki_X4_dryOrWet : Cond.instanceMethod yX4_dryOrWet ∈ wsG := kG 403 (by decide +kernel) (by decide +kernel)
theorem ke_X4_dryOrWet : Cond.selects RX4 yX4_dryOrWet yX4_dryOrWet ∈ wsG := kG 404 (by decide +kernel) (by decide +kernel)
theorem kc_X4_dryOrWet : Cond.code yX4_dryOrWet cX4_dryOrWet 4 none ∈ wsG := kG 405 (by decide +kernel) (by decide +kernel)
theorem km_X4_81 : Cond.methodLink RX4 81 yX4_changeBy ∈ wsG := kG 406 (by decide +kernel) (by decide +kernel)
theorem ks_X4_changeBy : Cond.static yX4_changeBy ∈ wsG := kG 407 (by decide +kernel) (by decide +kernel)
theorem kc_X4_changeBy : Cond.code yX4_changeBy cX4_changeBy 2 (some .int) ∈ wsG := kG 408 (by decide +kernel) (by decide +kernel)
theorem km_X4_85 : Cond.methodLink RX4 85 yJ9_min_7cf53 ∈ wsG := kG 409 (by decide +kernel) (by decide +kernel)
theorem km_X4_55 : Cond.methodLink RX4 55 yJ9_max_7cf53 ∈ wsG := kG 410 (by decide +kernel) (by decide +kernel)
theorem ks_J9_max_7cf53 : Cond.static yJ9_max_7cf53 ∈ wsG := kG 411 (by decide +kernel) (by decide +kernel)
theorem kc_max : Cond.code Lib.Math.max.name Lib.Math.max.code 2 (some .int) ∈ wsG := kG 412 (by decide +kernel) (by decide +kernel)
theorem km_X3_104 : Cond.methodLink RX3 104 yX3_commonerOfCart ∈ wsG := kG 413 (by decide +kernel) (by decide +kernel)
theorem ki_X3_commonerOfCart : Cond.instanceMethod yX3_commonerOfCart ∈ wsG := kG 414 (by decide +kernel) (by decide +kernel)
theorem ke_X3_commonerOfCart : Cond.selects RX3 yX3_commonerOfCart yX3_commonerOfCart ∈ wsG := kG 415 (by decide +kernel) (by decide +kernel)
theorem kc_X3_commonerOfCart : Cond.code yX3_commonerOfCart cX3_commonerOfCart 2 (some .int) ∈ wsG := kG 416 (by decide +kernel) (by decide +kernel)
theorem km_X3_108 : Cond.methodLink RX3 108 yX3_serve ∈ wsG := kG 417 (by decide +kernel) (by decide +kernel)
theorem ki_X3_serve : Cond.instanceMethod yX3_serve ∈ wsG := kG 419 (by decide +kernel) (by decide +kernel)
theorem kc_X3_serve : Cond.code yX3_serve cX3_serve 4 none ∈ wsG := kG 420 (by decide +kernel) (by decide +kernel)
theorem km_X3_111 : Cond.methodLink RX3 111 yX4_driestStackedOf ∈ wsG := kG 421 (by decide +kernel) (by decide +kernel)
theorem ki_X4_driestStackedOf : Cond.instanceMethod yX4_driestStackedOf ∈ wsG := kG 422 (by decide +kernel) (by decide +kernel)
theorem ke_X4_driestStackedOf : Cond.selects RX4 yX4_driestStackedOf yX4_driestStackedOf ∈ wsG := kG 423 (by decide +kernel) (by decide +kernel)
theorem kc_X4_driestStackedOf : Cond.code yX4_driestStackedOf cX4_driestStackedOf 4 (some .int) ∈ wsG := kG 424 (by decide +kernel) (by decide +kernel)
theorem km_X3_114 : Cond.methodLink RX3 114 yX4_isLying ∈ wsG := kG 425 (by decide +kernel) (by decide +kernel)
theorem km_X3_117 : Cond.methodLink RX3 117 yX4_peatsAtHearth ∈ wsG := kG 426 (by decide +kernel) (by decide +kernel)
theorem ki_X4_peatsAtHearth : Cond.instanceMethod yX4_peatsAtHearth ∈ wsG := kG 427 (by decide +kernel) (by decide +kernel)
theorem ke_X4_peatsAtHearth : Cond.selects RX4 yX4_peatsAtHearth yX4_peatsAtHearth ∈ wsG := kG 428 (by decide +kernel) (by decide +kernel)
theorem kc_X4_peatsAtHearth : Cond.code yX4_peatsAtHearth cX4_peatsAtHearth 2 (some .int) ∈ wsG := kG 429 (by decide +kernel) (by decide +kernel)
theorem km_L_47 : Cond.methodLink RL 47 yX5_passAll ∈ wsG := kG 430 (by decide +kernel) (by decide +kernel)
theorem ki_X5_passAll : Cond.instanceMethod yX5_passAll ∈ wsG := kG 431 (by decide +kernel) (by decide +kernel)
theorem ke_X5_passAll : Cond.selects RX5 yX5_passAll yX5_passAll ∈ wsG := kG 432 (by decide +kernel) (by decide +kernel)
theorem kc_X5_passAll : Cond.code yX5_passAll cX5_passAll 4 (some .int) ∈ wsG := kG 433 (by decide +kernel) (by decide +kernel)
theorem km_X5_122 : Cond.methodLink RX5 122 yX0_readGroups ∈ wsG := kG 434 (by decide +kernel) (by decide +kernel)
theorem ki_X0_readGroups : Cond.instanceMethod yX0_readGroups ∈ wsG := kG 435 (by decide +kernel) (by decide +kernel)
theorem ke_X0_readGroups : Cond.selects RX0 yX0_readGroups yX0_readGroups ∈ wsG := kG 436 (by decide +kernel) (by decide +kernel)
theorem kc_X0_readGroups : Cond.code yX0_readGroups cX0_readGroups 4 (some .int) ∈ wsG := kG 437 (by decide +kernel) (by decide +kernel)
theorem km_X0_29 : Cond.methodLink RX0 29 yX0_isWeatherLetter ∈ wsG := kG 438 (by decide +kernel) (by decide +kernel)
theorem ks_X0_isWeatherLetter : Cond.static yX0_isWeatherLetter ∈ wsG := kG 439 (by decide +kernel) (by decide +kernel)
theorem kc_X0_isWeatherLetter : Cond.code yX0_isWeatherLetter cX0_isWeatherLetter 1 (some .boolean) ∈ wsG := kG 440 (by decide +kernel) (by decide +kernel)
theorem km_X0_33 : Cond.methodLink RX0 33 yX0_weatherOf ∈ wsG := kG 441 (by decide +kernel) (by decide +kernel)
theorem ks_X0_weatherOf : Cond.static yX0_weatherOf ∈ wsG := kG 442 (by decide +kernel) (by decide +kernel)
theorem kc_X0_weatherOf : Cond.code yX0_weatherOf cX0_weatherOf 1 (some .int) ∈ wsG := kG 443 (by decide +kernel) (by decide +kernel)
theorem km_X0_37 : Cond.methodLink RX0 37 yX0_openGroup ∈ wsG := kG 444 (by decide +kernel) (by decide +kernel)
theorem ki_X0_openGroup : Cond.instanceMethod yX0_openGroup ∈ wsG := kG 446 (by decide +kernel) (by decide +kernel)
theorem kc_X0_openGroup : Cond.code yX0_openGroup cX0_openGroup 2 none ∈ wsG := kG 447 (by decide +kernel) (by decide +kernel)
theorem km_X0_41 : Cond.methodLink RX0 41 yX0_isDigit ∈ wsG := kG 448 (by decide +kernel) (by decide +kernel)
theorem ks_X0_isDigit : Cond.static yX0_isDigit ∈ wsG := kG 449 (by decide +kernel) (by decide +kernel)
theorem kc_X0_isDigit : Cond.code yX0_isDigit cX0_isDigit 1 (some .boolean) ∈ wsG := kG 450 (by decide +kernel) (by decide +kernel)
theorem km_L_52 : Cond.methodLink RL 52 yX5_settle ∈ wsG := kG 451 (by decide +kernel) (by decide +kernel)
theorem ki_X5_settle : Cond.instanceMethod yX5_settle ∈ wsG := kG 452 (by decide +kernel) (by decide +kernel)
theorem ke_X5_settle : Cond.selects RX5 yX5_settle yX5_settle ∈ wsG := kG 453 (by decide +kernel) (by decide +kernel)
theorem kc_X5_settle : Cond.code yX5_settle cX5_settle 1 (some .int) ∈ wsG := kG 454 (by decide +kernel) (by decide +kernel)
theorem km_X5_139 : Cond.methodLink RX5 139 yX1_countOpen ∈ wsG := kG 455 (by decide +kernel) (by decide +kernel)
theorem ki_X1_countOpen : Cond.instanceMethod yX1_countOpen ∈ wsG := kG 456 (by decide +kernel) (by decide +kernel)
theorem ke_X1_countOpen : Cond.selects RX1 yX1_countOpen yX1_countOpen ∈ wsG := kG 457 (by decide +kernel) (by decide +kernel)
theorem kc_X1_countOpen : Cond.code yX1_countOpen cX1_countOpen 1 (some .int) ∈ wsG := kG 458 (by decide +kernel) (by decide +kernel)
theorem km_X5_144 : Cond.methodLink RX5 144 yX3_settleOldest ∈ wsG := kG 459 (by decide +kernel) (by decide +kernel)
theorem ki_X3_settleOldest : Cond.instanceMethod yX3_settleOldest ∈ wsG := kG 460 (by decide +kernel) (by decide +kernel)
theorem ke_X3_settleOldest : Cond.selects RX3 yX3_settleOldest yX3_settleOldest ∈ wsG := kG 461 (by decide +kernel) (by decide +kernel)
theorem kc_X3_settleOldest : Cond.code yX3_settleOldest cX3_settleOldest 5 (some .int) ∈ wsG := kG 462 (by decide +kernel) (by decide +kernel)
theorem km_X3_124 : Cond.methodLink RX3 124 yX1_countOpen ∈ wsG := kG 463 (by decide +kernel) (by decide +kernel)
theorem km_X3_133 : Cond.methodLink RX3 133 yX3_useDayIfLeft ∈ wsG := kG 464 (by decide +kernel) (by decide +kernel)
theorem ki_X3_useDayIfLeft : Cond.instanceMethod yX3_useDayIfLeft ∈ wsG := kG 466 (by decide +kernel) (by decide +kernel)
theorem kc_X3_useDayIfLeft : Cond.code yX3_useDayIfLeft cX3_useDayIfLeft 2 none ∈ wsG := kG 467 (by decide +kernel) (by decide +kernel)
theorem km_X3_145 : Cond.methodLink RX3 145 yX3_givePeats ∈ wsG := kG 468 (by decide +kernel) (by decide +kernel)
theorem ki_X3_givePeats : Cond.instanceMethod yX3_givePeats ∈ wsG := kG 470 (by decide +kernel) (by decide +kernel)
theorem kc_X3_givePeats : Cond.code yX3_givePeats cX3_givePeats 4 none ∈ wsG := kG 471 (by decide +kernel) (by decide +kernel)
theorem km_X3_149 : Cond.methodLink RX3 149 yJ9_min_7cf53 ∈ wsG := kG 472 (by decide +kernel) (by decide +kernel)
theorem km_L_56 : Cond.methodLink RL 56 yX5_endYear ∈ wsG := kG 473 (by decide +kernel) (by decide +kernel)
theorem ki_X5_endYear : Cond.instanceMethod yX5_endYear ∈ wsG := kG 474 (by decide +kernel) (by decide +kernel)
theorem ke_X5_endYear : Cond.selects RX5 yX5_endYear yX5_endYear ∈ wsG := kG 475 (by decide +kernel) (by decide +kernel)
theorem kc_X5_endYear : Cond.code yX5_endYear cX5_endYear 1 (some .int) ∈ wsG := kG 476 (by decide +kernel) (by decide +kernel)
theorem km_X5_147 : Cond.methodLink RX5 147 yX3_closeYear ∈ wsG := kG 477 (by decide +kernel) (by decide +kernel)
theorem ki_X3_closeYear : Cond.instanceMethod yX3_closeYear ∈ wsG := kG 478 (by decide +kernel) (by decide +kernel)
theorem ke_X3_closeYear : Cond.selects RX3 yX3_closeYear yX3_closeYear ∈ wsG := kG 479 (by decide +kernel) (by decide +kernel)
theorem kc_X3_closeYear : Cond.code yX3_closeYear cX3_closeYear 3 (some .int) ∈ wsG := kG 480 (by decide +kernel) (by decide +kernel)
theorem km_X3_154 : Cond.methodLink RX3 154 yX4_loseAll ∈ wsG := kG 481 (by decide +kernel) (by decide +kernel)
theorem ki_X4_loseAll : Cond.instanceMethod yX4_loseAll ∈ wsG := kG 482 (by decide +kernel) (by decide +kernel)
theorem ke_X4_loseAll : Cond.selects RX4 yX4_loseAll yX4_loseAll ∈ wsG := kG 483 (by decide +kernel) (by decide +kernel)
theorem kc_X4_loseAll : Cond.code yX4_loseAll cX4_loseAll 3 (some .int) ∈ wsG := kG 484 (by decide +kernel) (by decide +kernel)
theorem km_X4_88 : Cond.methodLink RX4 88 yX4_countLying ∈ wsG := kG 485 (by decide +kernel) (by decide +kernel)
theorem km_L_60 : Cond.methodLink RL 60 yX5_type ∈ wsG := kG 486 (by decide +kernel) (by decide +kernel)
theorem ki_X5_type : Cond.instanceMethod yX5_type ∈ wsG := kG 487 (by decide +kernel) (by decide +kernel)
theorem ke_X5_type : Cond.selects RX5 yX5_type yX5_type ∈ wsG := kG 488 (by decide +kernel) (by decide +kernel)
theorem kc_X5_type : Cond.code yX5_type cX5_type 2 (some .int) ∈ wsG := kG 489 (by decide +kernel) (by decide +kernel)
theorem km_X5_150 : Cond.methodLink RX5 150 yX0_append ∈ wsG := kG 490 (by decide +kernel) (by decide +kernel)
theorem ki_X0_append : Cond.instanceMethod yX0_append ∈ wsG := kG 491 (by decide +kernel) (by decide +kernel)
theorem ke_X0_append : Cond.selects RX0 yX0_append yX0_append ∈ wsG := kG 492 (by decide +kernel) (by decide +kernel)
theorem kc_X0_append : Cond.code yX0_append cX0_append 2 (some .boolean) ∈ wsG := kG 493 (by decide +kernel) (by decide +kernel)
theorem km_L_65 : Cond.methodLink RL 65 yX5_clearText ∈ wsG := kG 494 (by decide +kernel) (by decide +kernel)
theorem ki_X5_clearText : Cond.instanceMethod yX5_clearText ∈ wsG := kG 495 (by decide +kernel) (by decide +kernel)
theorem ke_X5_clearText : Cond.selects RX5 yX5_clearText yX5_clearText ∈ wsG := kG 496 (by decide +kernel) (by decide +kernel)
theorem kc_X5_clearText : Cond.code yX5_clearText cX5_clearText 2 (some .int) ∈ wsG := kG 497 (by decide +kernel) (by decide +kernel)
theorem km_L_69 : Cond.methodLink RL 69 yX5_undo ∈ wsG := kG 498 (by decide +kernel) (by decide +kernel)
theorem ki_X5_undo : Cond.instanceMethod yX5_undo ∈ wsG := kG 499 (by decide +kernel) (by decide +kernel)
theorem ke_X5_undo : Cond.selects RX5 yX5_undo yX5_undo ∈ wsG := kG 500 (by decide +kernel) (by decide +kernel)
theorem kc_X5_undo : Cond.code yX5_undo cX5_undo 1 (some .int) ∈ wsG := kG 501 (by decide +kernel) (by decide +kernel)
theorem km_X5_160 : Cond.methodLink RX5 160 yX2_takeBack ∈ wsG := kG 502 (by decide +kernel) (by decide +kernel)
theorem ki_X2_takeBack : Cond.instanceMethod yX2_takeBack ∈ wsG := kG 503 (by decide +kernel) (by decide +kernel)
theorem ke_X2_takeBack : Cond.selects RX2 yX2_takeBack yX2_takeBack ∈ wsG := kG 504 (by decide +kernel) (by decide +kernel)
theorem kc_X2_takeBack : Cond.code yX2_takeBack cX2_takeBack 3 none ∈ wsG := kG 505 (by decide +kernel) (by decide +kernel)
theorem km_L_73 : Cond.methodLink RL 73 yX5_keep ∈ wsG := kG 506 (by decide +kernel) (by decide +kernel)
theorem ki_X5_keep : Cond.instanceMethod yX5_keep ∈ wsG := kG 507 (by decide +kernel) (by decide +kernel)
theorem ke_X5_keep : Cond.selects RX5 yX5_keep yX5_keep ∈ wsG := kG 508 (by decide +kernel) (by decide +kernel)
theorem kc_X5_keep : Cond.code yX5_keep cX5_keep 1 (some .int) ∈ wsG := kG 509 (by decide +kernel) (by decide +kernel)
theorem km_X5_163 : Cond.methodLink RX5 163 yX3_copyFrom ∈ wsG := kG 510 (by decide +kernel) (by decide +kernel)
theorem km_X5_166 : Cond.methodLink RX5 166 yX4_countLying ∈ wsG := kG 511 (by decide +kernel) (by decide +kernel)
theorem km_L_77 : Cond.methodLink RL 77 yX5_restore ∈ wsG := kG 512 (by decide +kernel) (by decide +kernel)
theorem ki_X5_restore : Cond.instanceMethod yX5_restore ∈ wsG := kG 513 (by decide +kernel) (by decide +kernel)
theorem ke_X5_restore : Cond.selects RX5 yX5_restore yX5_restore ∈ wsG := kG 514 (by decide +kernel) (by decide +kernel)
theorem kc_X5_restore : Cond.code yX5_restore cX5_restore 1 (some .int) ∈ wsG := kG 515 (by decide +kernel) (by decide +kernel)
theorem km_L_81 : Cond.methodLink RL 81 yX5_commoner ∈ wsG := kG 516 (by decide +kernel) (by decide +kernel)
theorem ki_X5_commoner : Cond.instanceMethod yX5_commoner ∈ wsG := kG 517 (by decide +kernel) (by decide +kernel)
theorem ke_X5_commoner : Cond.selects RX5 yX5_commoner yX5_commoner ∈ wsG := kG 518 (by decide +kernel) (by decide +kernel)
theorem kc_X5_commoner : Cond.code yX5_commoner cX5_commoner 3 (some .int) ∈ wsG := kG 519 (by decide +kernel) (by decide +kernel)
theorem km_X5_175 : Cond.methodLink RX5 175 yX4_countLyingOf ∈ wsG := kG 520 (by decide +kernel) (by decide +kernel)
theorem ki_X4_countLyingOf : Cond.instanceMethod yX4_countLyingOf ∈ wsG := kG 521 (by decide +kernel) (by decide +kernel)
theorem ke_X4_countLyingOf : Cond.selects RX4 yX4_countLyingOf yX4_countLyingOf ∈ wsG := kG 522 (by decide +kernel) (by decide +kernel)
theorem kc_X4_countLyingOf : Cond.code yX4_countLyingOf cX4_countLyingOf 4 (some .int) ∈ wsG := kG 523 (by decide +kernel) (by decide +kernel)
theorem km_X4_71 : Cond.methodLink RX4 71 yX4_isLyingOf ∈ wsG := kG 524 (by decide +kernel) (by decide +kernel)
theorem ki_X4_isLyingOf : Cond.instanceMethod yX4_isLyingOf ∈ wsG := kG 526 (by decide +kernel) (by decide +kernel)
theorem kc_X4_isLyingOf : Cond.code yX4_isLyingOf cX4_isLyingOf 3 (some .boolean) ∈ wsG := kG 527 (by decide +kernel) (by decide +kernel)
theorem km_X5_178 : Cond.methodLink RX5 178 yX5_countEqual ∈ wsG := kG 528 (by decide +kernel) (by decide +kernel)
theorem ks_X5_countEqual : Cond.static yX5_countEqual ∈ wsG := kG 529 (by decide +kernel) (by decide +kernel)
theorem kc_X5_countEqual : Cond.code yX5_countEqual cX5_countEqual 7 (some .int) ∈ wsG := kG 530 (by decide +kernel) (by decide +kernel)
theorem km_X5_188 : Cond.methodLink RX5 188 yX5_oneIf ∈ wsG := kG 531 (by decide +kernel) (by decide +kernel)
theorem km_X5_182 : Cond.methodLink RX5 182 yX1_countOpenWith ∈ wsG := kG 532 (by decide +kernel) (by decide +kernel)
theorem ki_X1_countOpenWith : Cond.instanceMethod yX1_countOpenWith ∈ wsG := kG 533 (by decide +kernel) (by decide +kernel)
theorem ke_X1_countOpenWith : Cond.selects RX1 yX1_countOpenWith yX1_countOpenWith ∈ wsG := kG 534 (by decide +kernel) (by decide +kernel)
theorem kc_X1_countOpenWith : Cond.code yX1_countOpenWith cX1_countOpenWith 4 (some .int) ∈ wsG := kG 535 (by decide +kernel) (by decide +kernel)
theorem kN_X1_35 : Cond.methodLinkNest RX1 35 yX5_oneIf RX5 ∈ lw_tbl := List.mem_of_getElem? (i := 536) (by decide +kernel)
theorem km_L_85 : Cond.methodLink RL 85 yX5_plot ∈ wsG := kG 537 (by decide +kernel) (by decide +kernel)
theorem ki_X5_plot : Cond.instanceMethod yX5_plot ∈ wsG := kG 538 (by decide +kernel) (by decide +kernel)
theorem ke_X5_plot : Cond.selects RX5 yX5_plot yX5_plot ∈ wsG := kG 539 (by decide +kernel) (by decide +kernel)
theorem kc_X5_plot : Cond.code yX5_plot cX5_plot 3 (some .int) ∈ wsG := kG 540 (by decide +kernel) (by decide +kernel)
theorem km_L_89 : Cond.methodLink RL 89 yX5_row ∈ wsG := kG 541 (by decide +kernel) (by decide +kernel)
theorem ki_X5_row : Cond.instanceMethod yX5_row ∈ wsG := kG 542 (by decide +kernel) (by decide +kernel)
theorem ke_X5_row : Cond.selects RX5 yX5_row yX5_row ∈ wsG := kG 543 (by decide +kernel) (by decide +kernel)
theorem kc_X5_row : Cond.code yX5_row cX5_row 3 (some .int) ∈ wsG := kG 544 (by decide +kernel) (by decide +kernel)
theorem km_X5_195 : Cond.methodLink RX5 195 yX4_peatsAtHearth ∈ wsG := kG 545 (by decide +kernel) (by decide +kernel)
theorem km_L_93 : Cond.methodLink RL 93 yX5_driest ∈ wsG := kG 546 (by decide +kernel) (by decide +kernel)
theorem ki_X5_driest : Cond.instanceMethod yX5_driest ∈ wsG := kG 547 (by decide +kernel) (by decide +kernel)
theorem ke_X5_driest : Cond.selects RX5 yX5_driest yX5_driest ∈ wsG := kG 548 (by decide +kernel) (by decide +kernel)
theorem kc_X5_driest : Cond.code yX5_driest cX5_driest 3 (some .int) ∈ wsG := kG 549 (by decide +kernel) (by decide +kernel)
theorem km_X5_198 : Cond.methodLink RX5 198 yX4_driestOf ∈ wsG := kG 550 (by decide +kernel) (by decide +kernel)
theorem ki_X4_driestOf : Cond.instanceMethod yX4_driestOf ∈ wsG := kG 551 (by decide +kernel) (by decide +kernel)
theorem ke_X4_driestOf : Cond.selects RX4 yX4_driestOf yX4_driestOf ∈ wsG := kG 552 (by decide +kernel) (by decide +kernel)
theorem kc_X4_driestOf : Cond.code yX4_driestOf cX4_driestOf 4 (some .int) ∈ wsG := kG 553 (by decide +kernel) (by decide +kernel)
theorem km_X4_75 : Cond.methodLink RX4 75 yX4_countDrierThan ∈ wsG := kG 554 (by decide +kernel) (by decide +kernel)
theorem ki_X4_countDrierThan : Cond.instanceMethod yX4_countDrierThan ∈ wsG := kG 556 (by decide +kernel) (by decide +kernel)
theorem kc_X4_countDrierThan : Cond.code yX4_countDrierThan cX4_countDrierThan 5 (some .int) ∈ wsG := kG 557 (by decide +kernel) (by decide +kernel)
theorem km_X4_78 : Cond.methodLink RX4 78 yX4_comesBefore ∈ wsG := kG 558 (by decide +kernel) (by decide +kernel)
theorem ki_X4_comesBefore : Cond.instanceMethod yX4_comesBefore ∈ wsG := kG 560 (by decide +kernel) (by decide +kernel)
theorem kc_X4_comesBefore : Cond.code yX4_comesBefore cX4_comesBefore 3 (some .boolean) ∈ wsG := kG 561 (by decide +kernel) (by decide +kernel)
theorem km_L_97 : Cond.methodLink RL 97 yX5_why ∈ wsG := kG 562 (by decide +kernel) (by decide +kernel)
theorem ki_X5_why : Cond.instanceMethod yX5_why ∈ wsG := kG 563 (by decide +kernel) (by decide +kernel)
theorem ke_X5_why : Cond.selects RX5 yX5_why yX5_why ∈ wsG := kG 564 (by decide +kernel) (by decide +kernel)
theorem kc_X5_why : Cond.code yX5_why cX5_why 3 (some .int) ∈ wsG := kG 565 (by decide +kernel) (by decide +kernel)
theorem km_L_101 : Cond.methodLink RL 101 yX5_dispute ∈ wsG := kG 566 (by decide +kernel) (by decide +kernel)
theorem ki_X5_dispute : Cond.instanceMethod yX5_dispute ∈ wsG := kG 567 (by decide +kernel) (by decide +kernel)
theorem ke_X5_dispute : Cond.selects RX5 yX5_dispute yX5_dispute ∈ wsG := kG 568 (by decide +kernel) (by decide +kernel)
theorem kc_X5_dispute : Cond.code yX5_dispute cX5_dispute 4 (some .int) ∈ wsG := kG 569 (by decide +kernel) (by decide +kernel)
theorem km_L_105 : Cond.methodLink RL 105 yX5_cart ∈ wsG := kG 570 (by decide +kernel) (by decide +kernel)
theorem ki_X5_cart : Cond.instanceMethod yX5_cart ∈ wsG := kG 571 (by decide +kernel) (by decide +kernel)
theorem ke_X5_cart : Cond.selects RX5 yX5_cart yX5_cart ∈ wsG := kG 572 (by decide +kernel) (by decide +kernel)
theorem kc_X5_cart : Cond.code yX5_cart cX5_cart 2 (some .int) ∈ wsG := kG 573 (by decide +kernel) (by decide +kernel)
theorem km_X5_214 : Cond.methodLink RX5 214 yX3_commonerOfCart ∈ wsG := kG 574 (by decide +kernel) (by decide +kernel)
theorem km_L_109 : Cond.methodLink RL 109 yX5_would ∈ wsG := kG 575 (by decide +kernel) (by decide +kernel)
theorem ki_X5_would : Cond.instanceMethod yX5_would ∈ wsG := kG 576 (by decide +kernel) (by decide +kernel)
theorem ke_X5_would : Cond.selects RX5 yX5_would yX5_would ∈ wsG := kG 577 (by decide +kernel) (by decide +kernel)
theorem kc_X5_would : Cond.code yX5_would cX5_would 3 (some .int) ∈ wsG := kG 578 (by decide +kernel) (by decide +kernel)
theorem km_L_113 : Cond.methodLink RL 113 yX5_count ∈ wsG := kG 579 (by decide +kernel) (by decide +kernel)
theorem ki_X5_count : Cond.instanceMethod yX5_count ∈ wsG := kG 580 (by decide +kernel) (by decide +kernel)
theorem ke_X5_count : Cond.selects RX5 yX5_count yX5_count ∈ wsG := kG 581 (by decide +kernel) (by decide +kernel)
theorem kc_X5_count : Cond.code yX5_count cX5_count 2 (some .int) ∈ wsG := kG 582 (by decide +kernel) (by decide +kernel)
theorem km_X5_226 : Cond.methodLink RX5 226 yX4_countStacked ∈ wsG := kG 583 (by decide +kernel) (by decide +kernel)
theorem ki_X4_countStacked : Cond.instanceMethod yX4_countStacked ∈ wsG := kG 584 (by decide +kernel) (by decide +kernel)
theorem ke_X4_countStacked : Cond.selects RX4 yX4_countStacked yX4_countStacked ∈ wsG := kG 585 (by decide +kernel) (by decide +kernel)
theorem kc_X4_countStacked : Cond.code yX4_countStacked cX4_countStacked 3 (some .int) ∈ wsG := kG 586 (by decide +kernel) (by decide +kernel)
theorem km_X5_229 : Cond.methodLink RX5 229 yX4_countDry ∈ wsG := kG 587 (by decide +kernel) (by decide +kernel)
theorem ki_X4_countDry : Cond.instanceMethod yX4_countDry ∈ wsG := kG 588 (by decide +kernel) (by decide +kernel)
theorem ke_X4_countDry : Cond.selects RX4 yX4_countDry yX4_countDry ∈ wsG := kG 589 (by decide +kernel) (by decide +kernel)
theorem kc_X4_countDry : Cond.code yX4_countDry cX4_countDry 3 (some .int) ∈ wsG := kG 590 (by decide +kernel) (by decide +kernel)
theorem km_X4_68 : Cond.methodLink RX4 68 yX4_isDry ∈ wsG := kG 591 (by decide +kernel) (by decide +kernel)
theorem km_X5_235 : Cond.methodLink RX5 235 yX5_sumOf ∈ wsG := kG 592 (by decide +kernel) (by decide +kernel)
theorem ks_X5_sumOf : Cond.static yX5_sumOf ∈ wsG := kG 593 (by decide +kernel) (by decide +kernel)
theorem kc_X5_sumOf : Cond.code yX5_sumOf cX5_sumOf 6 (some .int) ∈ wsG := kG 594 (by decide +kernel) (by decide +kernel)
theorem kl_L_10 : Cond.classLink RL 10 RX6 ∈ wsG := kG 595 (by decide +kernel) (by decide +kernel)
theorem kt_X6 : Cond.instantiable RX6 13 ∈ wsG := kG 596 (by decide +kernel) (by decide +kernel)
theorem km_L_12 : Cond.methodLink RL 12 yX6_init ∈ wsG := kG 597 (by decide +kernel) (by decide +kernel)
theorem ki_X6_init : Cond.instanceMethod yX6_init ∈ wsG := kG 598 (by decide +kernel) (by decide +kernel)
theorem kc_X6_init : Cond.code yX6_init cX6_init 2 none ∈ wsG := kG 599 (by decide +kernel) (by decide +kernel)
theorem km_X6_1 : Cond.methodLink RX6 1 objectInit ∈ wsG := kG 600 (by decide +kernel) (by decide +kernel)
theorem kf_X6_28 : Cond.fieldLink RX6 28 "PeatBanksModel" "thrown" "I" ∈ wsG := kG 601 (by decide +kernel) (by decide +kernel)
theorem kf_X6_7 : Cond.fieldLink RX6 7 "PeatBanksModel" "s" "[I" ∈ wsG := kG 602 (by decide +kernel) (by decide +kernel)
theorem kf_X6_13 : Cond.fieldLink RX6 13 "PeatBanksModel" "aside" "[I" ∈ wsG := kG 603 (by decide +kernel) (by decide +kernel)
theorem kf_X6_16 : Cond.fieldLink RX6 16 "PeatBanksModel" "saved" "[I" ∈ wsG := kG 604 (by decide +kernel) (by decide +kernel)
theorem kf_X6_40 : Cond.fieldLink RX6 40 "PeatBanksModel" "savedMany" "I" ∈ wsG := kG 605 (by decide +kernel) (by decide +kernel)
theorem kf_X6_19 : Cond.fieldLink RX6 19 "PeatBanksModel" "snapshot" "[I" ∈ wsG := kG 606 (by decide +kernel) (by decide +kernel)
theorem kf_X6_138 : Cond.fieldLink RX6 138 "PeatBanksModel" "hasSnapshot" "Z" ∈ wsG := kG 607 (by decide +kernel) (by decide +kernel)
theorem kf_X6_22 : Cond.fieldLink RX6 22 "PeatBanksModel" "text" "[I" ∈ wsG := kG 608 (by decide +kernel) (by decide +kernel)
theorem kf_X6_119 : Cond.fieldLink RX6 119 "PeatBanksModel" "length" "I" ∈ wsG := kG 609 (by decide +kernel) (by decide +kernel)
theorem kf_X6_122 : Cond.fieldLink RX6 122 "PeatBanksModel" "at" "I" ∈ wsG := kG 610 (by decide +kernel) (by decide +kernel)
theorem kf_X6_128 : Cond.fieldLink RX6 128 "PeatBanksModel" "isWell" "Z" ∈ wsG := kG 611 (by decide +kernel) (by decide +kernel)
theorem kf_X6_25 : Cond.fieldLink RX6 25 "PeatBanksModel" "groups" "[I" ∈ wsG := kG 612 (by decide +kernel) (by decide +kernel)
theorem kf_X6_110 : Cond.fieldLink RX6 110 "PeatBanksModel" "groupMany" "I" ∈ wsG := kG 613 (by decide +kernel) (by decide +kernel)
theorem km_L_17 : Cond.methodLink RL 17 yX6_lend ∈ wsG := kG 641 (by decide +kernel) (by decide +kernel)
theorem ki_X6_lend : Cond.instanceMethod yX6_lend ∈ wsG := kG 642 (by decide +kernel) (by decide +kernel)
theorem ke_X6_lend : Cond.selects RX6 yX6_lend yX6_lend ∈ wsG := kG 643 (by decide +kernel) (by decide +kernel)
theorem kc_X6_lend : Cond.code yX6_lend cX6_lend 4 (some .int) ∈ wsG := kG 644 (by decide +kernel) (by decide +kernel)
theorem km_X6_70 : Cond.methodLink RX6 70 yX6_isPlot ∈ wsG := kG 645 (by decide +kernel) (by decide +kernel)
theorem ks_X6_isPlot : Cond.static yX6_isPlot ∈ wsG := kG 646 (by decide +kernel) (by decide +kernel)
theorem kc_X6_isPlot : Cond.code yX6_isPlot cX6_isPlot 1 (some .boolean) ∈ wsG := kG 647 (by decide +kernel) (by decide +kernel)
theorem km_X6_32 : Cond.methodLink RX6 32 yX6_in ∈ wsG := kG 648 (by decide +kernel) (by decide +kernel)
theorem ks_X6_in : Cond.static yX6_in ∈ wsG := kG 649 (by decide +kernel) (by decide +kernel)
theorem kc_X6_in : Cond.code yX6_in cX6_in 3 (some .boolean) ∈ wsG := kG 650 (by decide +kernel) (by decide +kernel)
theorem km_X6_74 : Cond.methodLink RX6 74 yX6_isCommoner ∈ wsG := kG 651 (by decide +kernel) (by decide +kernel)
theorem ks_X6_isCommoner : Cond.static yX6_isCommoner ∈ wsG := kG 652 (by decide +kernel) (by decide +kernel)
theorem kc_X6_isCommoner : Cond.code yX6_isCommoner cX6_isCommoner 1 (some .boolean) ∈ wsG := kG 653 (by decide +kernel) (by decide +kernel)
theorem km_X6_77 : Cond.methodLink RX6 77 yX6_ofPlot ∈ wsG := kG 654 (by decide +kernel) (by decide +kernel)
theorem ki_X6_ofPlot : Cond.instanceMethod yX6_ofPlot ∈ wsG := kG 656 (by decide +kernel) (by decide +kernel)
theorem kc_X6_ofPlot : Cond.code yX6_ofPlot cX6_ofPlot 3 (some .int) ∈ wsG := kG 657 (by decide +kernel) (by decide +kernel)
theorem km_X6_80 : Cond.methodLink RX6 80 yX6_records ∈ wsG := kG 658 (by decide +kernel) (by decide +kernel)
theorem ki_X6_records : Cond.instanceMethod yX6_records ∈ wsG := kG 660 (by decide +kernel) (by decide +kernel)
theorem kc_X6_records : Cond.code yX6_records cX6_records 2 none ∈ wsG := kG 661 (by decide +kernel) (by decide +kernel)
theorem km_L_21 : Cond.methodLink RL 21 yX6_handOver ∈ wsG := kG 662 (by decide +kernel) (by decide +kernel)
theorem ki_X6_handOver : Cond.instanceMethod yX6_handOver ∈ wsG := kG 663 (by decide +kernel) (by decide +kernel)
theorem ke_X6_handOver : Cond.selects RX6 yX6_handOver yX6_handOver ∈ wsG := kG 664 (by decide +kernel) (by decide +kernel)
theorem kc_X6_handOver : Cond.code yX6_handOver cX6_handOver 4 (some .int) ∈ wsG := kG 665 (by decide +kernel) (by decide +kernel)
theorem km_L_25 : Cond.methodLink RL 25 yX6_setDays ∈ wsG := kG 666 (by decide +kernel) (by decide +kernel)
theorem ki_X6_setDays : Cond.instanceMethod yX6_setDays ∈ wsG := kG 667 (by decide +kernel) (by decide +kernel)
theorem ke_X6_setDays : Cond.selects RX6 yX6_setDays yX6_setDays ∈ wsG := kG 668 (by decide +kernel) (by decide +kernel)
theorem kc_X6_setDays : Cond.code yX6_setDays cX6_setDays 4 (some .int) ∈ wsG := kG 669 (by decide +kernel) (by decide +kernel)
theorem km_X6_83 : Cond.methodLink RX6 83 yX6_ofCommoner ∈ wsG := kG 670 (by decide +kernel) (by decide +kernel)
theorem ki_X6_ofCommoner : Cond.instanceMethod yX6_ofCommoner ∈ wsG := kG 672 (by decide +kernel) (by decide +kernel)
theorem kc_X6_ofCommoner : Cond.code yX6_ofCommoner cX6_ofCommoner 3 (some .int) ∈ wsG := kG 673 (by decide +kernel) (by decide +kernel)
theorem km_X6_57 : Cond.methodLink RX6 57 yX6_addCommoner ∈ wsG := kG 674 (by decide +kernel) (by decide +kernel)
theorem ki_X6_addCommoner : Cond.instanceMethod yX6_addCommoner ∈ wsG := kG 676 (by decide +kernel) (by decide +kernel)
theorem kc_X6_addCommoner : Cond.code yX6_addCommoner cX6_addCommoner 4 none ∈ wsG := kG 677 (by decide +kernel) (by decide +kernel)
theorem km_L_29 : Cond.methodLink RL 29 yX6_set ∈ wsG := kG 678 (by decide +kernel) (by decide +kernel)
theorem ki_X6_set : Cond.instanceMethod yX6_set ∈ wsG := kG 679 (by decide +kernel) (by decide +kernel)
theorem ke_X6_set : Cond.selects RX6 yX6_set yX6_set ∈ wsG := kG 680 (by decide +kernel) (by decide +kernel)
theorem kc_X6_set : Cond.code yX6_set cX6_set 5 (some .int) ∈ wsG := kG 681 (by decide +kernel) (by decide +kernel)
theorem km_L_33 : Cond.methodLink RL 33 yX6_cut ∈ wsG := kG 682 (by decide +kernel) (by decide +kernel)
theorem ki_X6_cut : Cond.instanceMethod yX6_cut ∈ wsG := kG 683 (by decide +kernel) (by decide +kernel)
theorem ke_X6_cut : Cond.selects RX6 yX6_cut yX6_cut ∈ wsG := kG 684 (by decide +kernel) (by decide +kernel)
theorem kc_X6_cut : Cond.code yX6_cut cX6_cut 5 (some .int) ∈ wsG := kG 685 (by decide +kernel) (by decide +kernel)
theorem km_X6_90 : Cond.methodLink RX6 90 yX6_reason ∈ wsG := kG 686 (by decide +kernel) (by decide +kernel)
theorem ki_X6_reason : Cond.instanceMethod yX6_reason ∈ wsG := kG 688 (by decide +kernel) (by decide +kernel)
theorem kc_X6_reason : Cond.code yX6_reason cX6_reason 3 (some .int) ∈ wsG := kG 689 (by decide +kernel) (by decide +kernel)
theorem km_X6_86 : Cond.methodLink RX6 86 yX6_hasRight ∈ wsG := kG 690 (by decide +kernel) (by decide +kernel)
theorem ki_X6_hasRight : Cond.instanceMethod yX6_hasRight ∈ wsG := kG 692 (by decide +kernel) (by decide +kernel)
theorem kc_X6_hasRight : Cond.code yX6_hasRight cX6_hasRight 3 (some .boolean) ∈ wsG := kG 693 (by decide +kernel) (by decide +kernel)
theorem km_X6_46 : Cond.methodLink RX6 46 yX6_layRow ∈ wsG := kG 694 (by decide +kernel) (by decide +kernel)
theorem ki_X6_layRow : Cond.instanceMethod yX6_layRow ∈ wsG := kG 696 (by decide +kernel) (by decide +kernel)
theorem kc_X6_layRow : Cond.code yX6_layRow cX6_layRow 4 none ∈ wsG := kG 697 (by decide +kernel) (by decide +kernel)
theorem km_X6_93 : Cond.methodLink RX6 93 yX6_opensDispute ∈ wsG := kG 698 (by decide +kernel) (by decide +kernel)
theorem ki_X6_opensDispute : Cond.instanceMethod yX6_opensDispute ∈ wsG := kG 700 (by decide +kernel) (by decide +kernel)
theorem kc_X6_opensDispute : Cond.code yX6_opensDispute cX6_opensDispute 5 none ∈ wsG := kG 701 (by decide +kernel) (by decide +kernel)
theorem km_L_38 : Cond.methodLink RL 38 yX6_turn ∈ wsG := kG 702 (by decide +kernel) (by decide +kernel)
theorem ki_X6_turn : Cond.instanceMethod yX6_turn ∈ wsG := kG 703 (by decide +kernel) (by decide +kernel)
theorem ke_X6_turn : Cond.selects RX6 yX6_turn yX6_turn ∈ wsG := kG 704 (by decide +kernel) (by decide +kernel)
theorem kc_X6_turn : Cond.code yX6_turn cX6_turn 3 (some .int) ∈ wsG := kG 705 (by decide +kernel) (by decide +kernel)
theorem km_X6_96 : Cond.methodLink RX6 96 yX6_placeOf ∈ wsG := kG 706 (by decide +kernel) (by decide +kernel)
theorem ki_X6_placeOf : Cond.instanceMethod yX6_placeOf ∈ wsG := kG 708 (by decide +kernel) (by decide +kernel)
theorem kc_X6_placeOf : Cond.code yX6_placeOf cX6_placeOf 3 (some .int) ∈ wsG := kG 709 (by decide +kernel) (by decide +kernel)
theorem km_X6_36 : Cond.methodLink RX6 36 yX6_ofRow ∈ wsG := kG 710 (by decide +kernel) (by decide +kernel)
theorem ki_X6_ofRow : Cond.instanceMethod yX6_ofRow ∈ wsG := kG 712 (by decide +kernel) (by decide +kernel)
theorem kc_X6_ofRow : Cond.code yX6_ofRow cX6_ofRow 3 (some .int) ∈ wsG := kG 713 (by decide +kernel) (by decide +kernel)
theorem km_L_42 : Cond.methodLink RL 42 yX6_stack ∈ wsG := kG 714 (by decide +kernel) (by decide +kernel)
theorem ki_X6_stack : Cond.instanceMethod yX6_stack ∈ wsG := kG 715 (by decide +kernel) (by decide +kernel)
theorem ke_X6_stack : Cond.selects RX6 yX6_stack yX6_stack ∈ wsG := kG 716 (by decide +kernel) (by decide +kernel)
theorem kc_X6_stack : Cond.code yX6_stack cX6_stack 3 (some .int) ∈ wsG := kG 717 (by decide +kernel) (by decide +kernel)
theorem km_X6_99 : Cond.methodLink RX6 99 yX6_rowsOf ∈ wsG := kG 718 (by decide +kernel) (by decide +kernel)
theorem ki_X6_rowsOf : Cond.instanceMethod yX6_rowsOf ∈ wsG := kG 720 (by decide +kernel) (by decide +kernel)
theorem kc_X6_rowsOf : Cond.code yX6_rowsOf cX6_rowsOf 5 (some .int) ∈ wsG := kG 721 (by decide +kernel) (by decide +kernel)
theorem km_L_46 : Cond.methodLink RL 46 yX6_pass ∈ wsG := kG 722 (by decide +kernel) (by decide +kernel)
theorem ki_X6_pass : Cond.instanceMethod yX6_pass ∈ wsG := kG 723 (by decide +kernel) (by decide +kernel)
theorem ke_X6_pass : Cond.selects RX6 yX6_pass yX6_pass ∈ wsG := kG 724 (by decide +kernel) (by decide +kernel)
theorem kc_X6_pass : Cond.code yX6_pass cX6_pass 2 (some .int) ∈ wsG := kG 725 (by decide +kernel) (by decide +kernel)
theorem km_X6_103 : Cond.methodLink RX6 103 yX6_passes ∈ wsG := kG 726 (by decide +kernel) (by decide +kernel)
theorem ki_X6_passes : Cond.instanceMethod yX6_passes ∈ wsG := kG 728 (by decide +kernel) (by decide +kernel)
theorem kc_X6_passes : Cond.code yX6_passes cX6_passes 3 (some .int) ∈ wsG := kG 729 (by decide +kernel) (by decide +kernel)
theorem km_X6_64 : Cond.methodLink RX6 64 yX6_weathers ∈ wsG := kG 730 (by decide +kernel) (by decide +kernel)
theorem ki_X6_weathers : Cond.instanceMethod yX6_weathers ∈ wsG := kG 732 (by decide +kernel) (by decide +kernel)
theorem kc_X6_weathers : Cond.code yX6_weathers cX6_weathers 4 none ∈ wsG := kG 733 (by decide +kernel) (by decide +kernel)
theorem km_X6_43 : Cond.methodLink RX6 43 yX6_drier ∈ wsG := kG 734 (by decide +kernel) (by decide +kernel)
theorem ks_X6_drier : Cond.static yX6_drier ∈ wsG := kG 735 (by decide +kernel) (by decide +kernel)
theorem kc_X6_drier : Cond.code yX6_drier cX6_drier 2 (some .int) ∈ wsG := kG 736 (by decide +kernel) (by decide +kernel)
theorem km_X6_67 : Cond.methodLink RX6 67 yX6_serves ∈ wsG := kG 737 (by decide +kernel) (by decide +kernel)
theorem ki_X6_serves : Cond.instanceMethod yX6_serves ∈ wsG := kG 739 (by decide +kernel) (by decide +kernel)
theorem kc_X6_serves : Cond.code yX6_serves cX6_serves 5 (some .int) ∈ wsG := kG 740 (by decide +kernel) (by decide +kernel)
theorem km_X6_50 : Cond.methodLink RX6 50 yX6_nextFor ∈ wsG := kG 741 (by decide +kernel) (by decide +kernel)
theorem ki_X6_nextFor : Cond.instanceMethod yX6_nextFor ∈ wsG := kG 743 (by decide +kernel) (by decide +kernel)
theorem kc_X6_nextFor : Cond.code yX6_nextFor cX6_nextFor 5 (some .int) ∈ wsG := kG 744 (by decide +kernel) (by decide +kernel)
theorem km_X6_54 : Cond.methodLink RX6 54 yX6_brings ∈ wsG := kG 745 (by decide +kernel) (by decide +kernel)
theorem ki_X6_brings : Cond.instanceMethod yX6_brings ∈ wsG := kG 747 (by decide +kernel) (by decide +kernel)
theorem kc_X6_brings : Cond.code yX6_brings cX6_brings 3 (some .int) ∈ wsG := kG 748 (by decide +kernel) (by decide +kernel)
theorem km_X6_60 : Cond.methodLink RX6 60 yX6_leaves ∈ wsG := kG 749 (by decide +kernel) (by decide +kernel)
theorem ki_X6_leaves : Cond.instanceMethod yX6_leaves ∈ wsG := kG 751 (by decide +kernel) (by decide +kernel)
theorem kc_X6_leaves : Cond.code yX6_leaves cX6_leaves 3 none ∈ wsG := kG 752 (by decide +kernel) (by decide +kernel)
theorem km_L_51 : Cond.methodLink RL 51 yX6_passAll ∈ wsG := kG 753 (by decide +kernel) (by decide +kernel)
theorem ki_X6_passAll : Cond.instanceMethod yX6_passAll ∈ wsG := kG 754 (by decide +kernel) (by decide +kernel)
theorem ke_X6_passAll : Cond.selects RX6 yX6_passAll yX6_passAll ∈ wsG := kG 755 (by decide +kernel) (by decide +kernel)
theorem kc_X6_passAll : Cond.code yX6_passAll cX6_passAll 5 (some .int) ∈ wsG := kG 756 (by decide +kernel) (by decide +kernel)
theorem km_X6_106 : Cond.methodLink RX6 106 yX6_reads ∈ wsG := kG 757 (by decide +kernel) (by decide +kernel)
theorem ki_X6_reads : Cond.instanceMethod yX6_reads ∈ wsG := kG 759 (by decide +kernel) (by decide +kernel)
theorem kc_X6_reads : Cond.code yX6_reads cX6_reads 1 (some .int) ∈ wsG := kG 760 (by decide +kernel) (by decide +kernel)
theorem km_X6_135 : Cond.methodLink RX6 135 yX6_readsGroup ∈ wsG := kG 761 (by decide +kernel) (by decide +kernel)
theorem ki_X6_readsGroup : Cond.instanceMethod yX6_readsGroup ∈ wsG := kG 763 (by decide +kernel) (by decide +kernel)
theorem kc_X6_readsGroup : Cond.code yX6_readsGroup cX6_readsGroup 2 none ∈ wsG := kG 764 (by decide +kernel) (by decide +kernel)
theorem km_X6_125 : Cond.methodLink RX6 125 yX6_sign ∈ wsG := kG 765 (by decide +kernel) (by decide +kernel)
theorem ki_X6_sign : Cond.instanceMethod yX6_sign ∈ wsG := kG 767 (by decide +kernel) (by decide +kernel)
theorem kc_X6_sign : Cond.code yX6_sign cX6_sign 1 (some .int) ∈ wsG := kG 768 (by decide +kernel) (by decide +kernel)
theorem km_X6_132 : Cond.methodLink RX6 132 yX6_number ∈ wsG := kG 769 (by decide +kernel) (by decide +kernel)
theorem ki_X6_number : Cond.instanceMethod yX6_number ∈ wsG := kG 771 (by decide +kernel) (by decide +kernel)
theorem kc_X6_number : Cond.code yX6_number cX6_number 2 (some .int) ∈ wsG := kG 772 (by decide +kernel) (by decide +kernel)
theorem km_L_55 : Cond.methodLink RL 55 yX6_settle ∈ wsG := kG 773 (by decide +kernel) (by decide +kernel)
theorem ki_X6_settle : Cond.instanceMethod yX6_settle ∈ wsG := kG 774 (by decide +kernel) (by decide +kernel)
theorem ke_X6_settle : Cond.selects RX6 yX6_settle yX6_settle ∈ wsG := kG 775 (by decide +kernel) (by decide +kernel)
theorem kc_X6_settle : Cond.code yX6_settle cX6_settle 5 (some .int) ∈ wsG := kG 776 (by decide +kernel) (by decide +kernel)
theorem km_X6_113 : Cond.methodLink RX6 113 yX6_ofDispute ∈ wsG := kG 777 (by decide +kernel) (by decide +kernel)
theorem ki_X6_ofDispute : Cond.instanceMethod yX6_ofDispute ∈ wsG := kG 779 (by decide +kernel) (by decide +kernel)
theorem kc_X6_ofDispute : Cond.code yX6_ofDispute cX6_ofDispute 3 (some .int) ∈ wsG := kG 780 (by decide +kernel) (by decide +kernel)
theorem km_X6_116 : Cond.methodLink RX6 116 yX6_dropsOldest ∈ wsG := kG 781 (by decide +kernel) (by decide +kernel)
theorem ki_X6_dropsOldest : Cond.instanceMethod yX6_dropsOldest ∈ wsG := kG 783 (by decide +kernel) (by decide +kernel)
theorem kc_X6_dropsOldest : Cond.code yX6_dropsOldest cX6_dropsOldest 2 none ∈ wsG := kG 784 (by decide +kernel) (by decide +kernel)
theorem km_L_59 : Cond.methodLink RL 59 yX6_endYear ∈ wsG := kG 785 (by decide +kernel) (by decide +kernel)
theorem ki_X6_endYear : Cond.instanceMethod yX6_endYear ∈ wsG := kG 786 (by decide +kernel) (by decide +kernel)
theorem ke_X6_endYear : Cond.selects RX6 yX6_endYear yX6_endYear ∈ wsG := kG 787 (by decide +kernel) (by decide +kernel)
theorem kc_X6_endYear : Cond.code yX6_endYear cX6_endYear 3 (some .int) ∈ wsG := kG 788 (by decide +kernel) (by decide +kernel)
theorem km_L_64 : Cond.methodLink RL 64 yX6_type ∈ wsG := kG 789 (by decide +kernel) (by decide +kernel)
theorem ki_X6_type : Cond.instanceMethod yX6_type ∈ wsG := kG 790 (by decide +kernel) (by decide +kernel)
theorem ke_X6_type : Cond.selects RX6 yX6_type yX6_type ∈ wsG := kG 791 (by decide +kernel) (by decide +kernel)
theorem kc_X6_type : Cond.code yX6_type cX6_type 2 (some .int) ∈ wsG := kG 792 (by decide +kernel) (by decide +kernel)
theorem km_L_68 : Cond.methodLink RL 68 yX6_clearText ∈ wsG := kG 793 (by decide +kernel) (by decide +kernel)
theorem ki_X6_clearText : Cond.instanceMethod yX6_clearText ∈ wsG := kG 794 (by decide +kernel) (by decide +kernel)
theorem ke_X6_clearText : Cond.selects RX6 yX6_clearText yX6_clearText ∈ wsG := kG 795 (by decide +kernel) (by decide +kernel)
theorem kc_X6_clearText : Cond.code yX6_clearText cX6_clearText 2 (some .int) ∈ wsG := kG 796 (by decide +kernel) (by decide +kernel)
theorem km_L_72 : Cond.methodLink RL 72 yX6_undo ∈ wsG := kG 797 (by decide +kernel) (by decide +kernel)
theorem ki_X6_undo : Cond.instanceMethod yX6_undo ∈ wsG := kG 798 (by decide +kernel) (by decide +kernel)
theorem ke_X6_undo : Cond.selects RX6 yX6_undo yX6_undo ∈ wsG := kG 799 (by decide +kernel) (by decide +kernel)
theorem kc_X6_undo : Cond.code yX6_undo cX6_undo 2 (some .int) ∈ wsG := kG 800 (by decide +kernel) (by decide +kernel)
theorem km_L_76 : Cond.methodLink RL 76 yX6_keep ∈ wsG := kG 801 (by decide +kernel) (by decide +kernel)
theorem ki_X6_keep : Cond.instanceMethod yX6_keep ∈ wsG := kG 802 (by decide +kernel) (by decide +kernel)
theorem ke_X6_keep : Cond.selects RX6 yX6_keep yX6_keep ∈ wsG := kG 803 (by decide +kernel) (by decide +kernel)
theorem kc_X6_keep : Cond.code yX6_keep cX6_keep 2 (some .int) ∈ wsG := kG 804 (by decide +kernel) (by decide +kernel)
theorem km_L_80 : Cond.methodLink RL 80 yX6_restore ∈ wsG := kG 805 (by decide +kernel) (by decide +kernel)
theorem ki_X6_restore : Cond.instanceMethod yX6_restore ∈ wsG := kG 806 (by decide +kernel) (by decide +kernel)
theorem ke_X6_restore : Cond.selects RX6 yX6_restore yX6_restore ∈ wsG := kG 807 (by decide +kernel) (by decide +kernel)
theorem kc_X6_restore : Cond.code yX6_restore cX6_restore 2 (some .int) ∈ wsG := kG 808 (by decide +kernel) (by decide +kernel)
theorem km_L_84 : Cond.methodLink RL 84 yX6_commoner ∈ wsG := kG 809 (by decide +kernel) (by decide +kernel)
theorem ki_X6_commoner : Cond.instanceMethod yX6_commoner ∈ wsG := kG 810 (by decide +kernel) (by decide +kernel)
theorem ke_X6_commoner : Cond.selects RX6 yX6_commoner yX6_commoner ∈ wsG := kG 811 (by decide +kernel) (by decide +kernel)
theorem kc_X6_commoner : Cond.code yX6_commoner cX6_commoner 3 (some .int) ∈ wsG := kG 812 (by decide +kernel) (by decide +kernel)
theorem km_X6_141 : Cond.methodLink RX6 141 yX6_plotsOf ∈ wsG := kG 813 (by decide +kernel) (by decide +kernel)
theorem ki_X6_plotsOf : Cond.instanceMethod yX6_plotsOf ∈ wsG := kG 815 (by decide +kernel) (by decide +kernel)
theorem kc_X6_plotsOf : Cond.code yX6_plotsOf cX6_plotsOf 5 (some .int) ∈ wsG := kG 816 (by decide +kernel) (by decide +kernel)
theorem km_X6_144 : Cond.methodLink RX6 144 yX6_disputesOf ∈ wsG := kG 817 (by decide +kernel) (by decide +kernel)
theorem ki_X6_disputesOf : Cond.instanceMethod yX6_disputesOf ∈ wsG := kG 819 (by decide +kernel) (by decide +kernel)
theorem kc_X6_disputesOf : Cond.code yX6_disputesOf cX6_disputesOf 4 (some .int) ∈ wsG := kG 820 (by decide +kernel) (by decide +kernel)
theorem km_L_88 : Cond.methodLink RL 88 yX6_plot ∈ wsG := kG 821 (by decide +kernel) (by decide +kernel)
theorem ki_X6_plot : Cond.instanceMethod yX6_plot ∈ wsG := kG 822 (by decide +kernel) (by decide +kernel)
theorem ke_X6_plot : Cond.selects RX6 yX6_plot yX6_plot ∈ wsG := kG 823 (by decide +kernel) (by decide +kernel)
theorem kc_X6_plot : Cond.code yX6_plot cX6_plot 3 (some .int) ∈ wsG := kG 824 (by decide +kernel) (by decide +kernel)
theorem km_L_92 : Cond.methodLink RL 92 yX6_row ∈ wsG := kG 825 (by decide +kernel) (by decide +kernel)
theorem ki_X6_row : Cond.instanceMethod yX6_row ∈ wsG := kG 826 (by decide +kernel) (by decide +kernel)
theorem ke_X6_row : Cond.selects RX6 yX6_row yX6_row ∈ wsG := kG 827 (by decide +kernel) (by decide +kernel)
theorem kc_X6_row : Cond.code yX6_row cX6_row 4 (some .int) ∈ wsG := kG 828 (by decide +kernel) (by decide +kernel)
theorem km_L_96 : Cond.methodLink RL 96 yX6_driest ∈ wsG := kG 829 (by decide +kernel) (by decide +kernel)
theorem ki_X6_driest : Cond.instanceMethod yX6_driest ∈ wsG := kG 830 (by decide +kernel) (by decide +kernel)
theorem ke_X6_driest : Cond.selects RX6 yX6_driest yX6_driest ∈ wsG := kG 831 (by decide +kernel) (by decide +kernel)
theorem kc_X6_driest : Cond.code yX6_driest cX6_driest 4 (some .int) ∈ wsG := kG 832 (by decide +kernel) (by decide +kernel)
theorem km_X6_147 : Cond.methodLink RX6 147 yX6_ahead ∈ wsG := kG 833 (by decide +kernel) (by decide +kernel)
theorem ki_X6_ahead : Cond.instanceMethod yX6_ahead ∈ wsG := kG 835 (by decide +kernel) (by decide +kernel)
theorem kc_X6_ahead : Cond.code yX6_ahead cX6_ahead 5 (some .int) ∈ wsG := kG 836 (by decide +kernel) (by decide +kernel)
theorem km_L_100 : Cond.methodLink RL 100 yX6_why ∈ wsG := kG 837 (by decide +kernel) (by decide +kernel)
theorem ki_X6_why : Cond.instanceMethod yX6_why ∈ wsG := kG 838 (by decide +kernel) (by decide +kernel)
theorem ke_X6_why : Cond.selects RX6 yX6_why yX6_why ∈ wsG := kG 839 (by decide +kernel) (by decide +kernel)
theorem kc_X6_why : Cond.code yX6_why cX6_why 3 (some .int) ∈ wsG := kG 840 (by decide +kernel) (by decide +kernel)
theorem km_L_104 : Cond.methodLink RL 104 yX6_dispute ∈ wsG := kG 841 (by decide +kernel) (by decide +kernel)
theorem ki_X6_dispute : Cond.instanceMethod yX6_dispute ∈ wsG := kG 842 (by decide +kernel) (by decide +kernel)
theorem ke_X6_dispute : Cond.selects RX6 yX6_dispute yX6_dispute ∈ wsG := kG 843 (by decide +kernel) (by decide +kernel)
theorem kc_X6_dispute : Cond.code yX6_dispute cX6_dispute 3 (some .int) ∈ wsG := kG 844 (by decide +kernel) (by decide +kernel)
theorem km_L_108 : Cond.methodLink RL 108 yX6_cart ∈ wsG := kG 845 (by decide +kernel) (by decide +kernel)
theorem ki_X6_cart : Cond.instanceMethod yX6_cart ∈ wsG := kG 846 (by decide +kernel) (by decide +kernel)
theorem ke_X6_cart : Cond.selects RX6 yX6_cart yX6_cart ∈ wsG := kG 847 (by decide +kernel) (by decide +kernel)
theorem kc_X6_cart : Cond.code yX6_cart cX6_cart 2 (some .int) ∈ wsG := kG 848 (by decide +kernel) (by decide +kernel)
theorem km_L_112 : Cond.methodLink RL 112 yX6_would ∈ wsG := kG 849 (by decide +kernel) (by decide +kernel)
theorem ki_X6_would : Cond.instanceMethod yX6_would ∈ wsG := kG 850 (by decide +kernel) (by decide +kernel)
theorem ke_X6_would : Cond.selects RX6 yX6_would yX6_would ∈ wsG := kG 851 (by decide +kernel) (by decide +kernel)
theorem kc_X6_would : Cond.code yX6_would cX6_would 5 (some .int) ∈ wsG := kG 852 (by decide +kernel) (by decide +kernel)
theorem km_L_116 : Cond.methodLink RL 116 yX6_count ∈ wsG := kG 853 (by decide +kernel) (by decide +kernel)
theorem ki_X6_count : Cond.instanceMethod yX6_count ∈ wsG := kG 854 (by decide +kernel) (by decide +kernel)
theorem ke_X6_count : Cond.selects RX6 yX6_count yX6_count ∈ wsG := kG 855 (by decide +kernel) (by decide +kernel)
theorem kc_X6_count : Cond.code yX6_count cX6_count 2 (some .int) ∈ wsG := kG 856 (by decide +kernel) (by decide +kernel)
theorem km_X6_150 : Cond.methodLink RX6 150 yX6_rowsThat ∈ wsG := kG 857 (by decide +kernel) (by decide +kernel)
theorem ki_X6_rowsThat : Cond.instanceMethod yX6_rowsThat ∈ wsG := kG 859 (by decide +kernel) (by decide +kernel)
theorem kc_X6_rowsThat : Cond.code yX6_rowsThat cX6_rowsThat 4 (some .int) ∈ wsG := kG 860 (by decide +kernel) (by decide +kernel)
theorem km_X6_153 : Cond.methodLink RX6 153 yX6_allPeats ∈ wsG := kG 861 (by decide +kernel) (by decide +kernel)
theorem ki_X6_allPeats : Cond.instanceMethod yX6_allPeats ∈ wsG := kG 863 (by decide +kernel) (by decide +kernel)
theorem kc_X6_allPeats : Cond.code yX6_allPeats cX6_allPeats 3 (some .int) ∈ wsG := kG 864 (by decide +kernel) (by decide +kernel)
theorem km_X6_156 : Cond.methodLink RX6 156 yX6_allLayers ∈ wsG := kG 865 (by decide +kernel) (by decide +kernel)
theorem ki_X6_allLayers : Cond.instanceMethod yX6_allLayers ∈ wsG := kG 867 (by decide +kernel) (by decide +kernel)
theorem kc_X6_allLayers : Cond.code yX6_allLayers cX6_allLayers 3 (some .int) ∈ wsG := kG 868 (by decide +kernel) (by decide +kernel)
theorem ke_X3_hasDayLeft : Cond.selects RX3 yX3_hasDayLeft yX3_hasDayLeft ∈ wsG := kG 0 (by decide +kernel) (by decide +kernel)
theorem ke_X3_hasRight : Cond.selects RX3 yX3_hasRight yX3_hasRight ∈ wsG := kG 1 (by decide +kernel) (by decide +kernel)
theorem ke_X4_isStacked : Cond.selects RX4 yX4_isStacked yX4_isStacked ∈ wsG := kG 2 (by decide +kernel) (by decide +kernel)
theorem ke_X3_serve : Cond.selects RX3 yX3_serve yX3_serve ∈ wsG := kG 3 (by decide +kernel) (by decide +kernel)
theorem ke_X0_openGroup : Cond.selects RX0 yX0_openGroup yX0_openGroup ∈ wsG := kG 4 (by decide +kernel) (by decide +kernel)
theorem ke_X3_useDayIfLeft : Cond.selects RX3 yX3_useDayIfLeft yX3_useDayIfLeft ∈ wsG := kG 5 (by decide +kernel) (by decide +kernel)
theorem ke_X3_givePeats : Cond.selects RX3 yX3_givePeats yX3_givePeats ∈ wsG := kG 6 (by decide +kernel) (by decide +kernel)
theorem ke_X4_isLyingOf : Cond.selects RX4 yX4_isLyingOf yX4_isLyingOf ∈ wsG := kG 7 (by decide +kernel) (by decide +kernel)
theorem ke_X4_countDrierThan : Cond.selects RX4 yX4_countDrierThan yX4_countDrierThan ∈ wsG := kG 8 (by decide +kernel) (by decide +kernel)
theorem ke_X4_comesBefore : Cond.selects RX4 yX4_comesBefore yX4_comesBefore ∈ wsG := kG 9 (by decide +kernel) (by decide +kernel)
theorem ke_X6_ofPlot : Cond.selects RX6 yX6_ofPlot yX6_ofPlot ∈ wsG := kG 10 (by decide +kernel) (by decide +kernel)
theorem ke_X6_records : Cond.selects RX6 yX6_records yX6_records ∈ wsG := kG 11 (by decide +kernel) (by decide +kernel)
theorem ke_X6_ofCommoner : Cond.selects RX6 yX6_ofCommoner yX6_ofCommoner ∈ wsG := kG 12 (by decide +kernel) (by decide +kernel)
theorem ke_X6_addCommoner : Cond.selects RX6 yX6_addCommoner yX6_addCommoner ∈ wsG := kG 13 (by decide +kernel) (by decide +kernel)
theorem ke_X6_reason : Cond.selects RX6 yX6_reason yX6_reason ∈ wsG := kG 14 (by decide +kernel) (by decide +kernel)
theorem ke_X6_hasRight : Cond.selects RX6 yX6_hasRight yX6_hasRight ∈ wsG := kG 15 (by decide +kernel) (by decide +kernel)
theorem ke_X6_layRow : Cond.selects RX6 yX6_layRow yX6_layRow ∈ wsG := kG 16 (by decide +kernel) (by decide +kernel)
theorem ke_X6_opensDispute : Cond.selects RX6 yX6_opensDispute yX6_opensDispute ∈ wsG := kG 17 (by decide +kernel) (by decide +kernel)
theorem ke_X6_placeOf : Cond.selects RX6 yX6_placeOf yX6_placeOf ∈ wsG := kG 18 (by decide +kernel) (by decide +kernel)
theorem ke_X6_ofRow : Cond.selects RX6 yX6_ofRow yX6_ofRow ∈ wsG := kG 19 (by decide +kernel) (by decide +kernel)
theorem ke_X6_rowsOf : Cond.selects RX6 yX6_rowsOf yX6_rowsOf ∈ wsG := kG 20 (by decide +kernel) (by decide +kernel)
theorem ke_X6_passes : Cond.selects RX6 yX6_passes yX6_passes ∈ wsG := kG 21 (by decide +kernel) (by decide +kernel)
theorem ke_X6_weathers : Cond.selects RX6 yX6_weathers yX6_weathers ∈ wsG := kG 22 (by decide +kernel) (by decide +kernel)
theorem ke_X6_serves : Cond.selects RX6 yX6_serves yX6_serves ∈ wsG := kG 23 (by decide +kernel) (by decide +kernel)
theorem ke_X6_nextFor : Cond.selects RX6 yX6_nextFor yX6_nextFor ∈ wsG := kG 24 (by decide +kernel) (by decide +kernel)
theorem ke_X6_brings : Cond.selects RX6 yX6_brings yX6_brings ∈ wsG := kG 25 (by decide +kernel) (by decide +kernel)
theorem ke_X6_leaves : Cond.selects RX6 yX6_leaves yX6_leaves ∈ wsG := kG 26 (by decide +kernel) (by decide +kernel)
theorem ke_X6_reads : Cond.selects RX6 yX6_reads yX6_reads ∈ wsG := kG 27 (by decide +kernel) (by decide +kernel)
theorem ke_X6_readsGroup : Cond.selects RX6 yX6_readsGroup yX6_readsGroup ∈ wsG := kG 28 (by decide +kernel) (by decide +kernel)
theorem ke_X6_sign : Cond.selects RX6 yX6_sign yX6_sign ∈ wsG := kG 29 (by decide +kernel) (by decide +kernel)
theorem ke_X6_number : Cond.selects RX6 yX6_number yX6_number ∈ wsG := kG 30 (by decide +kernel) (by decide +kernel)
theorem ke_X6_ofDispute : Cond.selects RX6 yX6_ofDispute yX6_ofDispute ∈ wsG := kG 31 (by decide +kernel) (by decide +kernel)
theorem ke_X6_dropsOldest : Cond.selects RX6 yX6_dropsOldest yX6_dropsOldest ∈ wsG := kG 32 (by decide +kernel) (by decide +kernel)
theorem ke_X6_plotsOf : Cond.selects RX6 yX6_plotsOf yX6_plotsOf ∈ wsG := kG 33 (by decide +kernel) (by decide +kernel)
theorem ke_X6_disputesOf : Cond.selects RX6 yX6_disputesOf yX6_disputesOf ∈ wsG := kG 34 (by decide +kernel) (by decide +kernel)
theorem ke_X6_ahead : Cond.selects RX6 yX6_ahead yX6_ahead ∈ wsG := kG 35 (by decide +kernel) (by decide +kernel)
theorem ke_X6_rowsThat : Cond.selects RX6 yX6_rowsThat yX6_rowsThat ∈ wsG := kG 36 (by decide +kernel) (by decide +kernel)
theorem ke_X6_allPeats : Cond.selects RX6 yX6_allPeats yX6_allPeats ∈ wsG := kG 37 (by decide +kernel) (by decide +kernel)
theorem ke_X6_allLayers : Cond.selects RX6 yX6_allLayers yX6_allLayers ∈ wsG := kG 38 (by decide +kernel) (by decide +kernel)
end
