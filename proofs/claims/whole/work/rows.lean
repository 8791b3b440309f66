section
/-! ints as whole numbers: iI z is the Int32 of z; inR z: z is its own number -/
def iI (z : Int) : Int32 := Int32.ofInt z
def inR (z : Int) : Prop := -2147483648 ≤ z ∧ z < 2147483648
theorem iI_t {z : Int} (h : inR z) : (iI z).toInt = z := Int32.toInt_ofInt_of_le (by have := h.1; omega) (by have := h.2; omega)
theorem iI_o (x : Int32) : iI x.toInt = x := Int32.ofInt_toInt x
theorem inR_o (x : Int32) : inR x.toInt := ⟨by have := Int32.le_toInt x; omega, by have := Int32.toInt_lt x; omega⟩
theorem iI_add (x y : Int) : iI x + iI y = iI (x + y) := (Int32.ofInt_add x y).symm
theorem iI_sub (x y : Int) : iI x - iI y = iI (x - y) := (Int32.ofInt_sub x y).symm
theorem iI_mul (x y : Int) : iI x * iI y = iI (x * y) := (Int32.ofInt_mul x y).symm
theorem iI_neg (x : Int) : - iI x = iI (- x) := (Int32.ofInt_neg x).symm
theorem iI_eq {x y : Int} (hx : inR x) (hy : inR y) : iI x = iI y ↔ x = y := by rw [← Int32.toInt_inj, iI_t hx, iI_t hy]
theorem iI_lt {x y : Int} (hx : inR x) (hy : inR y) : iI x < iI y ↔ x < y := by rw [Int32.lt_iff_toInt_lt, iI_t hx, iI_t hy]
theorem iI_le {x y : Int} (hx : inR x) (hy : inR y) : iI x ≤ iI y ↔ x ≤ y := by rw [Int32.le_iff_toInt_le, iI_t hx, iI_t hy]
theorem iI_zero : (0 : Int32) = iI 0 := rfl
theorem inR_0 : inR 0 := ⟨by omega, by omega⟩
theorem iI_clamp {x : Int} (hx : inR x) : (iI x).toNatClampNeg = x.toNat := by
  show (iI x).toInt.toNat = x.toNat
  rw [iI_t hx]
theorem iI_in {x : Int} {n : Nat} (h0 : 0 ≤ x) (h1 : x < n) (hn : n < 2147483648) : vp_in (iI x) n := by
  have hx : inR x := ⟨by omega, by omega⟩
  intro q
  rcases q with q | q
  · rw [iI_zero, iI_lt hx inR_0] at q; omega
  · rw [iI_clamp hx] at q; omega
theorem iI_nI (n : Nat) : Int32.ofNat n = iI (n : Int) := by
  first | rfl | exact (Int32.ofInt_eq_ofNat).symm | simp [iI]
theorem iI_div {x y : Int} (hx : inR x) (hy : inR y) (h0 : 0 ≤ x) (h1 : 0 < y) : iI x / iI y = iI (x / y) := by
  apply Int32.toInt_inj.mp
  have hb : inR (x / y) := ⟨by have := Int.ediv_nonneg h0 (Int.le_of_lt h1); omega, by have := Int.ediv_le_self y h0; have := hx.2; omega⟩
  rw [iI_t hb, Int32.toInt_div, iI_t hx, iI_t hy, Int.tdiv_eq_ediv_of_nonneg h0]
  exact Int.bmod_eq_of_le (by have := hb.1; omega) (by have := hb.2; omega)
theorem iI_mod {x y : Int} (hx : inR x) (hy : inR y) (h0 : 0 ≤ x) (h1 : 0 < y) : iI x % iI y = iI (x % y) := by
  apply Int32.toInt_inj.mp
  have hb : inR (x % y) := ⟨by have := Int.emod_nonneg x (Int.ne_of_gt h1); omega, by have := Int.emod_lt_of_pos x h1; have := hy.2; omega⟩
  rw [iI_t hb, Int32.toInt_mod, iI_t hx, iI_t hy, Int.tmod_eq_emod_of_nonneg h0]
section RI
variable {p : Program} {l : Launch} {e : Env} {R : Room} {s : State} {m : MethodId} {args : Array Value} {below : List Frame} {meth : Method} {c : Code} {H : Heap} {locs : List Loc} {cells slots : Nat} {Q : State → Prop}
variable {cc : ByteArray} {pc : Nat} {ls : Array Slot} {rest : List Value}
theorem r_iconst (hx : p.tables.exec = Jvm.exec) (hb : c.code = cc) {n : Int} (hdg : decode cc pc = .ok (.iconst n, 1)) (k : W p l e R s m args below meth c H locs cells slots Q (F0 m (pc + 1) ls (.int (iI n) :: rest))) : W p l e R s m args below meth c H locs cells slots Q (F0 m pc ls rest) := lv_iconst hx hb hdg rfl k
theorem r_bipush (hx : p.tables.exec = Jvm.exec) (hb : c.code = cc) {n : Int} (hdg : decode cc pc = .ok (.bipush n, 2)) (hv : (Int8.ofInt n).toInt32 = iI n) (k : W p l e R s m args below meth c H locs cells slots Q (F0 m (pc + 2) ls (.int (iI n) :: rest))) : W p l e R s m args below meth c H locs cells slots Q (F0 m pc ls rest) := lv_bipush hx hb hdg hv k
theorem r_sipush (hx : p.tables.exec = Jvm.exec) (hb : c.code = cc) {n : Int} (hdg : decode cc pc = .ok (.sipush n, 3)) (hv : (Int16.ofInt n).toInt32 = iI n) (k : W p l e R s m args below meth c H locs cells slots Q (F0 m (pc + 3) ls (.int (iI n) :: rest))) : W p l e R s m args below meth c H locs cells slots Q (F0 m pc ls rest) := lv_sipush hx hb hdg hv k
theorem r_iadd (hx : p.tables.exec = Jvm.exec) (hb : c.code = cc) {x y : Int} (hdg : decode cc pc = .ok (.iadd, 1)) (k : W p l e R s m args below meth c H locs cells slots Q (F0 m (pc + 1) ls (.int (iI (x + y)) :: rest))) : W p l e R s m args below meth c H locs cells slots Q (F0 m pc ls (.int (iI y) :: .int (iI x) :: rest)) := lv_iadd hx hb hdg (by rw [iI_add]; exact k)
theorem r_isub (hx : p.tables.exec = Jvm.exec) (hb : c.code = cc) {x y : Int} (hdg : decode cc pc = .ok (.isub, 1)) (k : W p l e R s m args below meth c H locs cells slots Q (F0 m (pc + 1) ls (.int (iI (x - y)) :: rest))) : W p l e R s m args below meth c H locs cells slots Q (F0 m pc ls (.int (iI y) :: .int (iI x) :: rest)) := lv_isub hx hb hdg (by rw [iI_sub]; exact k)
theorem r_imul (hx : p.tables.exec = Jvm.exec) (hb : c.code = cc) {x y : Int} (hdg : decode cc pc = .ok (.imul, 1)) (k : W p l e R s m args below meth c H locs cells slots Q (F0 m (pc + 1) ls (.int (iI (x * y)) :: rest))) : W p l e R s m args below meth c H locs cells slots Q (F0 m pc ls (.int (iI y) :: .int (iI x) :: rest)) := lv_imul hx hb hdg (by rw [iI_mul]; exact k)
theorem r_ineg (hx : p.tables.exec = Jvm.exec) (hb : c.code = cc) {x : Int} (hdg : decode cc pc = .ok (.ineg, 1)) (k : W p l e R s m args below meth c H locs cells slots Q (F0 m (pc + 1) ls (.int (iI (- x)) :: rest))) : W p l e R s m args below meth c H locs cells slots Q (F0 m pc ls (.int (iI x) :: rest)) := lv_ineg hx hb hdg (by rw [iI_neg]; exact k)
theorem r_idiv (hx : p.tables.exec = Jvm.exec) (hb : c.code = cc) {x y : Int} (h1 : inR x) (h2 : inR y) (h3 : 0 ≤ x) (h4 : 0 < y) (hdg : decode cc pc = .ok (.idiv, 1)) (k : W p l e R s m args below meth c H locs cells slots Q (F0 m (pc + 1) ls (.int (iI (x / y)) :: rest))) : W p l e R s m args below meth c H locs cells slots Q (F0 m pc ls (.int (iI y) :: .int (iI x) :: rest)) := lv_idiv hx hb hdg (by rw [iI_zero, iI_eq h2 inR_0]; omega) (by rw [iI_div h1 h2 h3 h4]; exact k)
theorem r_irem (hx : p.tables.exec = Jvm.exec) (hb : c.code = cc) {x y : Int} (h1 : inR x) (h2 : inR y) (h3 : 0 ≤ x) (h4 : 0 < y) (hdg : decode cc pc = .ok (.irem, 1)) (k : W p l e R s m args below meth c H locs cells slots Q (F0 m (pc + 1) ls (.int (iI (x % y)) :: rest))) : W p l e R s m args below meth c H locs cells slots Q (F0 m pc ls (.int (iI y) :: .int (iI x) :: rest)) := lv_irem hx hb hdg (by rw [iI_zero, iI_eq h2 inR_0]; omega) (by rw [iI_div h1 h2 h3 h4, iI_mul, iI_sub, show x - x / y * y = x % y by rw [Int.emod_def, Int.mul_comm]]; exact k)
theorem r_iinc (hx : p.tables.exec = Jvm.exec) (hb : c.code = cc) {i nL k : Nat} {n x : Int} {lv lv' : List (Nat × Value)} (hdg : decode cc pc = .ok (.iinc i n, 3)) (h : lv_has ls nL lv) (hk : lv[k]? = some (i, .int (iI x))) (hn : i < nL) (hl : (i, Value.int (iI (x + n))) :: lv.filter (fun q => !(q.1 == i) && !(q.1 + 1 == i && q.2.category == 2)) = lv')
    (kk : ∀ ls' : Array Slot, lv_has ls' nL lv' → W p l e R s m args below meth c H locs cells slots Q (F0 m (pc + 3) ls' rest)) : W p l e R s m args below meth c H locs cells slots Q (F0 m pc ls rest) := lv_iinc hx hb hdg h hk (iI_add x n) hn hl kk
theorem r_icmp_eq (hx : p.tables.exec = Jvm.exec) (hb : c.code = cc) {x y : Int} {off : Int} {tgt : Nat} (h1 : inR x) (h2 : inR y) (hdg : decode cc pc = .ok (.if_icmp .eq off, 3)) (ht : (pc : Int) + off = (tgt : Int)) (kt : x = y → W p l e R s m args below meth c H locs cells slots Q (F0 m tgt ls rest)) (kf : ¬ x = y → W p l e R s m args below meth c H locs cells slots Q (F0 m (pc + 3) ls rest)) : W p l e R s m args below meth c H locs cells slots Q (F0 m pc ls (.int (iI y) :: .int (iI x) :: rest)) :=
  lv_icmp_eq hx hb hdg ht (fun h => kt ((iI_eq h1 h2).mp h)) (fun h => kf (fun q => h ((iI_eq h1 h2).mpr q)))
theorem r_icmp_ne (hx : p.tables.exec = Jvm.exec) (hb : c.code = cc) {x y : Int} {off : Int} {tgt : Nat} (h1 : inR x) (h2 : inR y) (hdg : decode cc pc = .ok (.if_icmp .ne off, 3)) (ht : (pc : Int) + off = (tgt : Int)) (kt : ¬ x = y → W p l e R s m args below meth c H locs cells slots Q (F0 m tgt ls rest)) (kf : x = y → W p l e R s m args below meth c H locs cells slots Q (F0 m (pc + 3) ls rest)) : W p l e R s m args below meth c H locs cells slots Q (F0 m pc ls (.int (iI y) :: .int (iI x) :: rest)) :=
  lv_icmp_ne hx hb hdg ht (fun h => kt (fun q => h ((iI_eq h1 h2).mpr q))) (fun h => kf ((iI_eq h1 h2).mp h))
theorem r_icmp_lt (hx : p.tables.exec = Jvm.exec) (hb : c.code = cc) {x y : Int} {off : Int} {tgt : Nat} (h1 : inR x) (h2 : inR y) (hdg : decode cc pc = .ok (.if_icmp .lt off, 3)) (ht : (pc : Int) + off = (tgt : Int)) (kt : x < y → W p l e R s m args below meth c H locs cells slots Q (F0 m tgt ls rest)) (kf : y ≤ x → W p l e R s m args below meth c H locs cells slots Q (F0 m (pc + 3) ls rest)) : W p l e R s m args below meth c H locs cells slots Q (F0 m pc ls (.int (iI y) :: .int (iI x) :: rest)) :=
  lv_icmp_lt hx hb hdg ht (fun h => kt ((iI_lt h1 h2).mp h)) (fun h => kf (by rw [iI_lt h1 h2] at h; omega))
theorem r_icmp_ge (hx : p.tables.exec = Jvm.exec) (hb : c.code = cc) {x y : Int} {off : Int} {tgt : Nat} (h1 : inR x) (h2 : inR y) (hdg : decode cc pc = .ok (.if_icmp .ge off, 3)) (ht : (pc : Int) + off = (tgt : Int)) (kt : y ≤ x → W p l e R s m args below meth c H locs cells slots Q (F0 m tgt ls rest)) (kf : x < y → W p l e R s m args below meth c H locs cells slots Q (F0 m (pc + 3) ls rest)) : W p l e R s m args below meth c H locs cells slots Q (F0 m pc ls (.int (iI y) :: .int (iI x) :: rest)) :=
  lv_icmp_ge hx hb hdg ht (fun h => kt (by first | exact (iI_le h2 h1).mp h | (rw [ge_iff_le, iI_le h2 h1] at h; exact h))) (fun h => kf (by first | (rw [iI_le h2 h1] at h; omega) | (rw [ge_iff_le, iI_le h2 h1] at h; omega)))
theorem r_icmp_gt (hx : p.tables.exec = Jvm.exec) (hb : c.code = cc) {x y : Int} {off : Int} {tgt : Nat} (h1 : inR x) (h2 : inR y) (hdg : decode cc pc = .ok (.if_icmp .gt off, 3)) (ht : (pc : Int) + off = (tgt : Int)) (kt : y < x → W p l e R s m args below meth c H locs cells slots Q (F0 m tgt ls rest)) (kf : x ≤ y → W p l e R s m args below meth c H locs cells slots Q (F0 m (pc + 3) ls rest)) : W p l e R s m args below meth c H locs cells slots Q (F0 m pc ls (.int (iI y) :: .int (iI x) :: rest)) :=
  lv_icmp_gt hx hb hdg ht (fun h => kt (by first | exact (iI_lt h2 h1).mp h | (rw [gt_iff_lt, iI_lt h2 h1] at h; exact h))) (fun h => kf (by first | (rw [iI_lt h2 h1] at h; omega) | (rw [gt_iff_lt, iI_lt h2 h1] at h; omega)))
theorem r_icmp_le (hx : p.tables.exec = Jvm.exec) (hb : c.code = cc) {x y : Int} {off : Int} {tgt : Nat} (h1 : inR x) (h2 : inR y) (hdg : decode cc pc = .ok (.if_icmp .le off, 3)) (ht : (pc : Int) + off = (tgt : Int)) (kt : x ≤ y → W p l e R s m args below meth c H locs cells slots Q (F0 m tgt ls rest)) (kf : y < x → W p l e R s m args below meth c H locs cells slots Q (F0 m (pc + 3) ls rest)) : W p l e R s m args below meth c H locs cells slots Q (F0 m pc ls (.int (iI y) :: .int (iI x) :: rest)) :=
  lv_icmp_le hx hb hdg ht (fun h => kt ((iI_le h1 h2).mp h)) (fun h => kf (by rw [iI_le h1 h2] at h; omega))
theorem r_if_eq (hx : p.tables.exec = Jvm.exec) (hb : c.code = cc) {x : Int} {off : Int} {tgt : Nat} (h1 : inR x) (hdg : decode cc pc = .ok (.ifCond .eq off, 3)) (ht : (pc : Int) + off = (tgt : Int)) (kt : x = 0 → W p l e R s m args below meth c H locs cells slots Q (F0 m tgt ls rest)) (kf : ¬ x = 0 → W p l e R s m args below meth c H locs cells slots Q (F0 m (pc + 3) ls rest)) : W p l e R s m args below meth c H locs cells slots Q (F0 m pc ls (.int (iI x) :: rest)) :=
  lv_if_eq hx hb hdg ht (fun h => kt ((iI_eq h1 inR_0).mp h)) (fun h => kf (fun q => h ((iI_eq h1 inR_0).mpr q)))
theorem r_if_ne (hx : p.tables.exec = Jvm.exec) (hb : c.code = cc) {x : Int} {off : Int} {tgt : Nat} (h1 : inR x) (hdg : decode cc pc = .ok (.ifCond .ne off, 3)) (ht : (pc : Int) + off = (tgt : Int)) (kt : ¬ x = 0 → W p l e R s m args below meth c H locs cells slots Q (F0 m tgt ls rest)) (kf : x = 0 → W p l e R s m args below meth c H locs cells slots Q (F0 m (pc + 3) ls rest)) : W p l e R s m args below meth c H locs cells slots Q (F0 m pc ls (.int (iI x) :: rest)) :=
  lv_if_ne hx hb hdg ht (fun h => kt (fun q => h ((iI_eq h1 inR_0).mpr q))) (fun h => kf ((iI_eq h1 inR_0).mp h))
theorem r_if_lt (hx : p.tables.exec = Jvm.exec) (hb : c.code = cc) {x : Int} {off : Int} {tgt : Nat} (h1 : inR x) (hdg : decode cc pc = .ok (.ifCond .lt off, 3)) (ht : (pc : Int) + off = (tgt : Int)) (kt : x < 0 → W p l e R s m args below meth c H locs cells slots Q (F0 m tgt ls rest)) (kf : 0 ≤ x → W p l e R s m args below meth c H locs cells slots Q (F0 m (pc + 3) ls rest)) : W p l e R s m args below meth c H locs cells slots Q (F0 m pc ls (.int (iI x) :: rest)) :=
  lv_if_lt hx hb hdg ht (fun h => kt ((iI_lt h1 inR_0).mp h)) (fun h => kf (by rw [iI_zero, iI_lt h1 inR_0] at h; omega))
theorem r_if_ge (hx : p.tables.exec = Jvm.exec) (hb : c.code = cc) {x : Int} {off : Int} {tgt : Nat} (h1 : inR x) (hdg : decode cc pc = .ok (.ifCond .ge off, 3)) (ht : (pc : Int) + off = (tgt : Int)) (kt : 0 ≤ x → W p l e R s m args below meth c H locs cells slots Q (F0 m tgt ls rest)) (kf : x < 0 → W p l e R s m args below meth c H locs cells slots Q (F0 m (pc + 3) ls rest)) : W p l e R s m args below meth c H locs cells slots Q (F0 m pc ls (.int (iI x) :: rest)) :=
  lv_if_ge hx hb hdg ht (fun h => kt ((iI_le inR_0 h1).mp h)) (fun h => kf (by first | (rw [iI_zero, iI_le inR_0 h1] at h; omega) | (rw [ge_iff_le, iI_zero, iI_le inR_0 h1] at h; omega)))
theorem r_if_gt (hx : p.tables.exec = Jvm.exec) (hb : c.code = cc) {x : Int} {off : Int} {tgt : Nat} (h1 : inR x) (hdg : decode cc pc = .ok (.ifCond .gt off, 3)) (ht : (pc : Int) + off = (tgt : Int)) (kt : 0 < x → W p l e R s m args below meth c H locs cells slots Q (F0 m tgt ls rest)) (kf : x ≤ 0 → W p l e R s m args below meth c H locs cells slots Q (F0 m (pc + 3) ls rest)) : W p l e R s m args below meth c H locs cells slots Q (F0 m pc ls (.int (iI x) :: rest)) :=
  lv_if_gt hx hb hdg ht (fun h => kt ((iI_lt inR_0 h1).mp h)) (fun h => kf (by first | (rw [iI_zero, iI_lt inR_0 h1] at h; omega) | (rw [gt_iff_lt, iI_zero, iI_lt inR_0 h1] at h; omega)))
theorem r_if_le (hx : p.tables.exec = Jvm.exec) (hb : c.code = cc) {x : Int} {off : Int} {tgt : Nat} (h1 : inR x) (hdg : decode cc pc = .ok (.ifCond .le off, 3)) (ht : (pc : Int) + off = (tgt : Int)) (kt : x ≤ 0 → W p l e R s m args below meth c H locs cells slots Q (F0 m tgt ls rest)) (kf : 0 < x → W p l e R s m args below meth c H locs cells slots Q (F0 m (pc + 3) ls rest)) : W p l e R s m args below meth c H locs cells slots Q (F0 m pc ls (.int (iI x) :: rest)) :=
  lv_if_le hx hb hdg ht (fun h => kt ((iI_le h1 inR_0).mp h)) (fun h => kf (by rw [iI_zero, iI_le h1 inR_0] at h; omega))
end RI
end
section
-- ===== PART A: goes FIRST, ahead of the names: the tables' words, and 'selects' of the private methods out of them =====
/-- a private method of a class that the tables say can be made, by its rows of tables_1 -/
def lw_okq (q : MethodName × Nat) : Prop := (q.1.cls ≠ "java/lang/invoke/MethodHandle" ∧ q.1.cls ≠ "java/lang/invoke/VarHandle") ∧ Cond.instantiable q.1.cls q.2 ∈ tables_1 ∧ Cond.privateMethod q.1 ∈ tables_1 ∧ Cond.instanceMethod q.1 ∈ tables_1
theorem lw_p0 : lw_okq (⟨"PeatBanks$Moss", "hasDayLeft", "(I)Z"⟩, 14) := ⟨⟨by decide +kernel, by decide +kernel⟩, List.mem_of_getElem? (i := 19) (by decide +kernel), List.mem_of_getElem? (i := 293) (by decide +kernel), List.mem_of_getElem? (i := 294) (by decide +kernel)⟩
theorem lw_p1 : lw_okq (⟨"PeatBanks$Moss", "hasRight", "(II)Z"⟩, 14) := ⟨⟨by decide +kernel, by decide +kernel⟩, List.mem_of_getElem? (i := 19) (by decide +kernel), List.mem_of_getElem? (i := 306) (by decide +kernel), List.mem_of_getElem? (i := 307) (by decide +kernel)⟩
theorem lw_p2 : lw_okq (⟨"PeatBanks$Rows", "isStacked", "(I)Z"⟩, 7) := ⟨⟨by decide +kernel, by decide +kernel⟩, List.mem_of_getElem? (i := 25) (by decide +kernel), List.mem_of_getElem? (i := 349) (by decide +kernel), List.mem_of_getElem? (i := 350) (by decide +kernel)⟩
theorem lw_p3 : lw_okq (⟨"PeatBanks$Moss", "serve", "(I)V"⟩, 14) := ⟨⟨by decide +kernel, by decide +kernel⟩, List.mem_of_getElem? (i := 19) (by decide +kernel), List.mem_of_getElem? (i := 379) (by decide +kernel), List.mem_of_getElem? (i := 380) (by decide +kernel)⟩
theorem lw_p4 : lw_okq (⟨"PeatBanks$DayText", "openGroup", "(I)V"⟩, 5) := ⟨⟨by decide +kernel, by decide +kernel⟩, List.mem_of_getElem? (i := 180) (by decide +kernel), List.mem_of_getElem? (i := 406) (by decide +kernel), List.mem_of_getElem? (i := 407) (by decide +kernel)⟩
theorem lw_p5 : lw_okq (⟨"PeatBanks$Moss", "useDayIfLeft", "(I)V"⟩, 14) := ⟨⟨by decide +kernel, by decide +kernel⟩, List.mem_of_getElem? (i := 19) (by decide +kernel), List.mem_of_getElem? (i := 426) (by decide +kernel), List.mem_of_getElem? (i := 427) (by decide +kernel)⟩
theorem lw_p6 : lw_okq (⟨"PeatBanks$Moss", "givePeats", "(II)V"⟩, 14) := ⟨⟨by decide +kernel, by decide +kernel⟩, List.mem_of_getElem? (i := 19) (by decide +kernel), List.mem_of_getElem? (i := 430) (by decide +kernel), List.mem_of_getElem? (i := 431) (by decide +kernel)⟩
theorem lw_p7 : lw_okq (⟨"PeatBanks$Rows", "isLyingOf", "(II)Z"⟩, 7) := ⟨⟨by decide +kernel, by decide +kernel⟩, List.mem_of_getElem? (i := 25) (by decide +kernel), List.mem_of_getElem? (i := 486) (by decide +kernel), List.mem_of_getElem? (i := 487) (by decide +kernel)⟩
theorem lw_p8 : lw_okq (⟨"PeatBanks$Rows", "countDrierThan", "(II)I"⟩, 7) := ⟨⟨by decide +kernel, by decide +kernel⟩, List.mem_of_getElem? (i := 25) (by decide +kernel), List.mem_of_getElem? (i := 516) (by decide +kernel), List.mem_of_getElem? (i := 517) (by decide +kernel)⟩
theorem lw_p9 : lw_okq (⟨"PeatBanks$Rows", "comesBefore", "(II)Z"⟩, 7) := ⟨⟨by decide +kernel, by decide +kernel⟩, List.mem_of_getElem? (i := 25) (by decide +kernel), List.mem_of_getElem? (i := 520) (by decide +kernel), List.mem_of_getElem? (i := 521) (by decide +kernel)⟩
theorem lw_p10 : lw_okq (⟨"PeatBanksModel", "ofPlot", "(II)I"⟩, 13) := ⟨⟨by decide +kernel, by decide +kernel⟩, List.mem_of_getElem? (i := 557) (by decide +kernel), List.mem_of_getElem? (i := 616) (by decide +kernel), List.mem_of_getElem? (i := 617) (by decide +kernel)⟩
theorem lw_p11 : lw_okq (⟨"PeatBanksModel", "records", "()V"⟩, 13) := ⟨⟨by decide +kernel, by decide +kernel⟩, List.mem_of_getElem? (i := 557) (by decide +kernel), List.mem_of_getElem? (i := 620) (by decide +kernel), List.mem_of_getElem? (i := 621) (by decide +kernel)⟩
theorem lw_p12 : lw_okq (⟨"PeatBanksModel", "ofCommoner", "(II)I"⟩, 13) := ⟨⟨by decide +kernel, by decide +kernel⟩, List.mem_of_getElem? (i := 557) (by decide +kernel), List.mem_of_getElem? (i := 632) (by decide +kernel), List.mem_of_getElem? (i := 633) (by decide +kernel)⟩
theorem lw_p13 : lw_okq (⟨"PeatBanksModel", "addCommoner", "(III)V"⟩, 13) := ⟨⟨by decide +kernel, by decide +kernel⟩, List.mem_of_getElem? (i := 557) (by decide +kernel), List.mem_of_getElem? (i := 636) (by decide +kernel), List.mem_of_getElem? (i := 637) (by decide +kernel)⟩
theorem lw_p14 : lw_okq (⟨"PeatBanksModel", "reason", "(II)I"⟩, 13) := ⟨⟨by decide +kernel, by decide +kernel⟩, List.mem_of_getElem? (i := 557) (by decide +kernel), List.mem_of_getElem? (i := 648) (by decide +kernel), List.mem_of_getElem? (i := 649) (by decide +kernel)⟩
theorem lw_p15 : lw_okq (⟨"PeatBanksModel", "hasRight", "(II)Z"⟩, 13) := ⟨⟨by decide +kernel, by decide +kernel⟩, List.mem_of_getElem? (i := 557) (by decide +kernel), List.mem_of_getElem? (i := 652) (by decide +kernel), List.mem_of_getElem? (i := 653) (by decide +kernel)⟩
def lw_privs_1 : List (MethodName × Nat) := [(⟨"PeatBanks$Moss", "hasDayLeft", "(I)Z"⟩, 14), (⟨"PeatBanks$Moss", "hasRight", "(II)Z"⟩, 14), (⟨"PeatBanks$Rows", "isStacked", "(I)Z"⟩, 7), (⟨"PeatBanks$Moss", "serve", "(I)V"⟩, 14), (⟨"PeatBanks$DayText", "openGroup", "(I)V"⟩, 5), (⟨"PeatBanks$Moss", "useDayIfLeft", "(I)V"⟩, 14), (⟨"PeatBanks$Moss", "givePeats", "(II)V"⟩, 14), (⟨"PeatBanks$Rows", "isLyingOf", "(II)Z"⟩, 7), (⟨"PeatBanks$Rows", "countDrierThan", "(II)I"⟩, 7), (⟨"PeatBanks$Rows", "comesBefore", "(II)Z"⟩, 7), (⟨"PeatBanksModel", "ofPlot", "(II)I"⟩, 13), (⟨"PeatBanksModel", "records", "()V"⟩, 13), (⟨"PeatBanksModel", "ofCommoner", "(II)I"⟩, 13), (⟨"PeatBanksModel", "addCommoner", "(III)V"⟩, 13), (⟨"PeatBanksModel", "reason", "(II)I"⟩, 13), (⟨"PeatBanksModel", "hasRight", "(II)Z"⟩, 13)]
theorem lw_r1 : ∀ q ∈ lw_privs_1, lw_okq q := List.forall_mem_cons.mpr ⟨lw_p0, List.forall_mem_cons.mpr ⟨lw_p1, List.forall_mem_cons.mpr ⟨lw_p2, List.forall_mem_cons.mpr ⟨lw_p3, List.forall_mem_cons.mpr ⟨lw_p4, List.forall_mem_cons.mpr ⟨lw_p5, List.forall_mem_cons.mpr ⟨lw_p6, List.forall_mem_cons.mpr ⟨lw_p7, List.forall_mem_cons.mpr ⟨lw_p8, List.forall_mem_cons.mpr ⟨lw_p9, List.forall_mem_cons.mpr ⟨lw_p10, List.forall_mem_cons.mpr ⟨lw_p11, List.forall_mem_cons.mpr ⟨lw_p12, List.forall_mem_cons.mpr ⟨lw_p13, List.forall_mem_cons.mpr ⟨lw_p14, List.forall_mem_cons.mpr ⟨lw_p15, fun _ h => absurd h List.not_mem_nil⟩⟩⟩⟩⟩⟩⟩⟩⟩⟩⟩⟩⟩⟩⟩⟩
theorem lw_p16 : lw_okq (⟨"PeatBanksModel", "layRow", "(III)V"⟩, 13) := ⟨⟨by decide +kernel, by decide +kernel⟩, List.mem_of_getElem? (i := 557) (by decide +kernel), List.mem_of_getElem? (i := 656) (by decide +kernel), List.mem_of_getElem? (i := 657) (by decide +kernel)⟩
theorem lw_p17 : lw_okq (⟨"PeatBanksModel", "opensDispute", "(III)V"⟩, 13) := ⟨⟨by decide +kernel, by decide +kernel⟩, List.mem_of_getElem? (i := 557) (by decide +kernel), List.mem_of_getElem? (i := 660) (by decide +kernel), List.mem_of_getElem? (i := 661) (by decide +kernel)⟩
theorem lw_p18 : lw_okq (⟨"PeatBanksModel", "placeOf", "(I)I"⟩, 13) := ⟨⟨by decide +kernel, by decide +kernel⟩, List.mem_of_getElem? (i := 557) (by decide +kernel), List.mem_of_getElem? (i := 668) (by decide +kernel), List.mem_of_getElem? (i := 669) (by decide +kernel)⟩
theorem lw_p19 : lw_okq (⟨"PeatBanksModel", "ofRow", "(II)I"⟩, 13) := ⟨⟨by decide +kernel, by decide +kernel⟩, List.mem_of_getElem? (i := 557) (by decide +kernel), List.mem_of_getElem? (i := 672) (by decide +kernel), List.mem_of_getElem? (i := 673) (by decide +kernel)⟩
theorem lw_p20 : lw_okq (⟨"PeatBanksModel", "rowsOf", "(IZ)I"⟩, 13) := ⟨⟨by decide +kernel, by decide +kernel⟩, List.mem_of_getElem? (i := 557) (by decide +kernel), List.mem_of_getElem? (i := 680) (by decide +kernel), List.mem_of_getElem? (i := 681) (by decide +kernel)⟩
theorem lw_p21 : lw_okq (⟨"PeatBanksModel", "passes", "(I)I"⟩, 13) := ⟨⟨by decide +kernel, by decide +kernel⟩, List.mem_of_getElem? (i := 557) (by decide +kernel), List.mem_of_getElem? (i := 688) (by decide +kernel), List.mem_of_getElem? (i := 689) (by decide +kernel)⟩
theorem lw_p22 : lw_okq (⟨"PeatBanksModel", "weathers", "(I)V"⟩, 13) := ⟨⟨by decide +kernel, by decide +kernel⟩, List.mem_of_getElem? (i := 557) (by decide +kernel), List.mem_of_getElem? (i := 692) (by decide +kernel), List.mem_of_getElem? (i := 693) (by decide +kernel)⟩
theorem lw_p23 : lw_okq (⟨"PeatBanksModel", "serves", "(I)I"⟩, 13) := ⟨⟨by decide +kernel, by decide +kernel⟩, List.mem_of_getElem? (i := 557) (by decide +kernel), List.mem_of_getElem? (i := 699) (by decide +kernel), List.mem_of_getElem? (i := 700) (by decide +kernel)⟩
theorem lw_p24 : lw_okq (⟨"PeatBanksModel", "nextFor", "(I)I"⟩, 13) := ⟨⟨by decide +kernel, by decide +kernel⟩, List.mem_of_getElem? (i := 557) (by decide +kernel), List.mem_of_getElem? (i := 703) (by decide +kernel), List.mem_of_getElem? (i := 704) (by decide +kernel)⟩
theorem lw_p25 : lw_okq (⟨"PeatBanksModel", "brings", "(I)I"⟩, 13) := ⟨⟨by decide +kernel, by decide +kernel⟩, List.mem_of_getElem? (i := 557) (by decide +kernel), List.mem_of_getElem? (i := 707) (by decide +kernel), List.mem_of_getElem? (i := 708) (by decide +kernel)⟩
theorem lw_p26 : lw_okq (⟨"PeatBanksModel", "leaves", "(I)V"⟩, 13) := ⟨⟨by decide +kernel, by decide +kernel⟩, List.mem_of_getElem? (i := 557) (by decide +kernel), List.mem_of_getElem? (i := 711) (by decide +kernel), List.mem_of_getElem? (i := 712) (by decide +kernel)⟩
theorem lw_p27 : lw_okq (⟨"PeatBanksModel", "reads", "()I"⟩, 13) := ⟨⟨by decide +kernel, by decide +kernel⟩, List.mem_of_getElem? (i := 557) (by decide +kernel), List.mem_of_getElem? (i := 719) (by decide +kernel), List.mem_of_getElem? (i := 720) (by decide +kernel)⟩
theorem lw_p28 : lw_okq (⟨"PeatBanksModel", "readsGroup", "()V"⟩, 13) := ⟨⟨by decide +kernel, by decide +kernel⟩, List.mem_of_getElem? (i := 557) (by decide +kernel), List.mem_of_getElem? (i := 723) (by decide +kernel), List.mem_of_getElem? (i := 724) (by decide +kernel)⟩
theorem lw_p29 : lw_okq (⟨"PeatBanksModel", "sign", "()I"⟩, 13) := ⟨⟨by decide +kernel, by decide +kernel⟩, List.mem_of_getElem? (i := 557) (by decide +kernel), List.mem_of_getElem? (i := 727) (by decide +kernel), List.mem_of_getElem? (i := 728) (by decide +kernel)⟩
theorem lw_p30 : lw_okq (⟨"PeatBanksModel", "number", "()I"⟩, 13) := ⟨⟨by decide +kernel, by decide +kernel⟩, List.mem_of_getElem? (i := 557) (by decide +kernel), List.mem_of_getElem? (i := 731) (by decide +kernel), List.mem_of_getElem? (i := 732) (by decide +kernel)⟩
theorem lw_p31 : lw_okq (⟨"PeatBanksModel", "ofDispute", "(II)I"⟩, 13) := ⟨⟨by decide +kernel, by decide +kernel⟩, List.mem_of_getElem? (i := 557) (by decide +kernel), List.mem_of_getElem? (i := 739) (by decide +kernel), List.mem_of_getElem? (i := 740) (by decide +kernel)⟩
def lw_privs_2 : List (MethodName × Nat) := [(⟨"PeatBanksModel", "layRow", "(III)V"⟩, 13), (⟨"PeatBanksModel", "opensDispute", "(III)V"⟩, 13), (⟨"PeatBanksModel", "placeOf", "(I)I"⟩, 13), (⟨"PeatBanksModel", "ofRow", "(II)I"⟩, 13), (⟨"PeatBanksModel", "rowsOf", "(IZ)I"⟩, 13), (⟨"PeatBanksModel", "passes", "(I)I"⟩, 13), (⟨"PeatBanksModel", "weathers", "(I)V"⟩, 13), (⟨"PeatBanksModel", "serves", "(I)I"⟩, 13), (⟨"PeatBanksModel", "nextFor", "(I)I"⟩, 13), (⟨"PeatBanksModel", "brings", "(I)I"⟩, 13), (⟨"PeatBanksModel", "leaves", "(I)V"⟩, 13), (⟨"PeatBanksModel", "reads", "()I"⟩, 13), (⟨"PeatBanksModel", "readsGroup", "()V"⟩, 13), (⟨"PeatBanksModel", "sign", "()I"⟩, 13), (⟨"PeatBanksModel", "number", "()I"⟩, 13), (⟨"PeatBanksModel", "ofDispute", "(II)I"⟩, 13)]
theorem lw_r2 : ∀ q ∈ lw_privs_2, lw_okq q := List.forall_mem_cons.mpr ⟨lw_p16, List.forall_mem_cons.mpr ⟨lw_p17, List.forall_mem_cons.mpr ⟨lw_p18, List.forall_mem_cons.mpr ⟨lw_p19, List.forall_mem_cons.mpr ⟨lw_p20, List.forall_mem_cons.mpr ⟨lw_p21, List.forall_mem_cons.mpr ⟨lw_p22, List.forall_mem_cons.mpr ⟨lw_p23, List.forall_mem_cons.mpr ⟨lw_p24, List.forall_mem_cons.mpr ⟨lw_p25, List.forall_mem_cons.mpr ⟨lw_p26, List.forall_mem_cons.mpr ⟨lw_p27, List.forall_mem_cons.mpr ⟨lw_p28, List.forall_mem_cons.mpr ⟨lw_p29, List.forall_mem_cons.mpr ⟨lw_p30, List.forall_mem_cons.mpr ⟨lw_p31, fun _ h => absurd h List.not_mem_nil⟩⟩⟩⟩⟩⟩⟩⟩⟩⟩⟩⟩⟩⟩⟩⟩
theorem lw_p32 : lw_okq (⟨"PeatBanksModel", "dropsOldest", "()V"⟩, 13) := ⟨⟨by decide +kernel, by decide +kernel⟩, List.mem_of_getElem? (i := 557) (by decide +kernel), List.mem_of_getElem? (i := 743) (by decide +kernel), List.mem_of_getElem? (i := 744) (by decide +kernel)⟩
theorem lw_p33 : lw_okq (⟨"PeatBanksModel", "plotsOf", "(II)I"⟩, 13) := ⟨⟨by decide +kernel, by decide +kernel⟩, List.mem_of_getElem? (i := 557) (by decide +kernel), List.mem_of_getElem? (i := 775) (by decide +kernel), List.mem_of_getElem? (i := 776) (by decide +kernel)⟩
theorem lw_p34 : lw_okq (⟨"PeatBanksModel", "disputesOf", "(I)I"⟩, 13) := ⟨⟨by decide +kernel, by decide +kernel⟩, List.mem_of_getElem? (i := 557) (by decide +kernel), List.mem_of_getElem? (i := 779) (by decide +kernel), List.mem_of_getElem? (i := 780) (by decide +kernel)⟩
theorem lw_p35 : lw_okq (⟨"PeatBanksModel", "ahead", "(I)I"⟩, 13) := ⟨⟨by decide +kernel, by decide +kernel⟩, List.mem_of_getElem? (i := 557) (by decide +kernel), List.mem_of_getElem? (i := 795) (by decide +kernel), List.mem_of_getElem? (i := 796) (by decide +kernel)⟩
theorem lw_p36 : lw_okq (⟨"PeatBanksModel", "rowsThat", "(I)I"⟩, 13) := ⟨⟨by decide +kernel, by decide +kernel⟩, List.mem_of_getElem? (i := 557) (by decide +kernel), List.mem_of_getElem? (i := 819) (by decide +kernel), List.mem_of_getElem? (i := 820) (by decide +kernel)⟩
theorem lw_p37 : lw_okq (⟨"PeatBanksModel", "allPeats", "()I"⟩, 13) := ⟨⟨by decide +kernel, by decide +kernel⟩, List.mem_of_getElem? (i := 557) (by decide +kernel), List.mem_of_getElem? (i := 823) (by decide +kernel), List.mem_of_getElem? (i := 824) (by decide +kernel)⟩
theorem lw_p38 : lw_okq (⟨"PeatBanksModel", "allLayers", "()I"⟩, 13) := ⟨⟨by decide +kernel, by decide +kernel⟩, List.mem_of_getElem? (i := 557) (by decide +kernel), List.mem_of_getElem? (i := 827) (by decide +kernel), List.mem_of_getElem? (i := 828) (by decide +kernel)⟩
def lw_privs_3 : List (MethodName × Nat) := [(⟨"PeatBanksModel", "dropsOldest", "()V"⟩, 13), (⟨"PeatBanksModel", "plotsOf", "(II)I"⟩, 13), (⟨"PeatBanksModel", "disputesOf", "(I)I"⟩, 13), (⟨"PeatBanksModel", "ahead", "(I)I"⟩, 13), (⟨"PeatBanksModel", "rowsThat", "(I)I"⟩, 13), (⟨"PeatBanksModel", "allPeats", "()I"⟩, 13), (⟨"PeatBanksModel", "allLayers", "()I"⟩, 13)]
theorem lw_r3 : ∀ q ∈ lw_privs_3, lw_okq q := List.forall_mem_cons.mpr ⟨lw_p32, List.forall_mem_cons.mpr ⟨lw_p33, List.forall_mem_cons.mpr ⟨lw_p34, List.forall_mem_cons.mpr ⟨lw_p35, List.forall_mem_cons.mpr ⟨lw_p36, List.forall_mem_cons.mpr ⟨lw_p37, List.forall_mem_cons.mpr ⟨lw_p38, fun _ h => absurd h List.not_mem_nil⟩⟩⟩⟩⟩⟩⟩
def lw_privs : List (MethodName × Nat) := lw_privs_1 ++ (lw_privs_2 ++ (lw_privs_3))
def lw_tbl : List Cond := k2_sels lw_privs ++ tables_1
theorem lw_privs_ok : ∀ q ∈ lw_privs, lw_okq q := by
  show ∀ q ∈ lw_privs_1 ++ (lw_privs_2 ++ (lw_privs_3)), lw_okq q
  exact List.forall_mem_append.mpr ⟨lw_r1, List.forall_mem_append.mpr ⟨lw_r2, lw_r3⟩⟩
end
section
def RX0 : String := "PeatBanks$DayText"
def TX0 : u_T := fun k => match k with
  | 0 => ("PeatBanks$DayText", "characters", "[C", true)
  | 1 => ("PeatBanks$DayText", "length", "I", false)
  | 2 => ("PeatBanks$DayText", "groupWeather", "[I", true)
  | 3 => ("PeatBanks$DayText", "groupDays", "[I", true)
  | _ => ("PeatBanks$DayText", "groups", "I", false)
def tyX0 : Nat → FieldType := fun k => match k with
  | 0 => .array .char
  | 1 => .int
  | 2 => .array .int
  | 3 => .array .int
  | _ => .int
abbrev wsX00 : List Cond := u_ws RX0 TX0 5
theorem nmX0 : ∀ a, a < 5 → ∀ b, b < 5 → a ≠ b → (TX0 a).2.1 ≠ (TX0 b).2.1 := by decide +kernel
theorem tyX0_ok : ∀ k, k < 5 → parseFieldDescriptor (TX0 k).2.2.1 = some (tyX0 k) := by decide +kernel
abbrev cX0_init : ByteArray := prog_2_method_1_code
def yX0_init : MethodName := ⟨RX0, "<init>", "()V"⟩
abbrev cX0_append : ByteArray := prog_2_method_2_code
def yX0_append : MethodName := ⟨RX0, "append", "(C)Z"⟩
abbrev cX0_readGroups : ByteArray := prog_2_method_3_code
def yX0_readGroups : MethodName := ⟨RX0, "readGroups", "()I"⟩
abbrev cX0_openGroup : ByteArray := prog_2_method_4_code
def yX0_openGroup : MethodName := ⟨RX0, "openGroup", "(I)V"⟩
abbrev cX0_isDigit : ByteArray := prog_2_method_5_code
def yX0_isDigit : MethodName := ⟨RX0, "isDigit", "(C)Z"⟩
abbrev cX0_isWeatherLetter : ByteArray := prog_2_method_6_code
def yX0_isWeatherLetter : MethodName := ⟨RX0, "isWeatherLetter", "(C)Z"⟩
abbrev cX0_weatherOf : ByteArray := prog_2_method_7_code
def yX0_weatherOf : MethodName := ⟨RX0, "weatherOf", "(C)I"⟩
def RX1 : String := "PeatBanks$Disputes"
def TX1 : u_T := fun k => match k with
  | 0 => ("PeatBanks$Disputes", "cutter", "[I", true)
  | 1 => ("PeatBanks$Disputes", "wronged", "[I", true)
  | 2 => ("PeatBanks$Disputes", "row", "[I", true)
  | 3 => ("PeatBanks$Disputes", "plot", "[I", true)
  | 4 => ("PeatBanks$Disputes", "settled", "I", false)
  | _ => ("PeatBanks$Disputes", "soFar", "I", false)
def tyX1 : Nat → FieldType := fun k => match k with
  | 0 => .array .int
  | 1 => .array .int
  | 2 => .array .int
  | 3 => .array .int
  | 4 => .int
  | _ => .int
abbrev wsX10 : List Cond := u_ws RX1 TX1 6
theorem nmX1 : ∀ a, a < 6 → ∀ b, b < 6 → a ≠ b → (TX1 a).2.1 ≠ (TX1 b).2.1 := by decide +kernel
theorem tyX1_ok : ∀ k, k < 6 → parseFieldDescriptor (TX1 k).2.2.1 = some (tyX1 k) := by decide +kernel
abbrev cX1_init : ByteArray := prog_3_method_1_code
def yX1_init : MethodName := ⟨RX1, "<init>", "()V"⟩
abbrev cX1_copyFrom : ByteArray := prog_3_method_2_code
def yX1_copyFrom : MethodName := ⟨RX1, "copyFrom", "(LPeatBanks$Disputes;)V"⟩
abbrev cX1_open : ByteArray := prog_3_method_3_code
def yX1_open : MethodName := ⟨RX1, "open", "(IIII)V"⟩
abbrev cX1_countOpen : ByteArray := prog_3_method_4_code
def yX1_countOpen : MethodName := ⟨RX1, "countOpen", "()I"⟩
abbrev cX1_countOpenWith : ByteArray := prog_3_method_5_code
def yX1_countOpenWith : MethodName := ⟨RX1, "countOpenWith", "(I)I"⟩
def RX2 : String := "PeatBanks$History"
def TX2 : u_T := fun k => match k with
  | 0 => ("PeatBanks$History", "latest", "LPeatBanks$Moss;", false)
  | 1 => ("PeatBanks$History", "second", "LPeatBanks$Moss;", false)
  | 2 => ("PeatBanks$History", "third", "LPeatBanks$Moss;", false)
  | 3 => ("PeatBanks$History", "oldest", "LPeatBanks$Moss;", false)
  | _ => ("PeatBanks$History", "states", "I", false)
def tyX2 : Nat → FieldType := fun k => match k with
  | 0 => .object "PeatBanks$Moss"
  | 1 => .object "PeatBanks$Moss"
  | 2 => .object "PeatBanks$Moss"
  | 3 => .object "PeatBanks$Moss"
  | _ => .int
abbrev wsX20 : List Cond := u_ws RX2 TX2 5
theorem nmX2 : ∀ a, a < 5 → ∀ b, b < 5 → a ≠ b → (TX2 a).2.1 ≠ (TX2 b).2.1 := by decide +kernel
theorem tyX2_ok : ∀ k, k < 5 → parseFieldDescriptor (TX2 k).2.2.1 = some (tyX2 k) := by decide +kernel
abbrev cX2_init : ByteArray := prog_4_method_1_code
def yX2_init : MethodName := ⟨RX2, "<init>", "()V"⟩
abbrev cX2_record : ByteArray := prog_4_method_2_code
def yX2_record : MethodName := ⟨RX2, "record", "(LPeatBanks$Moss;)V"⟩
abbrev cX2_takeBack : ByteArray := prog_4_method_3_code
def yX2_takeBack : MethodName := ⟨RX2, "takeBack", "(LPeatBanks$Moss;)V"⟩
def RX3 : String := "PeatBanks$Moss"
def TX3 : u_T := fun k => match k with
  | 0 => ("PeatBanks$Moss", "layers", "[I", true)
  | 1 => ("PeatBanks$Moss", "owners", "[I", true)
  | 2 => ("PeatBanks$Moss", "rights", "[I", true)
  | 3 => ("PeatBanks$Moss", "days", "[I", true)
  | 4 => ("PeatBanks$Moss", "used", "[I", true)
  | 5 => ("PeatBanks$Moss", "hearths", "[I", true)
  | 6 => ("PeatBanks$Moss", "rows", "LPeatBanks$Rows;", true)
  | 7 => ("PeatBanks$Moss", "disputes", "LPeatBanks$Disputes;", true)
  | 8 => ("PeatBanks$Moss", "cartRows", "I", false)
  | 9 => ("PeatBanks$Moss", "stakes", "I", false)
  | 10 => ("PeatBanks$Moss", "rota", "I", false)
  | 11 => ("PeatBanks$Moss", "dayOfYear", "I", false)
  | 12 => ("PeatBanks$Moss", "years", "I", false)
  | _ => ("PeatBanks$Moss", "rowsHome", "I", false)
def tyX3 : Nat → FieldType := fun k => match k with
  | 0 => .array .int
  | 1 => .array .int
  | 2 => .array .int
  | 3 => .array .int
  | 4 => .array .int
  | 5 => .array .int
  | 6 => .object "PeatBanks$Rows"
  | 7 => .object "PeatBanks$Disputes"
  | 8 => .int
  | 9 => .int
  | 10 => .int
  | 11 => .int
  | 12 => .int
  | _ => .int
abbrev wsX30 : List Cond := u_ws RX3 TX3 14
theorem nmX3 : ∀ a, a < 14 → ∀ b, b < 14 → a ≠ b → (TX3 a).2.1 ≠ (TX3 b).2.1 := by decide +kernel
theorem tyX3_ok : ∀ k, k < 14 → parseFieldDescriptor (TX3 k).2.2.1 = some (tyX3 k) := by decide +kernel
abbrev cX3_init : ByteArray := prog_5_method_1_code
def yX3_init : MethodName := ⟨RX3, "<init>", "()V"⟩
abbrev cX3_copyFrom : ByteArray := prog_5_method_2_code
def yX3_copyFrom : MethodName := ⟨RX3, "copyFrom", "(LPeatBanks$Moss;)V"⟩
abbrev cX3_reasonAgainst : ByteArray := prog_5_method_3_code
def yX3_reasonAgainst : MethodName := ⟨RX3, "reasonAgainst", "(II)I"⟩
abbrev cX3_hasDayLeft : ByteArray := prog_5_method_4_code
def yX3_hasDayLeft : MethodName := ⟨RX3, "hasDayLeft", "(I)Z"⟩
abbrev cX3_hasRight : ByteArray := prog_5_method_5_code
def yX3_hasRight : MethodName := ⟨RX3, "hasRight", "(II)Z"⟩
abbrev cX3_takeLayer : ByteArray := prog_5_method_6_code
def yX3_takeLayer : MethodName := ⟨RX3, "takeLayer", "(II)I"⟩
abbrev cX3_passDays : ByteArray := prog_5_method_7_code
def yX3_passDays : MethodName := ⟨RX3, "passDays", "(II)I"⟩
abbrev cX3_commonerOfCart : ByteArray := prog_5_method_8_code
def yX3_commonerOfCart : MethodName := ⟨RX3, "commonerOfCart", "(I)I"⟩
abbrev cX3_serve : ByteArray := prog_5_method_9_code
def yX3_serve : MethodName := ⟨RX3, "serve", "(I)V"⟩
abbrev cX3_settleOldest : ByteArray := prog_5_method_10_code
def yX3_settleOldest : MethodName := ⟨RX3, "settleOldest", "()I"⟩
abbrev cX3_useDayIfLeft : ByteArray := prog_5_method_11_code
def yX3_useDayIfLeft : MethodName := ⟨RX3, "useDayIfLeft", "(I)V"⟩
abbrev cX3_givePeats : ByteArray := prog_5_method_12_code
def yX3_givePeats : MethodName := ⟨RX3, "givePeats", "(II)V"⟩
abbrev cX3_closeYear : ByteArray := prog_5_method_13_code
def yX3_closeYear : MethodName := ⟨RX3, "closeYear", "()I"⟩
def RX4 : String := "PeatBanks$Rows"
def TX4 : u_T := fun k => match k with
  | 0 => ("PeatBanks$Rows", "owner", "[I", true)
  | 1 => ("PeatBanks$Rows", "plot", "[I", true)
  | 2 => ("PeatBanks$Rows", "wetness", "[I", true)
  | 3 => ("PeatBanks$Rows", "turned", "[Z", true)
  | 4 => ("PeatBanks$Rows", "stacked", "[Z", true)
  | 5 => ("PeatBanks$Rows", "lying", "[Z", true)
  | _ => ("PeatBanks$Rows", "soFar", "I", false)
def tyX4 : Nat → FieldType := fun k => match k with
  | 0 => .array .int
  | 1 => .array .int
  | 2 => .array .int
  | 3 => .array .boolean
  | 4 => .array .boolean
  | 5 => .array .boolean
  | _ => .int
abbrev wsX40 : List Cond := u_ws RX4 TX4 7
theorem nmX4 : ∀ a, a < 7 → ∀ b, b < 7 → a ≠ b → (TX4 a).2.1 ≠ (TX4 b).2.1 := by decide +kernel
theorem tyX4_ok : ∀ k, k < 7 → parseFieldDescriptor (TX4 k).2.2.1 = some (tyX4 k) := by decide +kernel
abbrev cX4_init : ByteArray := prog_6_method_1_code
def yX4_init : MethodName := ⟨RX4, "<init>", "()V"⟩
abbrev cX4_copyFrom : ByteArray := prog_6_method_2_code
def yX4_copyFrom : MethodName := ⟨RX4, "copyFrom", "(LPeatBanks$Rows;)V"⟩
abbrev cX4_hasNumberLeft : ByteArray := prog_6_method_3_code
def yX4_hasNumberLeft : MethodName := ⟨RX4, "hasNumberLeft", "()Z"⟩
abbrev cX4_lay : ByteArray := prog_6_method_4_code
def yX4_lay : MethodName := ⟨RX4, "lay", "(II)I"⟩
abbrev cX4_isLying : ByteArray := prog_6_method_5_code
def yX4_isLying : MethodName := ⟨RX4, "isLying", "(I)Z"⟩
abbrev cX4_isLyingOf : ByteArray := prog_6_method_6_code
def yX4_isLyingOf : MethodName := ⟨RX4, "isLyingOf", "(II)Z"⟩
abbrev cX4_isStacked : ByteArray := prog_6_method_7_code
def yX4_isStacked : MethodName := ⟨RX4, "isStacked", "(I)Z"⟩
abbrev cX4_isDry : ByteArray := prog_6_method_8_code
def yX4_isDry : MethodName := ⟨RX4, "isDry", "(I)Z"⟩
abbrev cX4_peatsAtHearth : ByteArray := prog_6_method_9_code
def yX4_peatsAtHearth : MethodName := ⟨RX4, "peatsAtHearth", "(I)I"⟩
abbrev cX4_countLying : ByteArray := prog_6_method_10_code
def yX4_countLying : MethodName := ⟨RX4, "countLying", "()I"⟩
abbrev cX4_countStacked : ByteArray := prog_6_method_11_code
def yX4_countStacked : MethodName := ⟨RX4, "countStacked", "()I"⟩
abbrev cX4_countDry : ByteArray := prog_6_method_12_code
def yX4_countDry : MethodName := ⟨RX4, "countDry", "()I"⟩
abbrev cX4_countLyingOf : ByteArray := prog_6_method_13_code
def yX4_countLyingOf : MethodName := ⟨RX4, "countLyingOf", "(I)I"⟩
abbrev cX4_countStackedOf : ByteArray := prog_6_method_14_code
def yX4_countStackedOf : MethodName := ⟨RX4, "countStackedOf", "(I)I"⟩
abbrev cX4_driestOf : ByteArray := prog_6_method_15_code
def yX4_driestOf : MethodName := ⟨RX4, "driestOf", "(II)I"⟩
abbrev cX4_countDrierThan : ByteArray := prog_6_method_16_code
def yX4_countDrierThan : MethodName := ⟨RX4, "countDrierThan", "(II)I"⟩
abbrev cX4_comesBefore : ByteArray := prog_6_method_17_code
def yX4_comesBefore : MethodName := ⟨RX4, "comesBefore", "(II)Z"⟩
abbrev cX4_driestStackedOf : ByteArray := prog_6_method_18_code
def yX4_driestStackedOf : MethodName := ⟨RX4, "driestStackedOf", "(I)I"⟩
abbrev cX4_dryOrWet : ByteArray := prog_6_method_19_code
def yX4_dryOrWet : MethodName := ⟨RX4, "dryOrWet", "(I)V"⟩
abbrev cX4_changeBy : ByteArray := prog_6_method_20_code
def yX4_changeBy : MethodName := ⟨RX4, "changeBy", "(IZ)I"⟩
abbrev cX4_loseAll : ByteArray := prog_6_method_21_code
def yX4_loseAll : MethodName := ⟨RX4, "loseAll", "()I"⟩
def RX5 : String := "PeatBanks"
def TX5 : u_T := fun k => match k with
  | 0 => ("PeatBanks", "now", "LPeatBanks$Moss;", true)
  | 1 => ("PeatBanks", "kept", "LPeatBanks$Moss;", true)
  | 2 => ("PeatBanks", "trial", "LPeatBanks$Moss;", true)
  | 3 => ("PeatBanks", "history", "LPeatBanks$History;", true)
  | 4 => ("PeatBanks", "text", "LPeatBanks$DayText;", true)
  | _ => ("PeatBanks", "hasKept", "Z", false)
def tyX5 : Nat → FieldType := fun k => match k with
  | 0 => .object "PeatBanks$Moss"
  | 1 => .object "PeatBanks$Moss"
  | 2 => .object "PeatBanks$Moss"
  | 3 => .object "PeatBanks$History"
  | 4 => .object "PeatBanks$DayText"
  | _ => .boolean
abbrev wsX50 : List Cond := u_ws RX5 TX5 6
theorem nmX5 : ∀ a, a < 6 → ∀ b, b < 6 → a ≠ b → (TX5 a).2.1 ≠ (TX5 b).2.1 := by decide +kernel
theorem tyX5_ok : ∀ k, k < 6 → parseFieldDescriptor (TX5 k).2.2.1 = some (tyX5 k) := by decide +kernel
abbrev cX5_init : ByteArray := prog_1_method_1_code
def yX5_init : MethodName := ⟨RX5, "<init>", "()V"⟩
abbrev cX5_lend : ByteArray := prog_1_method_2_code
def yX5_lend : MethodName := ⟨RX5, "lend", "(II)I"⟩
abbrev cX5_handOver : ByteArray := prog_1_method_3_code
def yX5_handOver : MethodName := ⟨RX5, "handOver", "(II)I"⟩
abbrev cX5_setDays : ByteArray := prog_1_method_4_code
def yX5_setDays : MethodName := ⟨RX5, "setDays", "(II)I"⟩
abbrev cX5_set : ByteArray := prog_1_method_5_code
def yX5_set : MethodName := ⟨RX5, "set", "(II)I"⟩
abbrev cX5_cut : ByteArray := prog_1_method_6_code
def yX5_cut : MethodName := ⟨RX5, "cut", "(II)I"⟩
abbrev cX5_turn : ByteArray := prog_1_method_7_code
def yX5_turn : MethodName := ⟨RX5, "turn", "(I)I"⟩
abbrev cX5_stack : ByteArray := prog_1_method_8_code
def yX5_stack : MethodName := ⟨RX5, "stack", "(I)I"⟩
abbrev cX5_pass : ByteArray := prog_1_method_9_code
def yX5_pass : MethodName := ⟨RX5, "pass", "(I)I"⟩
abbrev cX5_passAll : ByteArray := prog_1_method_10_code
def yX5_passAll : MethodName := ⟨RX5, "passAll", "()I"⟩
abbrev cX5_settle : ByteArray := prog_1_method_11_code
def yX5_settle : MethodName := ⟨RX5, "settle", "()I"⟩
abbrev cX5_endYear : ByteArray := prog_1_method_12_code
def yX5_endYear : MethodName := ⟨RX5, "endYear", "()I"⟩
abbrev cX5_type : ByteArray := prog_1_method_13_code
def yX5_type : MethodName := ⟨RX5, "type", "(C)I"⟩
abbrev cX5_clearText : ByteArray := prog_1_method_14_code
def yX5_clearText : MethodName := ⟨RX5, "clearText", "()I"⟩
abbrev cX5_undo : ByteArray := prog_1_method_15_code
def yX5_undo : MethodName := ⟨RX5, "undo", "()I"⟩
abbrev cX5_keep : ByteArray := prog_1_method_16_code
def yX5_keep : MethodName := ⟨RX5, "keep", "()I"⟩
abbrev cX5_restore : ByteArray := prog_1_method_17_code
def yX5_restore : MethodName := ⟨RX5, "restore", "()I"⟩
abbrev cX5_commoner : ByteArray := prog_1_method_18_code
def yX5_commoner : MethodName := ⟨RX5, "commoner", "(II)I"⟩
abbrev cX5_plot : ByteArray := prog_1_method_19_code
def yX5_plot : MethodName := ⟨RX5, "plot", "(II)I"⟩
abbrev cX5_row : ByteArray := prog_1_method_20_code
def yX5_row : MethodName := ⟨RX5, "row", "(II)I"⟩
abbrev cX5_driest : ByteArray := prog_1_method_21_code
def yX5_driest : MethodName := ⟨RX5, "driest", "(II)I"⟩
abbrev cX5_why : ByteArray := prog_1_method_22_code
def yX5_why : MethodName := ⟨RX5, "why", "(II)I"⟩
abbrev cX5_dispute : ByteArray := prog_1_method_23_code
def yX5_dispute : MethodName := ⟨RX5, "dispute", "(II)I"⟩
abbrev cX5_cart : ByteArray := prog_1_method_24_code
def yX5_cart : MethodName := ⟨RX5, "cart", "(I)I"⟩
abbrev cX5_would : ByteArray := prog_1_method_25_code
def yX5_would : MethodName := ⟨RX5, "would", "(II)I"⟩
abbrev cX5_count : ByteArray := prog_1_method_26_code
def yX5_count : MethodName := ⟨RX5, "count", "(I)I"⟩
abbrev cX5_isWithin : ByteArray := prog_1_method_27_code
def yX5_isWithin : MethodName := ⟨RX5, "isWithin", "(III)Z"⟩
abbrev cX5_isCommoner : ByteArray := prog_1_method_28_code
def yX5_isCommoner : MethodName := ⟨RX5, "isCommoner", "(I)Z"⟩
abbrev cX5_isPlot : ByteArray := prog_1_method_29_code
def yX5_isPlot : MethodName := ⟨RX5, "isPlot", "(I)Z"⟩
abbrev cX5_isWeather : ByteArray := prog_1_method_30_code
def yX5_isWeather : MethodName := ⟨RX5, "isWeather", "(I)Z"⟩
abbrev cX5_isSettingValue : ByteArray := prog_1_method_31_code
def yX5_isSettingValue : MethodName := ⟨RX5, "isSettingValue", "(II)Z"⟩
abbrev cX5_oneIf : ByteArray := prog_1_method_32_code
def yX5_oneIf : MethodName := ⟨RX5, "oneIf", "(Z)I"⟩
abbrev cX5_countEqual : ByteArray := prog_1_method_33_code
def yX5_countEqual : MethodName := ⟨RX5, "countEqual", "([II)I"⟩
abbrev cX5_sumOf : ByteArray := prog_1_method_34_code
def yX5_sumOf : MethodName := ⟨RX5, "sumOf", "([I)I"⟩
abbrev cX5_copyNumbers : ByteArray := prog_1_method_35_code
def yX5_copyNumbers : MethodName := ⟨RX5, "copyNumbers", "([I[I)V"⟩
abbrev cX5_copyFlags : ByteArray := prog_1_method_36_code
def yX5_copyFlags : MethodName := ⟨RX5, "copyFlags", "([Z[Z)V"⟩
def RX6 : String := "PeatBanksModel"
def TX6 : u_T := fun k => match k with
  | 0 => ("PeatBanksModel", "thrown", "I", false)
  | 1 => ("PeatBanksModel", "s", "[I", true)
  | 2 => ("PeatBanksModel", "aside", "[I", true)
  | 3 => ("PeatBanksModel", "saved", "[I", true)
  | 4 => ("PeatBanksModel", "savedMany", "I", false)
  | 5 => ("PeatBanksModel", "snapshot", "[I", true)
  | 6 => ("PeatBanksModel", "hasSnapshot", "Z", false)
  | 7 => ("PeatBanksModel", "text", "[I", true)
  | 8 => ("PeatBanksModel", "length", "I", false)
  | 9 => ("PeatBanksModel", "at", "I", false)
  | 10 => ("PeatBanksModel", "isWell", "Z", false)
  | 11 => ("PeatBanksModel", "groups", "[I", true)
  | _ => ("PeatBanksModel", "groupMany", "I", false)
def tyX6 : Nat → FieldType := fun k => match k with
  | 0 => .int
  | 1 => .array .int
  | 2 => .array .int
  | 3 => .array .int
  | 4 => .int
  | 5 => .array .int
  | 6 => .boolean
  | 7 => .array .int
  | 8 => .int
  | 9 => .int
  | 10 => .boolean
  | 11 => .array .int
  | _ => .int
abbrev wsX60 : List Cond := u_ws RX6 TX6 13
theorem nmX6 : ∀ a, a < 13 → ∀ b, b < 13 → a ≠ b → (TX6 a).2.1 ≠ (TX6 b).2.1 := by decide +kernel
theorem tyX6_ok : ∀ k, k < 13 → parseFieldDescriptor (TX6 k).2.2.1 = some (tyX6 k) := by decide +kernel
abbrev cX6_init : ByteArray := prog_8_method_1_code
def yX6_init : MethodName := ⟨RX6, "<init>", "()V"⟩
abbrev cX6_in : ByteArray := prog_8_method_3_code
def yX6_in : MethodName := ⟨RX6, "in", "(III)Z"⟩
abbrev cX6_isCommoner : ByteArray := prog_8_method_4_code
def yX6_isCommoner : MethodName := ⟨RX6, "isCommoner", "(I)Z"⟩
abbrev cX6_isPlot : ByteArray := prog_8_method_5_code
def yX6_isPlot : MethodName := ⟨RX6, "isPlot", "(I)Z"⟩
abbrev cX6_ofCommoner : ByteArray := prog_8_method_6_code
def yX6_ofCommoner : MethodName := ⟨RX6, "ofCommoner", "(II)I"⟩
abbrev cX6_addCommoner : ByteArray := prog_8_method_7_code
def yX6_addCommoner : MethodName := ⟨RX6, "addCommoner", "(III)V"⟩
abbrev cX6_ofPlot : ByteArray := prog_8_method_8_code
def yX6_ofPlot : MethodName := ⟨RX6, "ofPlot", "(II)I"⟩
abbrev cX6_ofRow : ByteArray := prog_8_method_9_code
def yX6_ofRow : MethodName := ⟨RX6, "ofRow", "(II)I"⟩
abbrev cX6_layRow : ByteArray := prog_8_method_10_code
def yX6_layRow : MethodName := ⟨RX6, "layRow", "(III)V"⟩
abbrev cX6_ofDispute : ByteArray := prog_8_method_11_code
def yX6_ofDispute : MethodName := ⟨RX6, "ofDispute", "(II)I"⟩
abbrev cX6_placeOf : ByteArray := prog_8_method_12_code
def yX6_placeOf : MethodName := ⟨RX6, "placeOf", "(I)I"⟩
abbrev cX6_records : ByteArray := prog_8_method_13_code
def yX6_records : MethodName := ⟨RX6, "records", "()V"⟩
abbrev cX6_drier : ByteArray := prog_8_method_14_code
def yX6_drier : MethodName := ⟨RX6, "drier", "(II)I"⟩
abbrev cX6_weathers : ByteArray := prog_8_method_15_code
def yX6_weathers : MethodName := ⟨RX6, "weathers", "(I)V"⟩
abbrev cX6_brings : ByteArray := prog_8_method_16_code
def yX6_brings : MethodName := ⟨RX6, "brings", "(I)I"⟩
abbrev cX6_leaves : ByteArray := prog_8_method_17_code
def yX6_leaves : MethodName := ⟨RX6, "leaves", "(I)V"⟩
abbrev cX6_nextFor : ByteArray := prog_8_method_18_code
def yX6_nextFor : MethodName := ⟨RX6, "nextFor", "(I)I"⟩
abbrev cX6_serves : ByteArray := prog_8_method_19_code
def yX6_serves : MethodName := ⟨RX6, "serves", "(I)I"⟩
abbrev cX6_passes : ByteArray := prog_8_method_20_code
def yX6_passes : MethodName := ⟨RX6, "passes", "(I)I"⟩
abbrev cX6_lend : ByteArray := prog_8_method_21_code
def yX6_lend : MethodName := ⟨RX6, "lend", "(II)I"⟩
abbrev cX6_handOver : ByteArray := prog_8_method_22_code
def yX6_handOver : MethodName := ⟨RX6, "handOver", "(II)I"⟩
abbrev cX6_setDays : ByteArray := prog_8_method_23_code
def yX6_setDays : MethodName := ⟨RX6, "setDays", "(II)I"⟩
abbrev cX6_set : ByteArray := prog_8_method_24_code
def yX6_set : MethodName := ⟨RX6, "set", "(II)I"⟩
abbrev cX6_hasRight : ByteArray := prog_8_method_25_code
def yX6_hasRight : MethodName := ⟨RX6, "hasRight", "(II)Z"⟩
abbrev cX6_reason : ByteArray := prog_8_method_26_code
def yX6_reason : MethodName := ⟨RX6, "reason", "(II)I"⟩
abbrev cX6_opensDispute : ByteArray := prog_8_method_27_code
def yX6_opensDispute : MethodName := ⟨RX6, "opensDispute", "(III)V"⟩
abbrev cX6_cut : ByteArray := prog_8_method_28_code
def yX6_cut : MethodName := ⟨RX6, "cut", "(II)I"⟩
abbrev cX6_turn : ByteArray := prog_8_method_29_code
def yX6_turn : MethodName := ⟨RX6, "turn", "(I)I"⟩
abbrev cX6_rowsOf : ByteArray := prog_8_method_30_code
def yX6_rowsOf : MethodName := ⟨RX6, "rowsOf", "(IZ)I"⟩
abbrev cX6_stack : ByteArray := prog_8_method_31_code
def yX6_stack : MethodName := ⟨RX6, "stack", "(I)I"⟩
abbrev cX6_pass : ByteArray := prog_8_method_32_code
def yX6_pass : MethodName := ⟨RX6, "pass", "(I)I"⟩
abbrev cX6_passAll : ByteArray := prog_8_method_33_code
def yX6_passAll : MethodName := ⟨RX6, "passAll", "()I"⟩
abbrev cX6_dropsOldest : ByteArray := prog_8_method_34_code
def yX6_dropsOldest : MethodName := ⟨RX6, "dropsOldest", "()V"⟩
abbrev cX6_settle : ByteArray := prog_8_method_35_code
def yX6_settle : MethodName := ⟨RX6, "settle", "()I"⟩
abbrev cX6_endYear : ByteArray := prog_8_method_36_code
def yX6_endYear : MethodName := ⟨RX6, "endYear", "()I"⟩
abbrev cX6_type : ByteArray := prog_8_method_37_code
def yX6_type : MethodName := ⟨RX6, "type", "(C)I"⟩
abbrev cX6_clearText : ByteArray := prog_8_method_38_code
def yX6_clearText : MethodName := ⟨RX6, "clearText", "()I"⟩
abbrev cX6_sign : ByteArray := prog_8_method_39_code
def yX6_sign : MethodName := ⟨RX6, "sign", "()I"⟩
abbrev cX6_number : ByteArray := prog_8_method_40_code
def yX6_number : MethodName := ⟨RX6, "number", "()I"⟩
abbrev cX6_readsGroup : ByteArray := prog_8_method_41_code
def yX6_readsGroup : MethodName := ⟨RX6, "readsGroup", "()V"⟩
abbrev cX6_reads : ByteArray := prog_8_method_42_code
def yX6_reads : MethodName := ⟨RX6, "reads", "()I"⟩
abbrev cX6_undo : ByteArray := prog_8_method_43_code
def yX6_undo : MethodName := ⟨RX6, "undo", "()I"⟩
abbrev cX6_keep : ByteArray := prog_8_method_44_code
def yX6_keep : MethodName := ⟨RX6, "keep", "()I"⟩
abbrev cX6_restore : ByteArray := prog_8_method_45_code
def yX6_restore : MethodName := ⟨RX6, "restore", "()I"⟩
abbrev cX6_plotsOf : ByteArray := prog_8_method_46_code
def yX6_plotsOf : MethodName := ⟨RX6, "plotsOf", "(II)I"⟩
abbrev cX6_disputesOf : ByteArray := prog_8_method_47_code
def yX6_disputesOf : MethodName := ⟨RX6, "disputesOf", "(I)I"⟩
abbrev cX6_commoner : ByteArray := prog_8_method_48_code
def yX6_commoner : MethodName := ⟨RX6, "commoner", "(II)I"⟩
abbrev cX6_plot : ByteArray := prog_8_method_49_code
def yX6_plot : MethodName := ⟨RX6, "plot", "(II)I"⟩
abbrev cX6_row : ByteArray := prog_8_method_50_code
def yX6_row : MethodName := ⟨RX6, "row", "(II)I"⟩
abbrev cX6_ahead : ByteArray := prog_8_method_51_code
def yX6_ahead : MethodName := ⟨RX6, "ahead", "(I)I"⟩
abbrev cX6_driest : ByteArray := prog_8_method_52_code
def yX6_driest : MethodName := ⟨RX6, "driest", "(II)I"⟩
abbrev cX6_why : ByteArray := prog_8_method_53_code
def yX6_why : MethodName := ⟨RX6, "why", "(II)I"⟩
abbrev cX6_dispute : ByteArray := prog_8_method_54_code
def yX6_dispute : MethodName := ⟨RX6, "dispute", "(II)I"⟩
abbrev cX6_cart : ByteArray := prog_8_method_55_code
def yX6_cart : MethodName := ⟨RX6, "cart", "(I)I"⟩
abbrev cX6_would : ByteArray := prog_8_method_56_code
def yX6_would : MethodName := ⟨RX6, "would", "(II)I"⟩
abbrev cX6_rowsThat : ByteArray := prog_8_method_57_code
def yX6_rowsThat : MethodName := ⟨RX6, "rowsThat", "(I)I"⟩
abbrev cX6_allPeats : ByteArray := prog_8_method_58_code
def yX6_allPeats : MethodName := ⟨RX6, "allPeats", "()I"⟩
abbrev cX6_allLayers : ByteArray := prog_8_method_59_code
def yX6_allLayers : MethodName := ⟨RX6, "allLayers", "()I"⟩
abbrev cX6_count : ByteArray := prog_8_method_60_code
def yX6_count : MethodName := ⟨RX6, "count", "(I)I"⟩
def RJ9 : String := "java/lang/Math"
def TJ9 : u_T := fun k => match k with
  | _ => ("", "", "", false)
def tyJ9 : Nat → FieldType := fun k => match k with
  | _ => .int
abbrev cJ9_max_7cf53 : ByteArray := prog_9_method_65_code
def yJ9_max_7cf53 : MethodName := ⟨RJ9, "max", "(II)I"⟩
abbrev cJ9_min_7cf53 : ByteArray := prog_9_method_69_code
def yJ9_min_7cf53 : MethodName := ⟨RJ9, "min", "(II)I"⟩
def RJ10 : String := "java/lang/System"
def TJ10 : u_T := fun k => match k with
  | _ => ("", "", "", false)
def tyJ10 : Nat → FieldType := fun k => match k with
  | _ => .int
def RL : String := "PeatBanksLaw"
abbrev cL_law : ByteArray := code
def yL_law : MethodName := ⟨RL, "law", "([I)Z"⟩
abbrev vwCl : List vw_C := [(RX0, TX0, 5), (RX1, TX1, 6), (RX2, TX2, 5), (RX3, TX3, 14), (RX4, TX4, 7), (RX5, TX5, 6), (RX6, TX6, 13)]
/-! the words of the tables that a method may carry; a method's own word list is its code and all of them -/
theorem goodIn_app {big a b : List Cond} (ha : GoodIn big a) (hb : GoodIn big b) : GoodIn big (a ++ b) := fun w h => (List.mem_append.mp h).elim (ha w) (hb w)
def wsG : List Cond := lw_tbl.filter goodWord
theorem kG {w : Cond} (n : Nat) (h : lw_tbl[n]? = some w) (g : goodWord w = true) : w ∈ wsG := List.mem_filter.mpr ⟨List.mem_of_getElem? h, g⟩
theorem wsG_in : ∀ w ∈ wsG, w ∈ lw_tbl := fun _ h => (List.mem_filter.mp h).1
theorem wsG_good : ∀ w ∈ wsG, (w.onTables && w.keeps) = true ∨ ∃ ty, w = .arrayClass ty := fun _ h => good_of_word (List.mem_filter.mp h).2
def wU (y : MethodName) (cc : ByteArray) (n : Nat) (ret : Option FieldType) : List Cond := .code y cc n ret :: wsG
theorem wU_in {y : MethodName} {cc : ByteArray} {n : Nat} {ret : Option FieldType} {w : Cond} (h : w ∈ wsG) : w ∈ wU y cc n ret := List.mem_cons_of_mem _ h
theorem gU {Ts : List Cond} (hT : ∀ w ∈ wsG, w ∈ Ts) {y : MethodName} {cc : ByteArray} {n : Nat} {ret : Option FieldType} (h : Cond.code y cc n ret ∈ wsG) : GoodIn Ts (wU y cc n ret) := by
  intro w hw
  rcases List.mem_cons.mp hw with rfl | hw
  · exact ⟨hT _ h, wsG_good _ h⟩
  · exact ⟨hT _ hw, wsG_good _ hw⟩
theorem gV {Ts : List Cond} (hT : ∀ w ∈ wsG, w ∈ Ts) {own C : String} {idx : Nat} {y : MethodName} {cc : ByteArray} {n : Nat} {ret : Option FieldType} (h1 : Cond.methodLink own idx y ∈ wsG) (h2 : Cond.instanceMethod y ∈ wsG) (h3 : Cond.selects C y y ∈ wsG) (h4 : Cond.initialized C ∈ wsG) (h : Cond.code y cc n ret ∈ wsG) : GoodIn Ts (wsV own idx C y (wU y cc n ret)) := by
  refine goodIn_app (fun w hw => ?_) (gU hT h)
  have hw : w ∈ wsG := by
    simp only [List.mem_cons, List.not_mem_nil, or_false] at hw
    rcases hw with rfl | rfl | rfl | rfl <;> assumption
  exact ⟨hT _ hw, wsG_good _ hw⟩
theorem gS {Ts : List Cond} (hT : ∀ w ∈ wsG, w ∈ Ts) {own : String} {idx : Nat} {y : MethodName} {cc : ByteArray} {n : Nat} {ret : Option FieldType} (h1 : Cond.methodLink own idx y ∈ wsG) (h2 : Cond.static y ∈ wsG) (h4 : Cond.initialized y.cls ∈ wsG) (h : Cond.code y cc n ret ∈ wsG) : GoodIn Ts (va_wsS own idx y (wU y cc n ret)) := by
  refine goodIn_app (fun w hw => ?_) (gU hT h)
  have hw : w ∈ wsG := by
    simp only [List.mem_cons, List.not_mem_nil, or_false] at hw
    rcases hw with rfl | rfl | rfl <;> assumption
  exact ⟨hT _ hw, wsG_good _ hw⟩
theorem hiX0 : ∀ w ∈ u_ws RX0 TX0 5, w ∈ wsG := fun w h => List.mem_filter.mpr ((show ∀ w ∈ u_ws RX0 TX0 5, w ∈ lw_tbl ∧ goodWord w = true from by decide +kernel) w h)
theorem hiX1 : ∀ w ∈ u_ws RX1 TX1 6, w ∈ wsG := fun w h => List.mem_filter.mpr ((show ∀ w ∈ u_ws RX1 TX1 6, w ∈ lw_tbl ∧ goodWord w = true from by decide +kernel) w h)
theorem hiX2 : ∀ w ∈ u_ws RX2 TX2 5, w ∈ wsG := fun w h => List.mem_filter.mpr ((show ∀ w ∈ u_ws RX2 TX2 5, w ∈ lw_tbl ∧ goodWord w = true from by decide +kernel) w h)
theorem hiX3 : ∀ w ∈ u_ws RX3 TX3 14, w ∈ wsG := fun w h => List.mem_filter.mpr ((show ∀ w ∈ u_ws RX3 TX3 14, w ∈ lw_tbl ∧ goodWord w = true from by decide +kernel) w h)
theorem hiX4 : ∀ w ∈ u_ws RX4 TX4 7, w ∈ wsG := fun w h => List.mem_filter.mpr ((show ∀ w ∈ u_ws RX4 TX4 7, w ∈ lw_tbl ∧ goodWord w = true from by decide +kernel) w h)
theorem hiX5 : ∀ w ∈ u_ws RX5 TX5 6, w ∈ wsG := fun w h => List.mem_filter.mpr ((show ∀ w ∈ u_ws RX5 TX5 6, w ∈ lw_tbl ∧ goodWord w = true from by decide +kernel) w h)
theorem hiX6 : ∀ w ∈ u_ws RX6 TX6 13, w ∈ wsG := fun w h => List.mem_filter.mpr ((show ∀ w ∈ u_ws RX6 TX6 13, w ∈ lw_tbl ∧ goodWord w = true from by decide +kernel) w h)
end
section
theorem kn_L : Cond.initialized RL ∈ wsG := kG 39 (by decide +kernel) (by decide +kernel)
theorem kn_X5 : Cond.initialized RX5 ∈ wsG := kG 40 (by decide +kernel) (by decide +kernel)
theorem kn_X3 : Cond.initialized RX3 ∈ wsG := kG 41 (by decide +kernel) (by decide +kernel)
theorem kn_X4 : Cond.initialized RX4 ∈ wsG := kG 42 (by decide +kernel) (by decide +kernel)
theorem kn_X1 : Cond.initialized RX1 ∈ wsG := kG 43 (by decide +kernel) (by decide +kernel)
theorem kn_X2 : Cond.initialized RX2 ∈ wsG := kG 44 (by decide +kernel) (by decide +kernel)
theorem kn_X0 : Cond.initialized RX0 ∈ wsG := kG 45 (by decide +kernel) (by decide +kernel)
theorem kn_X6 : Cond.initialized RX6 ∈ wsG := kG 46 (by decide +kernel) (by decide +kernel)
theorem kn_J9 : Cond.initialized RJ9 ∈ wsG := kG 47 (by decide +kernel) (by decide +kernel)
theorem kn_J10 : Cond.initialized RJ10 ∈ wsG := kG 48 (by decide +kernel) (by decide +kernel)
theorem kl_L_7 : Cond.classLink RL 7 RX5 ∈ wsG := kG 49 (by decide +kernel) (by decide +kernel)
theorem kt_X5 : Cond.instantiable RX5 6 ∈ wsG := kG 50 (by decide +kernel) (by decide +kernel)
theorem km_L_9 : Cond.methodLink RL 9 yX5_init ∈ wsG := kG 51 (by decide +kernel) (by decide +kernel)
theorem ki_X5_init : Cond.instanceMethod yX5_init ∈ wsG := kG 52 (by decide +kernel) (by decide +kernel)
theorem kc_X5_init : Cond.code yX5_init cX5_init 1 none ∈ wsG := kG 53 (by decide +kernel) (by decide +kernel)
theorem km_X5_3 : Cond.methodLink RX5 3 objectInit ∈ wsG := kG 54 (by decide +kernel) (by decide +kernel)
theorem ki_objectInit : Cond.instanceMethod objectInit ∈ wsG := kG 55 (by decide +kernel) (by decide +kernel)
theorem kc_objectInit : Cond.code objectInit ⟨#[0xb1]⟩ 1 none ∈ wsG := kG 56 (by decide +kernel) (by decide +kernel)
theorem kl_X5_9 : Cond.classLink RX5 9 RX3 ∈ wsG := kG 57 (by decide +kernel) (by decide +kernel)
theorem kt_X3 : Cond.instantiable RX3 14 ∈ wsG := kG 58 (by decide +kernel) (by decide +kernel)
theorem km_X5_11 : Cond.methodLink RX5 11 yX3_init ∈ wsG := kG 59 (by decide +kernel) (by decide +kernel)
theorem ki_X3_init : Cond.instanceMethod yX3_init ∈ wsG := kG 60 (by decide +kernel) (by decide +kernel)
theorem kc_X3_init : Cond.code yX3_init cX3_init 2 none ∈ wsG := kG 61 (by decide +kernel) (by decide +kernel)
theorem km_X3_3 : Cond.methodLink RX3 3 objectInit ∈ wsG := kG 62 (by decide +kernel) (by decide +kernel)
theorem kl_X3_30 : Cond.classLink RX3 30 RX4 ∈ wsG := kG 63 (by decide +kernel) (by decide +kernel)
theorem kt_X4 : Cond.instantiable RX4 7 ∈ wsG := kG 64 (by decide +kernel) (by decide +kernel)
theorem km_X3_32 : Cond.methodLink RX3 32 yX4_init ∈ wsG := kG 65 (by decide +kernel) (by decide +kernel)
theorem ki_X4_init : Cond.instanceMethod yX4_init ∈ wsG := kG 66 (by decide +kernel) (by decide +kernel)
theorem kc_X4_init : Cond.code yX4_init cX4_init 1 none ∈ wsG := kG 67 (by decide +kernel) (by decide +kernel)
theorem km_X4_3 : Cond.methodLink RX4 3 objectInit ∈ wsG := kG 68 (by decide +kernel) (by decide +kernel)
theorem kf_X4_9 : Cond.fieldLink RX4 9 "PeatBanks$Rows" "owner" "[I" ∈ wsG := kG 69 (by decide +kernel) (by decide +kernel)
theorem kf_X5_109 : Cond.fieldLink RX5 109 "PeatBanks$Rows" "owner" "[I" ∈ wsG := kG 70 (by decide +kernel) (by decide +kernel)
theorem kf_X3_142 : Cond.fieldLink RX3 142 "PeatBanks$Rows" "owner" "[I" ∈ wsG := kG 71 (by decide +kernel) (by decide +kernel)
theorem kf_X4_15 : Cond.fieldLink RX4 15 "PeatBanks$Rows" "plot" "[I" ∈ wsG := kG 72 (by decide +kernel) (by decide +kernel)
theorem kf_X5_192 : Cond.fieldLink RX5 192 "PeatBanks$Rows" "plot" "[I" ∈ wsG := kG 73 (by decide +kernel) (by decide +kernel)
theorem kf_X4_18 : Cond.fieldLink RX4 18 "PeatBanks$Rows" "wetness" "[I" ∈ wsG := kG 74 (by decide +kernel) (by decide +kernel)
theorem kf_X5_103 : Cond.fieldLink RX5 103 "PeatBanks$Rows" "wetness" "[I" ∈ wsG := kG 75 (by decide +kernel) (by decide +kernel)
theorem kf_X4_21 : Cond.fieldLink RX4 21 "PeatBanks$Rows" "turned" "[Z" ∈ wsG := kG 76 (by decide +kernel) (by decide +kernel)
theorem kf_X5_100 : Cond.fieldLink RX5 100 "PeatBanks$Rows" "turned" "[Z" ∈ wsG := kG 77 (by decide +kernel) (by decide +kernel)
theorem kf_X4_25 : Cond.fieldLink RX4 25 "PeatBanks$Rows" "stacked" "[Z" ∈ wsG := kG 78 (by decide +kernel) (by decide +kernel)
theorem kf_X5_96 : Cond.fieldLink RX5 96 "PeatBanks$Rows" "stacked" "[Z" ∈ wsG := kG 79 (by decide +kernel) (by decide +kernel)
theorem kf_X4_28 : Cond.fieldLink RX4 28 "PeatBanks$Rows" "lying" "[Z" ∈ wsG := kG 80 (by decide +kernel) (by decide +kernel)
theorem kf_X3_120 : Cond.fieldLink RX3 120 "PeatBanks$Rows" "lying" "[Z" ∈ wsG := kG 81 (by decide +kernel) (by decide +kernel)
theorem kf_X4_39 : Cond.fieldLink RX4 39 "PeatBanks$Rows" "soFar" "I" ∈ wsG := kG 82 (by decide +kernel) (by decide +kernel)
theorem kf_X5_223 : Cond.fieldLink RX5 223 "PeatBanks$Rows" "soFar" "I" ∈ wsG := kG 83 (by decide +kernel) (by decide +kernel)
theorem ka_int : Cond.arrayClass .int ∈ wsG := kG 99 (by decide +kernel) (by decide +kernel)
theorem ka_boolean : Cond.arrayClass .boolean ∈ wsG := kG 100 (by decide +kernel) (by decide +kernel)
theorem kl_X3_37 : Cond.classLink RX3 37 RX1 ∈ wsG := kG 101 (by decide +kernel) (by decide +kernel)
theorem kt_X1 : Cond.instantiable RX1 6 ∈ wsG := kG 102 (by decide +kernel) (by decide +kernel)
theorem km_X3_39 : Cond.methodLink RX3 39 yX1_init ∈ wsG := kG 103 (by decide +kernel) (by decide +kernel)
theorem ki_X1_init : Cond.instanceMethod yX1_init ∈ wsG := kG 104 (by decide +kernel) (by decide +kernel)
theorem kc_X1_init : Cond.code yX1_init cX1_init 1 none ∈ wsG := kG 105 (by decide +kernel) (by decide +kernel)
theorem km_X1_3 : Cond.methodLink RX1 3 objectInit ∈ wsG := kG 106 (by decide +kernel) (by decide +kernel)
theorem kf_X1_9 : Cond.fieldLink RX1 9 "PeatBanks$Disputes" "cutter" "[I" ∈ wsG := kG 107 (by decide +kernel) (by decide +kernel)
theorem kf_X3_130 : Cond.fieldLink RX3 130 "PeatBanks$Disputes" "cutter" "[I" ∈ wsG := kG 108 (by decide +kernel) (by decide +kernel)
theorem kf_X5_204 : Cond.fieldLink RX5 204 "PeatBanks$Disputes" "cutter" "[I" ∈ wsG := kG 109 (by decide +kernel) (by decide +kernel)
theorem kf_X1_15 : Cond.fieldLink RX1 15 "PeatBanks$Disputes" "wronged" "[I" ∈ wsG := kG 110 (by decide +kernel) (by decide +kernel)
theorem kf_X3_136 : Cond.fieldLink RX3 136 "PeatBanks$Disputes" "wronged" "[I" ∈ wsG := kG 111 (by decide +kernel) (by decide +kernel)
theorem kf_X5_207 : Cond.fieldLink RX5 207 "PeatBanks$Disputes" "wronged" "[I" ∈ wsG := kG 112 (by decide +kernel) (by decide +kernel)
theorem kf_X1_18 : Cond.fieldLink RX1 18 "PeatBanks$Disputes" "row" "[I" ∈ wsG := kG 113 (by decide +kernel) (by decide +kernel)
theorem kf_X3_139 : Cond.fieldLink RX3 139 "PeatBanks$Disputes" "row" "[I" ∈ wsG := kG 114 (by decide +kernel) (by decide +kernel)
theorem kf_X5_210 : Cond.fieldLink RX5 210 "PeatBanks$Disputes" "row" "[I" ∈ wsG := kG 115 (by decide +kernel) (by decide +kernel)
theorem kf_X1_21 : Cond.fieldLink RX1 21 "PeatBanks$Disputes" "plot" "[I" ∈ wsG := kG 116 (by decide +kernel) (by decide +kernel)
theorem kf_X5_213 : Cond.fieldLink RX5 213 "PeatBanks$Disputes" "plot" "[I" ∈ wsG := kG 117 (by decide +kernel) (by decide +kernel)
theorem kf_X1_28 : Cond.fieldLink RX1 28 "PeatBanks$Disputes" "settled" "I" ∈ wsG := kG 118 (by decide +kernel) (by decide +kernel)
theorem kf_X3_127 : Cond.fieldLink RX3 127 "PeatBanks$Disputes" "settled" "I" ∈ wsG := kG 119 (by decide +kernel) (by decide +kernel)
theorem kf_X5_201 : Cond.fieldLink RX5 201 "PeatBanks$Disputes" "settled" "I" ∈ wsG := kG 120 (by decide +kernel) (by decide +kernel)
theorem kf_X1_32 : Cond.fieldLink RX1 32 "PeatBanks$Disputes" "soFar" "I" ∈ wsG := kG 121 (by decide +kernel) (by decide +kernel)
theorem kf_X3_157 : Cond.fieldLink RX3 157 "PeatBanks$Disputes" "soFar" "I" ∈ wsG := kG 122 (by decide +kernel) (by decide +kernel)
theorem kf_X5_239 : Cond.fieldLink RX5 239 "PeatBanks$Disputes" "soFar" "I" ∈ wsG := kG 123 (by decide +kernel) (by decide +kernel)
theorem kf_X3_9 : Cond.fieldLink RX3 9 "PeatBanks$Moss" "layers" "[I" ∈ wsG := kG 137 (by decide +kernel) (by decide +kernel)
theorem kf_X5_185 : Cond.fieldLink RX5 185 "PeatBanks$Moss" "layers" "[I" ∈ wsG := kG 138 (by decide +kernel) (by decide +kernel)
theorem kf_X3_15 : Cond.fieldLink RX3 15 "PeatBanks$Moss" "owners" "[I" ∈ wsG := kG 139 (by decide +kernel) (by decide +kernel)
theorem kf_X5_55 : Cond.fieldLink RX5 55 "PeatBanks$Moss" "owners" "[I" ∈ wsG := kG 140 (by decide +kernel) (by decide +kernel)
theorem kf_X3_18 : Cond.fieldLink RX3 18 "PeatBanks$Moss" "rights" "[I" ∈ wsG := kG 141 (by decide +kernel) (by decide +kernel)
theorem kf_X5_47 : Cond.fieldLink RX5 47 "PeatBanks$Moss" "rights" "[I" ∈ wsG := kG 142 (by decide +kernel) (by decide +kernel)
theorem kf_X3_21 : Cond.fieldLink RX3 21 "PeatBanks$Moss" "days" "[I" ∈ wsG := kG 143 (by decide +kernel) (by decide +kernel)
theorem kf_X5_62 : Cond.fieldLink RX5 62 "PeatBanks$Moss" "days" "[I" ∈ wsG := kG 144 (by decide +kernel) (by decide +kernel)
theorem kf_X3_24 : Cond.fieldLink RX3 24 "PeatBanks$Moss" "used" "[I" ∈ wsG := kG 145 (by decide +kernel) (by decide +kernel)
theorem kf_X5_169 : Cond.fieldLink RX5 169 "PeatBanks$Moss" "used" "[I" ∈ wsG := kG 146 (by decide +kernel) (by decide +kernel)
theorem kf_X3_27 : Cond.fieldLink RX3 27 "PeatBanks$Moss" "hearths" "[I" ∈ wsG := kG 147 (by decide +kernel) (by decide +kernel)
theorem kf_X5_172 : Cond.fieldLink RX5 172 "PeatBanks$Moss" "hearths" "[I" ∈ wsG := kG 148 (by decide +kernel) (by decide +kernel)
theorem kf_X3_33 : Cond.fieldLink RX3 33 "PeatBanks$Moss" "rows" "LPeatBanks$Rows;" ∈ wsG := kG 149 (by decide +kernel) (by decide +kernel)
theorem kf_X5_80 : Cond.fieldLink RX5 80 "PeatBanks$Moss" "rows" "LPeatBanks$Rows;" ∈ wsG := kG 150 (by decide +kernel) (by decide +kernel)
theorem kf_X3_40 : Cond.fieldLink RX3 40 "PeatBanks$Moss" "disputes" "LPeatBanks$Disputes;" ∈ wsG := kG 151 (by decide +kernel) (by decide +kernel)
theorem kf_X5_135 : Cond.fieldLink RX5 135 "PeatBanks$Moss" "disputes" "LPeatBanks$Disputes;" ∈ wsG := kG 152 (by decide +kernel) (by decide +kernel)
theorem kf_X3_44 : Cond.fieldLink RX3 44 "PeatBanks$Moss" "cartRows" "I" ∈ wsG := kG 153 (by decide +kernel) (by decide +kernel)
theorem kf_X5_69 : Cond.fieldLink RX5 69 "PeatBanks$Moss" "cartRows" "I" ∈ wsG := kG 154 (by decide +kernel) (by decide +kernel)
theorem kf_X3_59 : Cond.fieldLink RX3 59 "PeatBanks$Moss" "stakes" "I" ∈ wsG := kG 155 (by decide +kernel) (by decide +kernel)
theorem kf_X5_73 : Cond.fieldLink RX5 73 "PeatBanks$Moss" "stakes" "I" ∈ wsG := kG 156 (by decide +kernel) (by decide +kernel)
theorem kf_X3_62 : Cond.fieldLink RX3 62 "PeatBanks$Moss" "rota" "I" ∈ wsG := kG 157 (by decide +kernel) (by decide +kernel)
theorem kf_X3_65 : Cond.fieldLink RX3 65 "PeatBanks$Moss" "dayOfYear" "I" ∈ wsG := kG 158 (by decide +kernel) (by decide +kernel)
theorem kf_X5_217 : Cond.fieldLink RX5 217 "PeatBanks$Moss" "dayOfYear" "I" ∈ wsG := kG 159 (by decide +kernel) (by decide +kernel)
theorem kf_X3_68 : Cond.fieldLink RX3 68 "PeatBanks$Moss" "years" "I" ∈ wsG := kG 160 (by decide +kernel) (by decide +kernel)
theorem kf_X5_220 : Cond.fieldLink RX5 220 "PeatBanks$Moss" "years" "I" ∈ wsG := kG 161 (by decide +kernel) (by decide +kernel)
theorem kf_X3_71 : Cond.fieldLink RX3 71 "PeatBanks$Moss" "rowsHome" "I" ∈ wsG := kG 162 (by decide +kernel) (by decide +kernel)
theorem kf_X5_232 : Cond.fieldLink RX5 232 "PeatBanks$Moss" "rowsHome" "I" ∈ wsG := kG 163 (by decide +kernel) (by decide +kernel)
theorem kl_X5_22 : Cond.classLink RX5 22 RX2 ∈ wsG := kG 193 (by decide +kernel) (by decide +kernel)
theorem kt_X2 : Cond.instantiable RX2 5 ∈ wsG := kG 194 (by decide +kernel) (by decide +kernel)
theorem km_X5_24 : Cond.methodLink RX5 24 yX2_init ∈ wsG := kG 195 (by decide +kernel) (by decide +kernel)
theorem ki_X2_init : Cond.instanceMethod yX2_init ∈ wsG := kG 196 (by decide +kernel) (by decide +kernel)
theorem kc_X2_init : Cond.code yX2_init cX2_init 1 none ∈ wsG := kG 197 (by decide +kernel) (by decide +kernel)
theorem km_X2_3 : Cond.methodLink RX2 3 objectInit ∈ wsG := kG 198 (by decide +kernel) (by decide +kernel)
theorem kl_X2_9 : Cond.classLink RX2 9 RX3 ∈ wsG := kG 199 (by decide +kernel) (by decide +kernel)
theorem km_X2_11 : Cond.methodLink RX2 11 yX3_init ∈ wsG := kG 200 (by decide +kernel) (by decide +kernel)
theorem kf_X2_12 : Cond.fieldLink RX2 12 "PeatBanks$History" "latest" "LPeatBanks$Moss;" ∈ wsG := kG 201 (by decide +kernel) (by decide +kernel)
theorem kf_X2_18 : Cond.fieldLink RX2 18 "PeatBanks$History" "second" "LPeatBanks$Moss;" ∈ wsG := kG 202 (by decide +kernel) (by decide +kernel)
theorem kf_X2_21 : Cond.fieldLink RX2 21 "PeatBanks$History" "third" "LPeatBanks$Moss;" ∈ wsG := kG 203 (by decide +kernel) (by decide +kernel)
theorem kf_X2_24 : Cond.fieldLink RX2 24 "PeatBanks$History" "oldest" "LPeatBanks$Moss;" ∈ wsG := kG 204 (by decide +kernel) (by decide +kernel)
theorem kf_X2_31 : Cond.fieldLink RX2 31 "PeatBanks$History" "states" "I" ∈ wsG := kG 205 (by decide +kernel) (by decide +kernel)
theorem kf_X5_157 : Cond.fieldLink RX5 157 "PeatBanks$History" "states" "I" ∈ wsG := kG 206 (by decide +kernel) (by decide +kernel)
theorem kl_X5_29 : Cond.classLink RX5 29 RX0 ∈ wsG := kG 218 (by decide +kernel) (by decide +kernel)
theorem kt_X0 : Cond.instantiable RX0 5 ∈ wsG := kG 219 (by decide +kernel) (by decide +kernel)
theorem km_X5_31 : Cond.methodLink RX5 31 yX0_init ∈ wsG := kG 220 (by decide +kernel) (by decide +kernel)
theorem ki_X0_init : Cond.instanceMethod yX0_init ∈ wsG := kG 221 (by decide +kernel) (by decide +kernel)
theorem kc_X0_init : Cond.code yX0_init cX0_init 1 none ∈ wsG := kG 222 (by decide +kernel) (by decide +kernel)
theorem km_X0_3 : Cond.methodLink RX0 3 objectInit ∈ wsG := kG 223 (by decide +kernel) (by decide +kernel)
theorem kf_X0_9 : Cond.fieldLink RX0 9 "PeatBanks$DayText" "characters" "[C" ∈ wsG := kG 224 (by decide +kernel) (by decide +kernel)
theorem kf_X0_22 : Cond.fieldLink RX0 22 "PeatBanks$DayText" "length" "I" ∈ wsG := kG 225 (by decide +kernel) (by decide +kernel)
theorem kf_X5_154 : Cond.fieldLink RX5 154 "PeatBanks$DayText" "length" "I" ∈ wsG := kG 226 (by decide +kernel) (by decide +kernel)
theorem kf_X0_15 : Cond.fieldLink RX0 15 "PeatBanks$DayText" "groupWeather" "[I" ∈ wsG := kG 227 (by decide +kernel) (by decide +kernel)
theorem kf_X5_132 : Cond.fieldLink RX5 132 "PeatBanks$DayText" "groupWeather" "[I" ∈ wsG := kG 228 (by decide +kernel) (by decide +kernel)
theorem kf_X0_19 : Cond.fieldLink RX0 19 "PeatBanks$DayText" "groupDays" "[I" ∈ wsG := kG 229 (by decide +kernel) (by decide +kernel)
theorem kf_X5_129 : Cond.fieldLink RX5 129 "PeatBanks$DayText" "groupDays" "[I" ∈ wsG := kG 230 (by decide +kernel) (by decide +kernel)
theorem kf_X0_26 : Cond.fieldLink RX0 26 "PeatBanks$DayText" "groups" "I" ∈ wsG := kG 231 (by decide +kernel) (by decide +kernel)
theorem kf_X5_126 : Cond.fieldLink RX5 126 "PeatBanks$DayText" "groups" "I" ∈ wsG := kG 232 (by decide +kernel) (by decide +kernel)
theorem ka_char : Cond.arrayClass .char ∈ wsG := kG 244 (by decide +kernel) (by decide +kernel)
theorem kf_X5_12 : Cond.fieldLink RX5 12 "PeatBanks" "now" "LPeatBanks$Moss;" ∈ wsG := kG 245 (by decide +kernel) (by decide +kernel)
theorem kf_X5_16 : Cond.fieldLink RX5 16 "PeatBanks" "kept" "LPeatBanks$Moss;" ∈ wsG := kG 246 (by decide +kernel) (by decide +kernel)
theorem kf_X5_19 : Cond.fieldLink RX5 19 "PeatBanks" "trial" "LPeatBanks$Moss;" ∈ wsG := kG 247 (by decide +kernel) (by decide +kernel)
theorem kf_X5_25 : Cond.fieldLink RX5 25 "PeatBanks" "history" "LPeatBanks$History;" ∈ wsG := kG 248 (by decide +kernel) (by decide +kernel)
theorem kf_X5_32 : Cond.fieldLink RX5 32 "PeatBanks" "text" "LPeatBanks$DayText;" ∈ wsG := kG 249 (by decide +kernel) (by decide +kernel)
theorem kf_X5_36 : Cond.fieldLink RX5 36 "PeatBanks" "hasKept" "Z" ∈ wsG := kG 250 (by decide +kernel) (by decide +kernel)
theorem km_L_13 : Cond.methodLink RL 13 yX5_lend ∈ wsG := kG 264 (by decide +kernel) (by decide +kernel)
theorem ki_X5_lend : Cond.instanceMethod yX5_lend ∈ wsG := kG 265 (by decide +kernel) (by decide +kernel)
theorem ke_X5_lend : Cond.selects RX5 yX5_lend yX5_lend ∈ wsG := kG 266 (by decide +kernel) (by decide +kernel)
theorem kc_X5_lend : Cond.code yX5_lend cX5_lend 4 (some .int) ∈ wsG := kG 267 (by decide +kernel) (by decide +kernel)
theorem km_X5_40 : Cond.methodLink RX5 40 yX5_isPlot ∈ wsG := kG 268 (by decide +kernel) (by decide +kernel)
theorem ks_X5_isPlot : Cond.static yX5_isPlot ∈ wsG := kG 269 (by decide +kernel) (by decide +kernel)
theorem kc_X5_isPlot : Cond.code yX5_isPlot cX5_isPlot 1 (some .boolean) ∈ wsG := kG 270 (by decide +kernel) (by decide +kernel)
theorem km_X5_58 : Cond.methodLink RX5 58 yX5_isWithin ∈ wsG := kG 271 (by decide +kernel) (by decide +kernel)
theorem ks_X5_isWithin : Cond.static yX5_isWithin ∈ wsG := kG 272 (by decide +kernel) (by decide +kernel)
theorem kc_X5_isWithin : Cond.code yX5_isWithin cX5_isWithin 3 (some .boolean) ∈ wsG := kG 273 (by decide +kernel) (by decide +kernel)
theorem km_X5_44 : Cond.methodLink RX5 44 yX5_isCommoner ∈ wsG := kG 274 (by decide +kernel) (by decide +kernel)
theorem ks_X5_isCommoner : Cond.static yX5_isCommoner ∈ wsG := kG 275 (by decide +kernel) (by decide +kernel)
theorem kc_X5_isCommoner : Cond.code yX5_isCommoner cX5_isCommoner 1 (some .boolean) ∈ wsG := kG 276 (by decide +kernel) (by decide +kernel)
theorem km_X5_51 : Cond.methodLink RX5 51 yX2_record ∈ wsG := kG 277 (by decide +kernel) (by decide +kernel)
theorem ki_X2_record : Cond.instanceMethod yX2_record ∈ wsG := kG 278 (by decide +kernel) (by decide +kernel)
theorem ke_X2_record : Cond.selects RX2 yX2_record yX2_record ∈ wsG := kG 279 (by decide +kernel) (by decide +kernel)
theorem kc_X2_record : Cond.code yX2_record cX2_record 3 none ∈ wsG := kG 280 (by decide +kernel) (by decide +kernel)
theorem km_X2_27 : Cond.methodLink RX2 27 yX3_copyFrom ∈ wsG := kG 281 (by decide +kernel) (by decide +kernel)
theorem ki_X3_copyFrom : Cond.instanceMethod yX3_copyFrom ∈ wsG := kG 282 (by decide +kernel) (by decide +kernel)
theorem ke_X3_copyFrom : Cond.selects RX3 yX3_copyFrom yX3_copyFrom ∈ wsG := kG 283 (by decide +kernel) (by decide +kernel)
theorem kc_X3_copyFrom : Cond.code yX3_copyFrom cX3_copyFrom 2 none ∈ wsG := kG 284 (by decide +kernel) (by decide +kernel)
theorem kN_X3_48 : Cond.methodLinkNest RX3 48 yX5_copyNumbers RX5 ∈ lw_tbl := List.mem_of_getElem? (i := 285) (by decide +kernel)
theorem ks_X5_copyNumbers : Cond.static yX5_copyNumbers ∈ wsG := kG 286 (by decide +kernel) (by decide +kernel)
theorem kc_X5_copyNumbers : Cond.code yX5_copyNumbers cX5_copyNumbers 2 none ∈ wsG := kG 287 (by decide +kernel) (by decide +kernel)
theorem km_X5_240 : Cond.methodLink RX5 240 yJ9_min_7cf53 ∈ wsG := kG 288 (by decide +kernel) (by decide +kernel)
theorem ks_J9_min_7cf53 : Cond.static yJ9_min_7cf53 ∈ wsG := kG 289 (by decide +kernel) (by decide +kernel)
theorem kc_min : Cond.code Lib.Math.min.name Lib.Math.min.code 2 (some .int) ∈ wsG := kG 290 (by decide +kernel) (by decide +kernel)
theorem km_X5_245 : Cond.methodLink RX5 245 arraycopyName ∈ wsG := kG 291 (by decide +kernel) (by decide +kernel)
theorem ks_arraycopyName : Cond.static arraycopyName ∈ wsG := kG 292 (by decide +kernel) (by decide +kernel)
theorem kv_arraycopyName : Cond.native arraycopyName ∈ wsG := kG 293 (by decide +kernel) (by decide +kernel)
theorem km_X3_52 : Cond.methodLink RX3 52 yX4_copyFrom ∈ wsG := kG 294 (by decide +kernel) (by decide +kernel)
theorem ki_X4_copyFrom : Cond.instanceMethod yX4_copyFrom ∈ wsG := kG 295 (by decide +kernel) (by decide +kernel)
theorem ke_X4_copyFrom : Cond.selects RX4 yX4_copyFrom yX4_copyFrom ∈ wsG := kG 296 (by decide +kernel) (by decide +kernel)
theorem kc_X4_copyFrom : Cond.code yX4_copyFrom cX4_copyFrom 2 none ∈ wsG := kG 297 (by decide +kernel) (by decide +kernel)
theorem kN_X4_31 : Cond.methodLinkNest RX4 31 yX5_copyNumbers RX5 ∈ lw_tbl := List.mem_of_getElem? (i := 298) (by decide +kernel)
theorem kN_X4_35 : Cond.methodLinkNest RX4 35 yX5_copyFlags RX5 ∈ lw_tbl := List.mem_of_getElem? (i := 299) (by decide +kernel)
theorem ks_X5_copyFlags : Cond.static yX5_copyFlags ∈ wsG := kG 300 (by decide +kernel) (by decide +kernel)
theorem kc_X5_copyFlags : Cond.code yX5_copyFlags cX5_copyFlags 2 none ∈ wsG := kG 301 (by decide +kernel) (by decide +kernel)
theorem km_X3_56 : Cond.methodLink RX3 56 yX1_copyFrom ∈ wsG := kG 302 (by decide +kernel) (by decide +kernel)
theorem ki_X1_copyFrom : Cond.instanceMethod yX1_copyFrom ∈ wsG := kG 303 (by decide +kernel) (by decide +kernel)
theorem ke_X1_copyFrom : Cond.selects RX1 yX1_copyFrom yX1_copyFrom ∈ wsG := kG 304 (by decide +kernel) (by decide +kernel)
theorem kc_X1_copyFrom : Cond.code yX1_copyFrom cX1_copyFrom 2 none ∈ wsG := kG 305 (by decide +kernel) (by decide +kernel)
theorem kN_X1_24 : Cond.methodLinkNest RX1 24 yX5_copyNumbers RX5 ∈ lw_tbl := List.mem_of_getElem? (i := 306) (by decide +kernel)
theorem km_X2_35 : Cond.methodLink RX2 35 yJ9_min_7cf53 ∈ wsG := kG 307 (by decide +kernel) (by decide +kernel)
theorem km_L_18 : Cond.methodLink RL 18 yX5_handOver ∈ wsG := kG 308 (by decide +kernel) (by decide +kernel)
theorem ki_X5_handOver : Cond.instanceMethod yX5_handOver ∈ wsG := kG 309 (by decide +kernel) (by decide +kernel)
theorem ke_X5_handOver : Cond.selects RX5 yX5_handOver yX5_handOver ∈ wsG := kG 310 (by decide +kernel) (by decide +kernel)
theorem kc_X5_handOver : Cond.code yX5_handOver cX5_handOver 4 (some .int) ∈ wsG := kG 311 (by decide +kernel) (by decide +kernel)
theorem km_L_22 : Cond.methodLink RL 22 yX5_setDays ∈ wsG := kG 312 (by decide +kernel) (by decide +kernel)
theorem ki_X5_setDays : Cond.instanceMethod yX5_setDays ∈ wsG := kG 313 (by decide +kernel) (by decide +kernel)
theorem ke_X5_setDays : Cond.selects RX5 yX5_setDays yX5_setDays ∈ wsG := kG 314 (by decide +kernel) (by decide +kernel)
theorem kc_X5_setDays : Cond.code yX5_setDays cX5_setDays 4 (some .int) ∈ wsG := kG 315 (by decide +kernel) (by decide +kernel)
theorem km_L_26 : Cond.methodLink RL 26 yX5_set ∈ wsG := kG 316 (by decide +kernel) (by decide +kernel)
theorem ki_X5_set : Cond.instanceMethod yX5_set ∈ wsG := kG 317 (by decide +kernel) (by decide +kernel)
theorem ke_X5_set : Cond.selects RX5 yX5_set yX5_set ∈ wsG := kG 318 (by decide +kernel) (by decide +kernel)
theorem kc_X5_set : Cond.code yX5_set cX5_set 4 (some .int) ∈ wsG := kG 319 (by decide +kernel) (by decide +kernel)
theorem km_X5_65 : Cond.methodLink RX5 65 yX5_isSettingValue ∈ wsG := kG 320 (by decide +kernel) (by decide +kernel)
theorem ks_X5_isSettingValue : Cond.static yX5_isSettingValue ∈ wsG := kG 321 (by decide +kernel) (by decide +kernel)
theorem kc_X5_isSettingValue : Cond.code yX5_isSettingValue cX5_isSettingValue 2 (some .boolean) ∈ wsG := kG 322 (by decide +kernel) (by decide +kernel)
theorem km_L_30 : Cond.methodLink RL 30 yX5_cut ∈ wsG := kG 323 (by decide +kernel) (by decide +kernel)
theorem ki_X5_cut : Cond.instanceMethod yX5_cut ∈ wsG := kG 324 (by decide +kernel) (by decide +kernel)
theorem ke_X5_cut : Cond.selects RX5 yX5_cut yX5_cut ∈ wsG := kG 325 (by decide +kernel) (by decide +kernel)
theorem kc_X5_cut : Cond.code yX5_cut cX5_cut 3 (some .int) ∈ wsG := kG 326 (by decide +kernel) (by decide +kernel)
theorem km_X5_76 : Cond.methodLink RX5 76 yX3_reasonAgainst ∈ wsG := kG 327 (by decide +kernel) (by decide +kernel)
theorem ki_X3_reasonAgainst : Cond.instanceMethod yX3_reasonAgainst ∈ wsG := kG 328 (by decide +kernel) (by decide +kernel)
theorem ke_X3_reasonAgainst : Cond.selects RX3 yX3_reasonAgainst yX3_reasonAgainst ∈ wsG := kG 329 (by decide +kernel) (by decide +kernel)
theorem kc_X3_reasonAgainst : Cond.code yX3_reasonAgainst cX3_reasonAgainst 4 (some .int) ∈ wsG := kG 330 (by decide +kernel) (by decide +kernel)
theorem km_X3_74 : Cond.methodLink RX3 74 yX3_hasDayLeft ∈ wsG := kG 331 (by decide +kernel) (by decide +kernel)
theorem ki_X3_hasDayLeft : Cond.instanceMethod yX3_hasDayLeft ∈ wsG := kG 333 (by decide +kernel) (by decide +kernel)
theorem kc_X3_hasDayLeft : Cond.code yX3_hasDayLeft cX3_hasDayLeft 2 (some .boolean) ∈ wsG := kG 334 (by decide +kernel) (by decide +kernel)
theorem kN_X3_89 : Cond.methodLinkNest RX3 89 yX5_isCommoner RX5 ∈ lw_tbl := List.mem_of_getElem? (i := 335) (by decide +kernel)
theorem kN_X3_78 : Cond.methodLinkNest RX3 78 yX5_isPlot RX5 ∈ lw_tbl := List.mem_of_getElem? (i := 336) (by decide +kernel)
theorem km_X3_81 : Cond.methodLink RX3 81 yX4_countLying ∈ wsG := kG 337 (by decide +kernel) (by decide +kernel)
theorem ki_X4_countLying : Cond.instanceMethod yX4_countLying ∈ wsG := kG 338 (by decide +kernel) (by decide +kernel)
theorem ke_X4_countLying : Cond.selects RX4 yX4_countLying yX4_countLying ∈ wsG := kG 339 (by decide +kernel) (by decide +kernel)
theorem kc_X4_countLying : Cond.code yX4_countLying cX4_countLying 3 (some .int) ∈ wsG := kG 340 (by decide +kernel) (by decide +kernel)
theorem kN_X4_61 : Cond.methodLinkNest RX4 61 yX5_oneIf RX5 ∈ lw_tbl := List.mem_of_getElem? (i := 341) (by decide +kernel)
theorem ks_X5_oneIf : Cond.static yX5_oneIf ∈ wsG := kG 342 (by decide +kernel) (by decide +kernel)
theorem kc_X5_oneIf : Cond.code yX5_oneIf cX5_oneIf 1 (some .int) ∈ wsG := kG 343 (by decide +kernel) (by decide +kernel)
theorem km_X3_85 : Cond.methodLink RX3 85 yX3_hasRight ∈ wsG := kG 344 (by decide +kernel) (by decide +kernel)
theorem ki_X3_hasRight : Cond.instanceMethod yX3_hasRight ∈ wsG := kG 346 (by decide +kernel) (by decide +kernel)
theorem kc_X3_hasRight : Cond.code yX3_hasRight cX3_hasRight 3 (some .boolean) ∈ wsG := kG 347 (by decide +kernel) (by decide +kernel)
theorem km_X5_84 : Cond.methodLink RX5 84 yX4_hasNumberLeft ∈ wsG := kG 348 (by decide +kernel) (by decide +kernel)
theorem ki_X4_hasNumberLeft : Cond.instanceMethod yX4_hasNumberLeft ∈ wsG := kG 349 (by decide +kernel) (by decide +kernel)
theorem ke_X4_hasNumberLeft : Cond.selects RX4 yX4_hasNumberLeft yX4_hasNumberLeft ∈ wsG := kG 350 (by decide +kernel) (by decide +kernel)
theorem kc_X4_hasNumberLeft : Cond.code yX4_hasNumberLeft cX4_hasNumberLeft 1 (some .boolean) ∈ wsG := kG 351 (by decide +kernel) (by decide +kernel)
theorem km_X5_90 : Cond.methodLink RX5 90 yX3_takeLayer ∈ wsG := kG 352 (by decide +kernel) (by decide +kernel)
theorem ki_X3_takeLayer : Cond.instanceMethod yX3_takeLayer ∈ wsG := kG 353 (by decide +kernel) (by decide +kernel)
theorem ke_X3_takeLayer : Cond.selects RX3 yX3_takeLayer yX3_takeLayer ∈ wsG := kG 354 (by decide +kernel) (by decide +kernel)
theorem kc_X3_takeLayer : Cond.code yX3_takeLayer cX3_takeLayer 4 (some .int) ∈ wsG := kG 355 (by decide +kernel) (by decide +kernel)
theorem km_X3_92 : Cond.methodLink RX3 92 yX4_lay ∈ wsG := kG 356 (by decide +kernel) (by decide +kernel)
theorem ki_X4_lay : Cond.instanceMethod yX4_lay ∈ wsG := kG 357 (by decide +kernel) (by decide +kernel)
theorem ke_X4_lay : Cond.selects RX4 yX4_lay yX4_lay ∈ wsG := kG 358 (by decide +kernel) (by decide +kernel)
theorem kc_X4_lay : Cond.code yX4_lay cX4_lay 4 (some .int) ∈ wsG := kG 359 (by decide +kernel) (by decide +kernel)
theorem km_X4_43 : Cond.methodLink RX4 43 yX4_hasNumberLeft ∈ wsG := kG 360 (by decide +kernel) (by decide +kernel)
theorem km_X3_96 : Cond.methodLink RX3 96 yX1_open ∈ wsG := kG 361 (by decide +kernel) (by decide +kernel)
theorem ki_X1_open : Cond.instanceMethod yX1_open ∈ wsG := kG 362 (by decide +kernel) (by decide +kernel)
theorem ke_X1_open : Cond.selects RX1 yX1_open yX1_open ∈ wsG := kG 363 (by decide +kernel) (by decide +kernel)
theorem kc_X1_open : Cond.code yX1_open cX1_open 5 none ∈ wsG := kG 364 (by decide +kernel) (by decide +kernel)
theorem km_L_34 : Cond.methodLink RL 34 yX5_turn ∈ wsG := kG 365 (by decide +kernel) (by decide +kernel)
theorem ki_X5_turn : Cond.instanceMethod yX5_turn ∈ wsG := kG 366 (by decide +kernel) (by decide +kernel)
theorem ke_X5_turn : Cond.selects RX5 yX5_turn yX5_turn ∈ wsG := kG 367 (by decide +kernel) (by decide +kernel)
theorem kc_X5_turn : Cond.code yX5_turn cX5_turn 2 (some .int) ∈ wsG := kG 368 (by decide +kernel) (by decide +kernel)
theorem km_X5_93 : Cond.methodLink RX5 93 yX4_isLying ∈ wsG := kG 369 (by decide +kernel) (by decide +kernel)
theorem ki_X4_isLying : Cond.instanceMethod yX4_isLying ∈ wsG := kG 370 (by decide +kernel) (by decide +kernel)
theorem ke_X4_isLying : Cond.selects RX4 yX4_isLying yX4_isLying ∈ wsG := kG 371 (by decide +kernel) (by decide +kernel)
theorem kc_X4_isLying : Cond.code yX4_isLying cX4_isLying 2 (some .boolean) ∈ wsG := kG 372 (by decide +kernel) (by decide +kernel)
theorem kN_X4_47 : Cond.methodLinkNest RX4 47 yX5_isWithin RX5 ∈ lw_tbl := List.mem_of_getElem? (i := 373) (by decide +kernel)
theorem km_L_39 : Cond.methodLink RL 39 yX5_stack ∈ wsG := kG 374 (by decide +kernel) (by decide +kernel)
theorem ki_X5_stack : Cond.instanceMethod yX5_stack ∈ wsG := kG 375 (by decide +kernel) (by decide +kernel)
theorem ke_X5_stack : Cond.selects RX5 yX5_stack yX5_stack ∈ wsG := kG 376 (by decide +kernel) (by decide +kernel)
theorem kc_X5_stack : Cond.code yX5_stack cX5_stack 2 (some .int) ∈ wsG := kG 377 (by decide +kernel) (by decide +kernel)
theorem km_X5_106 : Cond.methodLink RX5 106 yX4_isDry ∈ wsG := kG 378 (by decide +kernel) (by decide +kernel)
theorem ki_X4_isDry : Cond.instanceMethod yX4_isDry ∈ wsG := kG 379 (by decide +kernel) (by decide +kernel)
theorem ke_X4_isDry : Cond.selects RX4 yX4_isDry yX4_isDry ∈ wsG := kG 380 (by decide +kernel) (by decide +kernel)
theorem kc_X4_isDry : Cond.code yX4_isDry cX4_isDry 2 (some .boolean) ∈ wsG := kG 381 (by decide +kernel) (by decide +kernel)
theorem km_X4_51 : Cond.methodLink RX4 51 yX4_isLying ∈ wsG := kG 382 (by decide +kernel) (by decide +kernel)
theorem km_X5_112 : Cond.methodLink RX5 112 yX4_countStackedOf ∈ wsG := kG 383 (by decide +kernel) (by decide +kernel)
theorem ki_X4_countStackedOf : Cond.instanceMethod yX4_countStackedOf ∈ wsG := kG 384 (by decide +kernel) (by decide +kernel)
theorem ke_X4_countStackedOf : Cond.selects RX4 yX4_countStackedOf yX4_countStackedOf ∈ wsG := kG 385 (by decide +kernel) (by decide +kernel)
theorem kc_X4_countStackedOf : Cond.code yX4_countStackedOf cX4_countStackedOf 4 (some .int) ∈ wsG := kG 386 (by decide +kernel) (by decide +kernel)
theorem km_X4_65 : Cond.methodLink RX4 65 yX4_isStacked ∈ wsG := kG 387 (by decide +kernel) (by decide +kernel)
theorem ki_X4_isStacked : Cond.instanceMethod yX4_isStacked ∈ wsG := kG 389 (by decide +kernel) (by decide +kernel)
theorem kc_X4_isStacked : Cond.code yX4_isStacked cX4_isStacked 2 (some .boolean) ∈ wsG := kG 390 (by decide +kernel) (by decide +kernel)
theorem km_L_43 : Cond.methodLink RL 43 yX5_pass ∈ wsG := kG 391 (by decide +kernel) (by decide +kernel)
theorem ki_X5_pass : Cond.instanceMethod yX5_pass ∈ wsG := kG 392 (by decide +kernel) (by decide +kernel)
theorem ke_X5_pass : Cond.selects RX5 yX5_pass yX5_pass ∈ wsG := kG 393 (by decide +kernel) (by decide +kernel)
theorem kc_X5_pass : Cond.code yX5_pass cX5_pass 2 (some .int) ∈ wsG := kG 394 (by decide +kernel) (by decide +kernel)
theorem km_X5_116 : Cond.methodLink RX5 116 yX5_isWeather ∈ wsG := kG 395 (by decide +kernel) (by decide +kernel)
theorem ks_X5_isWeather : Cond.static yX5_isWeather ∈ wsG := kG 396 (by decide +kernel) (by decide +kernel)
theorem kc_X5_isWeather : Cond.code yX5_isWeather cX5_isWeather 1 (some .boolean) ∈ wsG := kG 397 (by decide +kernel) (by decide +kernel)
theorem km_X5_119 : Cond.methodLink RX5 119 yX3_passDays ∈ wsG := kG 398 (by decide +kernel) (by decide +kernel)
theorem ki_X3_passDays : Cond.instanceMethod yX3_passDays ∈ wsG := kG 399 (by decide +kernel) (by decide +kernel)
theorem ke_X3_passDays : Cond.selects RX3 yX3_passDays yX3_passDays ∈ wsG := kG 400 (by decide +kernel) (by decide +kernel)
theorem kc_X3_passDays : Cond.code yX3_passDays cX3_passDays 6 (some .int) ∈ wsG := kG 401 (by decide +kernel) (by decide +kernel)
theorem km_X3_100 : Cond.methodLink RX3 100 yX4_dryOrWet ∈ wsG := kG 402 (by decide +kernel) (by decide +kernel)
theorem ki_X4_dryOrWet : Cond.instanceMethod yX4_dryOrWet ∈ wsG := kG 403 (by decide +kernel) (by decide +kernel)
theorem ke_X4_dryOrWet : Cond.selects RX4 yX4_dryOrWet yX4_dryOrWet ∈ wsG := kG 404 (by decide +kernel) (by decide +kernel)
theorem kc_X4_dryOrWet : Cond.code yX4_dryOrWet cX4_dryOrWet 4 none ∈ wsG := kG 405 (by decide +kernel) (by decide +kernel)
theorem km_X4_81 : Cond.methodLink RX4 81 yX4_changeBy ∈ wsG := kG 406 (by decide +kernel) (by decide +kernel)
theorem ks_X4_changeBy : Cond.static yX4_changeBy ∈ wsG := kG 407 (by decide +kernel) (by decide +kernel)
theorem kc_X4_changeBy : Cond.code yX4_changeBy cX4_changeBy 2 (some .int) ∈ wsG := kG 408 (by decide +kernel) (by decide +kernel)
theorem km_X4_85 : Cond.methodLink RX4 85 yJ9_min_7cf53 ∈ wsG := kG 409 (by decide +kernel) (by decide +kernel)
theorem km_X4_55 : Cond.methodLink RX4 55 yJ9_max_7cf53 ∈ wsG := kG 410 (by decide +kernel) (by decide +kernel)
theorem ks_J9_max_7cf53 : Cond.static yJ9_max_7cf53 ∈ wsG := kG 411 (by decide +kernel) (by decide +kernel)
theorem kc_max : Cond.code Lib.Math.max.name Lib.Math.max.code 2 (some .int) ∈ wsG := kG 412 (by decide +kernel) (by decide +kernel)
theorem km_X3_104 : Cond.methodLink RX3 104 yX3_commonerOfCart ∈ wsG := kG 413 (by decide +kernel) (by decide +kernel)
theorem ki_X3_commonerOfCart : Cond.instanceMethod yX3_commonerOfCart ∈ wsG := kG 414 (by decide +kernel) (by decide +kernel)
theorem ke_X3_commonerOfCart : Cond.selects RX3 yX3_commonerOfCart yX3_commonerOfCart ∈ wsG := kG 415 (by decide +kernel) (by decide +kernel)
theorem kc_X3_commonerOfCart : Cond.code yX3_commonerOfCart cX3_commonerOfCart 2 (some .int) ∈ wsG := kG 416 (by decide +kernel) (by decide +kernel)
theorem km_X3_108 : Cond.methodLink RX3 108 yX3_serve ∈ wsG := kG 417 (by decide +kernel) (by decide +kernel)
theorem ki_X3_serve : Cond.instanceMethod yX3_serve ∈ wsG := kG 419 (by decide +kernel) (by decide +kernel)
theorem kc_X3_serve : Cond.code yX3_serve cX3_serve 4 none ∈ wsG := kG 420 (by decide +kernel) (by decide +kernel)
theorem km_X3_111 : Cond.methodLink RX3 111 yX4_driestStackedOf ∈ wsG := kG 421 (by decide +kernel) (by decide +kernel)
theorem ki_X4_driestStackedOf : Cond.instanceMethod yX4_driestStackedOf ∈ wsG := kG 422 (by decide +kernel) (by decide +kernel)
theorem ke_X4_driestStackedOf : Cond.selects RX4 yX4_driestStackedOf yX4_driestStackedOf ∈ wsG := kG 423 (by decide +kernel) (by decide +kernel)
theorem kc_X4_driestStackedOf : Cond.code yX4_driestStackedOf cX4_driestStackedOf 4 (some .int) ∈ wsG := kG 424 (by decide +kernel) (by decide +kernel)
theorem km_X3_114 : Cond.methodLink RX3 114 yX4_isLying ∈ wsG := kG 425 (by decide +kernel) (by decide +kernel)
theorem km_X3_117 : Cond.methodLink RX3 117 yX4_peatsAtHearth ∈ wsG := kG 426 (by decide +kernel) (by decide +kernel)
theorem ki_X4_peatsAtHearth : Cond.instanceMethod yX4_peatsAtHearth ∈ wsG := kG 427 (by decide +kernel) (by decide +kernel)
theorem ke_X4_peatsAtHearth : Cond.selects RX4 yX4_peatsAtHearth yX4_peatsAtHearth ∈ wsG := kG 428 (by decide +kernel) (by decide +kernel)
theorem kc_X4_peatsAtHearth : Cond.code yX4_peatsAtHearth cX4_peatsAtHearth 2 (some .int) ∈ wsG := kG 429 (by decide +kernel) (by decide +kernel)
theorem km_L_47 : Cond.methodLink RL 47 yX5_passAll ∈ wsG := kG 430 (by decide +kernel) (by decide +kernel)
theorem ki_X5_passAll : Cond.instanceMethod yX5_passAll ∈ wsG := kG 431 (by decide +kernel) (by decide +kernel)
theorem ke_X5_passAll : Cond.selects RX5 yX5_passAll yX5_passAll ∈ wsG := kG 432 (by decide +kernel) (by decide +kernel)
theorem kc_X5_passAll : Cond.code yX5_passAll cX5_passAll 4 (some .int) ∈ wsG := kG 433 (by decide +kernel) (by decide +kernel)
theorem km_X5_122 : Cond.methodLink RX5 122 yX0_readGroups ∈ wsG := kG 434 (by decide +kernel) (by decide +kernel)
theorem ki_X0_readGroups : Cond.instanceMethod yX0_readGroups ∈ wsG := kG 435 (by decide +kernel) (by decide +kernel)
theorem ke_X0_readGroups : Cond.selects RX0 yX0_readGroups yX0_readGroups ∈ wsG := kG 436 (by decide +kernel) (by decide +kernel)
theorem kc_X0_readGroups : Cond.code yX0_readGroups cX0_readGroups 4 (some .int) ∈ wsG := kG 437 (by decide +kernel) (by decide +kernel)
theorem km_X0_29 : Cond.methodLink RX0 29 yX0_isWeatherLetter ∈ wsG := kG 438 (by decide +kernel) (by decide +kernel)
theorem ks_X0_isWeatherLetter : Cond.static yX0_isWeatherLetter ∈ wsG := kG 439 (by decide +kernel) (by decide +kernel)
theorem kc_X0_isWeatherLetter : Cond.code yX0_isWeatherLetter cX0_isWeatherLetter 1 (some .boolean) ∈ wsG := kG 440 (by decide +kernel) (by decide +kernel)
theorem km_X0_33 : Cond.methodLink RX0 33 yX0_weatherOf ∈ wsG := kG 441 (by decide +kernel) (by decide +kernel)
theorem ks_X0_weatherOf : Cond.static yX0_weatherOf ∈ wsG := kG 442 (by decide +kernel) (by decide +kernel)
theorem kc_X0_weatherOf : Cond.code yX0_weatherOf cX0_weatherOf 1 (some .int) ∈ wsG := kG 443 (by decide +kernel) (by decide +kernel)
theorem km_X0_37 : Cond.methodLink RX0 37 yX0_openGroup ∈ wsG := kG 444 (by decide +kernel) (by decide +kernel)
theorem ki_X0_openGroup : Cond.instanceMethod yX0_openGroup ∈ wsG := kG 446 (by decide +kernel) (by decide +kernel)
theorem kc_X0_openGroup : Cond.code yX0_openGroup cX0_openGroup 2 none ∈ wsG := kG 447 (by decide +kernel) (by decide +kernel)
theorem km_X0_41 : Cond.methodLink RX0 41 yX0_isDigit ∈ wsG := kG 448 (by decide +kernel) (by decide +kernel)
theorem ks_X0_isDigit : Cond.static yX0_isDigit ∈ wsG := kG 449 (by decide +kernel) (by decide +kernel)
theorem kc_X0_isDigit : Cond.code yX0_isDigit cX0_isDigit 1 (some .boolean) ∈ wsG := kG 450 (by decide +kernel) (by decide +kernel)
theorem km_L_52 : Cond.methodLink RL 52 yX5_settle ∈ wsG := kG 451 (by decide +kernel) (by decide +kernel)
theorem ki_X5_settle : Cond.instanceMethod yX5_settle ∈ wsG := kG 452 (by decide +kernel) (by decide +kernel)
theorem ke_X5_settle : Cond.selects RX5 yX5_settle yX5_settle ∈ wsG := kG 453 (by decide +kernel) (by decide +kernel)
theorem kc_X5_settle : Cond.code yX5_settle cX5_settle 1 (some .int) ∈ wsG := kG 454 (by decide +kernel) (by decide +kernel)
theorem km_X5_139 : Cond.methodLink RX5 139 yX1_countOpen ∈ wsG := kG 455 (by decide +kernel) (by decide +kernel)
theorem ki_X1_countOpen : Cond.instanceMethod yX1_countOpen ∈ wsG := kG 456 (by decide +kernel) (by decide +kernel)
theorem ke_X1_countOpen : Cond.selects RX1 yX1_countOpen yX1_countOpen ∈ wsG := kG 457 (by decide +kernel) (by decide +kernel)
theorem kc_X1_countOpen : Cond.code yX1_countOpen cX1_countOpen 1 (some .int) ∈ wsG := kG 458 (by decide +kernel) (by decide +kernel)
theorem km_X5_144 : Cond.methodLink RX5 144 yX3_settleOldest ∈ wsG := kG 459 (by decide +kernel) (by decide +kernel)
theorem ki_X3_settleOldest : Cond.instanceMethod yX3_settleOldest ∈ wsG := kG 460 (by decide +kernel) (by decide +kernel)
theorem ke_X3_settleOldest : Cond.selects RX3 yX3_settleOldest yX3_settleOldest ∈ wsG := kG 461 (by decide +kernel) (by decide +kernel)
theorem kc_X3_settleOldest : Cond.code yX3_settleOldest cX3_settleOldest 5 (some .int) ∈ wsG := kG 462 (by decide +kernel) (by decide +kernel)
theorem km_X3_124 : Cond.methodLink RX3 124 yX1_countOpen ∈ wsG := kG 463 (by decide +kernel) (by decide +kernel)
theorem km_X3_133 : Cond.methodLink RX3 133 yX3_useDayIfLeft ∈ wsG := kG 464 (by decide +kernel) (by decide +kernel)
theorem ki_X3_useDayIfLeft : Cond.instanceMethod yX3_useDayIfLeft ∈ wsG := kG 466 (by decide +kernel) (by decide +kernel)
theorem kc_X3_useDayIfLeft : Cond.code yX3_useDayIfLeft cX3_useDayIfLeft 2 none ∈ wsG := kG 467 (by decide +kernel) (by decide +kernel)
theorem km_X3_145 : Cond.methodLink RX3 145 yX3_givePeats ∈ wsG := kG 468 (by decide +kernel) (by decide +kernel)
theorem ki_X3_givePeats : Cond.instanceMethod yX3_givePeats ∈ wsG := kG 470 (by decide +kernel) (by decide +kernel)
theorem kc_X3_givePeats : Cond.code yX3_givePeats cX3_givePeats 4 none ∈ wsG := kG 471 (by decide +kernel) (by decide +kernel)
theorem km_X3_149 : Cond.methodLink RX3 149 yJ9_min_7cf53 ∈ wsG := kG 472 (by decide +kernel) (by decide +kernel)
theorem km_L_56 : Cond.methodLink RL 56 yX5_endYear ∈ wsG := kG 473 (by decide +kernel) (by decide +kernel)
theorem ki_X5_endYear : Cond.instanceMethod yX5_endYear ∈ wsG := kG 474 (by decide +kernel) (by decide +kernel)
theorem ke_X5_endYear : Cond.selects RX5 yX5_endYear yX5_endYear ∈ wsG := kG 475 (by decide +kernel) (by decide +kernel)
theorem kc_X5_endYear : Cond.code yX5_endYear cX5_endYear 1 (some .int) ∈ wsG := kG 476 (by decide +kernel) (by decide +kernel)
theorem km_X5_147 : Cond.methodLink RX5 147 yX3_closeYear ∈ wsG := kG 477 (by decide +kernel) (by decide +kernel)
theorem ki_X3_closeYear : Cond.instanceMethod yX3_closeYear ∈ wsG := kG 478 (by decide +kernel) (by decide +kernel)
theorem ke_X3_closeYear : Cond.selects RX3 yX3_closeYear yX3_closeYear ∈ wsG := kG 479 (by decide +kernel) (by decide +kernel)
theorem kc_X3_closeYear : Cond.code yX3_closeYear cX3_closeYear 3 (some .int) ∈ wsG := kG 480 (by decide +kernel) (by decide +kernel)
theorem km_X3_154 : Cond.methodLink RX3 154 yX4_loseAll ∈ wsG := kG 481 (by decide +kernel) (by decide +kernel)
theorem ki_X4_loseAll : Cond.instanceMethod yX4_loseAll ∈ wsG := kG 482 (by decide +kernel) (by decide +kernel)
theorem ke_X4_loseAll : Cond.selects RX4 yX4_loseAll yX4_loseAll ∈ wsG := kG 483 (by decide +kernel) (by decide +kernel)
theorem kc_X4_loseAll : Cond.code yX4_loseAll cX4_loseAll 3 (some .int) ∈ wsG := kG 484 (by decide +kernel) (by decide +kernel)
theorem km_X4_88 : Cond.methodLink RX4 88 yX4_countLying ∈ wsG := kG 485 (by decide +kernel) (by decide +kernel)
theorem km_L_60 : Cond.methodLink RL 60 yX5_type ∈ wsG := kG 486 (by decide +kernel) (by decide +kernel)
theorem ki_X5_type : Cond.instanceMethod yX5_type ∈ wsG := kG 487 (by decide +kernel) (by decide +kernel)
theorem ke_X5_type : Cond.selects RX5 yX5_type yX5_type ∈ wsG := kG 488 (by decide +kernel) (by decide +kernel)
theorem kc_X5_type : Cond.code yX5_type cX5_type 2 (some .int) ∈ wsG := kG 489 (by decide +kernel) (by decide +kernel)
theorem km_X5_150 : Cond.methodLink RX5 150 yX0_append ∈ wsG := kG 490 (by decide +kernel) (by decide +kernel)
theorem ki_X0_append : Cond.instanceMethod yX0_append ∈ wsG := kG 491 (by decide +kernel) (by decide +kernel)
theorem ke_X0_append : Cond.selects RX0 yX0_append yX0_append ∈ wsG := kG 492 (by decide +kernel) (by decide +kernel)
theorem kc_X0_append : Cond.code yX0_append cX0_append 2 (some .boolean) ∈ wsG := kG 493 (by decide +kernel) (by decide +kernel)
theorem km_L_65 : Cond.methodLink RL 65 yX5_clearText ∈ wsG := kG 494 (by decide +kernel) (by decide +kernel)
theorem ki_X5_clearText : Cond.instanceMethod yX5_clearText ∈ wsG := kG 495 (by decide +kernel) (by decide +kernel)
theorem ke_X5_clearText : Cond.selects RX5 yX5_clearText yX5_clearText ∈ wsG := kG 496 (by decide +kernel) (by decide +kernel)
theorem kc_X5_clearText : Cond.code yX5_clearText cX5_clearText 2 (some .int) ∈ wsG := kG 497 (by decide +kernel) (by decide +kernel)
theorem km_L_69 : Cond.methodLink RL 69 yX5_undo ∈ wsG := kG 498 (by decide +kernel) (by decide +kernel)
theorem ki_X5_undo : Cond.instanceMethod yX5_undo ∈ wsG := kG 499 (by decide +kernel) (by decide +kernel)
theorem ke_X5_undo : Cond.selects RX5 yX5_undo yX5_undo ∈ wsG := kG 500 (by decide +kernel) (by decide +kernel)
theorem kc_X5_undo : Cond.code yX5_undo cX5_undo 1 (some .int) ∈ wsG := kG 501 (by decide +kernel) (by decide +kernel)
theorem km_X5_160 : Cond.methodLink RX5 160 yX2_takeBack ∈ wsG := kG 502 (by decide +kernel) (by decide +kernel)
theorem ki_X2_takeBack : Cond.instanceMethod yX2_takeBack ∈ wsG := kG 503 (by decide +kernel) (by decide +kernel)
theorem ke_X2_takeBack : Cond.selects RX2 yX2_takeBack yX2_takeBack ∈ wsG := kG 504 (by decide +kernel) (by decide +kernel)
theorem kc_X2_takeBack : Cond.code yX2_takeBack cX2_takeBack 3 none ∈ wsG := kG 505 (by decide +kernel) (by decide +kernel)
theorem km_L_73 : Cond.methodLink RL 73 yX5_keep ∈ wsG := kG 506 (by decide +kernel) (by decide +kernel)
theorem ki_X5_keep : Cond.instanceMethod yX5_keep ∈ wsG := kG 507 (by decide +kernel) (by decide +kernel)
theorem ke_X5_keep : Cond.selects RX5 yX5_keep yX5_keep ∈ wsG := kG 508 (by decide +kernel) (by decide +kernel)
theorem kc_X5_keep : Cond.code yX5_keep cX5_keep 1 (some .int) ∈ wsG := kG 509 (by decide +kernel) (by decide +kernel)
theorem km_X5_163 : Cond.methodLink RX5 163 yX3_copyFrom ∈ wsG := kG 510 (by decide +kernel) (by decide +kernel)
theorem km_X5_166 : Cond.methodLink RX5 166 yX4_countLying ∈ wsG := kG 511 (by decide +kernel) (by decide +kernel)
theorem km_L_77 : Cond.methodLink RL 77 yX5_restore ∈ wsG := kG 512 (by decide +kernel) (by decide +kernel)
theorem ki_X5_restore : Cond.instanceMethod yX5_restore ∈ wsG := kG 513 (by decide +kernel) (by decide +kernel)
theorem ke_X5_restore : Cond.selects RX5 yX5_restore yX5_restore ∈ wsG := kG 514 (by decide +kernel) (by decide +kernel)
theorem kc_X5_restore : Cond.code yX5_restore cX5_restore 1 (some .int) ∈ wsG := kG 515 (by decide +kernel) (by decide +kernel)
theorem km_L_81 : Cond.methodLink RL 81 yX5_commoner ∈ wsG := kG 516 (by decide +kernel) (by decide +kernel)
theorem ki_X5_commoner : Cond.instanceMethod yX5_commoner ∈ wsG := kG 517 (by decide +kernel) (by decide +kernel)
theorem ke_X5_commoner : Cond.selects RX5 yX5_commoner yX5_commoner ∈ wsG := kG 518 (by decide +kernel) (by decide +kernel)
theorem kc_X5_commoner : Cond.code yX5_commoner cX5_commoner 3 (some .int) ∈ wsG := kG 519 (by decide +kernel) (by decide +kernel)
theorem km_X5_175 : Cond.methodLink RX5 175 yX4_countLyingOf ∈ wsG := kG 520 (by decide +kernel) (by decide +kernel)
theorem ki_X4_countLyingOf : Cond.instanceMethod yX4_countLyingOf ∈ wsG := kG 521 (by decide +kernel) (by decide +kernel)
theorem ke_X4_countLyingOf : Cond.selects RX4 yX4_countLyingOf yX4_countLyingOf ∈ wsG := kG 522 (by decide +kernel) (by decide +kernel)
theorem kc_X4_countLyingOf : Cond.code yX4_countLyingOf cX4_countLyingOf 4 (some .int) ∈ wsG := kG 523 (by decide +kernel) (by decide +kernel)
theorem km_X4_71 : Cond.methodLink RX4 71 yX4_isLyingOf ∈ wsG := kG 524 (by decide +kernel) (by decide +kernel)
theorem ki_X4_isLyingOf : Cond.instanceMethod yX4_isLyingOf ∈ wsG := kG 526 (by decide +kernel) (by decide +kernel)
theorem kc_X4_isLyingOf : Cond.code yX4_isLyingOf cX4_isLyingOf 3 (some .boolean) ∈ wsG := kG 527 (by decide +kernel) (by decide +kernel)
theorem km_X5_178 : Cond.methodLink RX5 178 yX5_countEqual ∈ wsG := kG 528 (by decide +kernel) (by decide +kernel)
theorem ks_X5_countEqual : Cond.static yX5_countEqual ∈ wsG := kG 529 (by decide +kernel) (by decide +kernel)
theorem kc_X5_countEqual : Cond.code yX5_countEqual cX5_countEqual 7 (some .int) ∈ wsG := kG 530 (by decide +kernel) (by decide +kernel)
theorem km_X5_188 : Cond.methodLink RX5 188 yX5_oneIf ∈ wsG := kG 531 (by decide +kernel) (by decide +kernel)
theorem km_X5_182 : Cond.methodLink RX5 182 yX1_countOpenWith ∈ wsG := kG 532 (by decide +kernel) (by decide +kernel)
theorem ki_X1_countOpenWith : Cond.instanceMethod yX1_countOpenWith ∈ wsG := kG 533 (by decide +kernel) (by decide +kernel)
theorem ke_X1_countOpenWith : Cond.selects RX1 yX1_countOpenWith yX1_countOpenWith ∈ wsG := kG 534 (by decide +kernel) (by decide +kernel)
theorem kc_X1_countOpenWith : Cond.code yX1_countOpenWith cX1_countOpenWith 4 (some .int) ∈ wsG := kG 535 (by decide +kernel) (by decide +kernel)
theorem kN_X1_35 : Cond.methodLinkNest RX1 35 yX5_oneIf RX5 ∈ lw_tbl := List.mem_of_getElem? (i := 536) (by decide +kernel)
theorem km_L_85 : Cond.methodLink RL 85 yX5_plot ∈ wsG := kG 537 (by decide +kernel) (by decide +kernel)
theorem ki_X5_plot : Cond.instanceMethod yX5_plot ∈ wsG := kG 538 (by decide +kernel) (by decide +kernel)
theorem ke_X5_plot : Cond.selects RX5 yX5_plot yX5_plot ∈ wsG := kG 539 (by decide +kernel) (by decide +kernel)
theorem kc_X5_plot : Cond.code yX5_plot cX5_plot 3 (some .int) ∈ wsG := kG 540 (by decide +kernel) (by decide +kernel)
theorem km_L_89 : Cond.methodLink RL 89 yX5_row ∈ wsG := kG 541 (by decide +kernel) (by decide +kernel)
theorem ki_X5_row : Cond.instanceMethod yX5_row ∈ wsG := kG 542 (by decide +kernel) (by decide +kernel)
theorem ke_X5_row : Cond.selects RX5 yX5_row yX5_row ∈ wsG := kG 543 (by decide +kernel) (by decide +kernel)
theorem kc_X5_row : Cond.code yX5_row cX5_row 3 (some .int) ∈ wsG := kG 544 (by decide +kernel) (by decide +kernel)
theorem km_X5_195 : Cond.methodLink RX5 195 yX4_peatsAtHearth ∈ wsG := kG 545 (by decide +kernel) (by decide +kernel)
theorem km_L_93 : Cond.methodLink RL 93 yX5_driest ∈ wsG := kG 546 (by decide +kernel) (by decide +kernel)
theorem ki_X5_driest : Cond.instanceMethod yX5_driest ∈ wsG := kG 547 (by decide +kernel) (by decide +kernel)
theorem ke_X5_driest : Cond.selects RX5 yX5_driest yX5_driest ∈ wsG := kG 548 (by decide +kernel) (by decide +kernel)
theorem kc_X5_driest : Cond.code yX5_driest cX5_driest 3 (some .int) ∈ wsG := kG 549 (by decide +kernel) (by decide +kernel)
theorem km_X5_198 : Cond.methodLink RX5 198 yX4_driestOf ∈ wsG := kG 550 (by decide +kernel) (by decide +kernel)
theorem ki_X4_driestOf : Cond.instanceMethod yX4_driestOf ∈ wsG := kG 551 (by decide +kernel) (by decide +kernel)
theorem ke_X4_driestOf : Cond.selects RX4 yX4_driestOf yX4_driestOf ∈ wsG := kG 552 (by decide +kernel) (by decide +kernel)
theorem kc_X4_driestOf : Cond.code yX4_driestOf cX4_driestOf 4 (some .int) ∈ wsG := kG 553 (by decide +kernel) (by decide +kernel)
theorem km_X4_75 : Cond.methodLink RX4 75 yX4_countDrierThan ∈ wsG := kG 554 (by decide +kernel) (by decide +kernel)
theorem ki_X4_countDrierThan : Cond.instanceMethod yX4_countDrierThan ∈ wsG := kG 556 (by decide +kernel) (by decide +kernel)
theorem kc_X4_countDrierThan : Cond.code yX4_countDrierThan cX4_countDrierThan 5 (some .int) ∈ wsG := kG 557 (by decide +kernel) (by decide +kernel)
theorem km_X4_78 : Cond.methodLink RX4 78 yX4_comesBefore ∈ wsG := kG 558 (by decide +kernel) (by decide +kernel)
theorem ki_X4_comesBefore : Cond.instanceMethod yX4_comesBefore ∈ wsG := kG 560 (by decide +kernel) (by decide +kernel)
theorem kc_X4_comesBefore : Cond.code yX4_comesBefore cX4_comesBefore 3 (some .boolean) ∈ wsG := kG 561 (by decide +kernel) (by decide +kernel)
theorem km_L_97 : Cond.methodLink RL 97 yX5_why ∈ wsG := kG 562 (by decide +kernel) (by decide +kernel)
theorem ki_X5_why : Cond.instanceMethod yX5_why ∈ wsG := kG 563 (by decide +kernel) (by decide +kernel)
theorem ke_X5_why : Cond.selects RX5 yX5_why yX5_why ∈ wsG := kG 564 (by decide +kernel) (by decide +kernel)
theorem kc_X5_why : Cond.code yX5_why cX5_why 3 (some .int) ∈ wsG := kG 565 (by decide +kernel) (by decide +kernel)
theorem km_L_101 : Cond.methodLink RL 101 yX5_dispute ∈ wsG := kG 566 (by decide +kernel) (by decide +kernel)
theorem ki_X5_dispute : Cond.instanceMethod yX5_dispute ∈ wsG := kG 567 (by decide +kernel) (by decide +kernel)
theorem ke_X5_dispute : Cond.selects RX5 yX5_dispute yX5_dispute ∈ wsG := kG 568 (by decide +kernel) (by decide +kernel)
theorem kc_X5_dispute : Cond.code yX5_dispute cX5_dispute 4 (some .int) ∈ wsG := kG 569 (by decide +kernel) (by decide +kernel)
theorem km_L_105 : Cond.methodLink RL 105 yX5_cart ∈ wsG := kG 570 (by decide +kernel) (by decide +kernel)
theorem ki_X5_cart : Cond.instanceMethod yX5_cart ∈ wsG := kG 571 (by decide +kernel) (by decide +kernel)
theorem ke_X5_cart : Cond.selects RX5 yX5_cart yX5_cart ∈ wsG := kG 572 (by decide +kernel) (by decide +kernel)
theorem kc_X5_cart : Cond.code yX5_cart cX5_cart 2 (some .int) ∈ wsG := kG 573 (by decide +kernel) (by decide +kernel)
theorem km_X5_214 : Cond.methodLink RX5 214 yX3_commonerOfCart ∈ wsG := kG 574 (by decide +kernel) (by decide +kernel)
theorem km_L_109 : Cond.methodLink RL 109 yX5_would ∈ wsG := kG 575 (by decide +kernel) (by decide +kernel)
theorem ki_X5_would : Cond.instanceMethod yX5_would ∈ wsG := kG 576 (by decide +kernel) (by decide +kernel)
theorem ke_X5_would : Cond.selects RX5 yX5_would yX5_would ∈ wsG := kG 577 (by decide +kernel) (by decide +kernel)
theorem kc_X5_would : Cond.code yX5_would cX5_would 3 (some .int) ∈ wsG := kG 578 (by decide +kernel) (by decide +kernel)
theorem km_L_113 : Cond.methodLink RL 113 yX5_count ∈ wsG := kG 579 (by decide +kernel) (by decide +kernel)
theorem ki_X5_count : Cond.instanceMethod yX5_count ∈ wsG := kG 580 (by decide +kernel) (by decide +kernel)
theorem ke_X5_count : Cond.selects RX5 yX5_count yX5_count ∈ wsG := kG 581 (by decide +kernel) (by decide +kernel)
theorem kc_X5_count : Cond.code yX5_count cX5_count 2 (some .int) ∈ wsG := kG 582 (by decide +kernel) (by decide +kernel)
theorem km_X5_226 : Cond.methodLink RX5 226 yX4_countStacked ∈ wsG := kG 583 (by decide +kernel) (by decide +kernel)
theorem ki_X4_countStacked : Cond.instanceMethod yX4_countStacked ∈ wsG := kG 584 (by decide +kernel) (by decide +kernel)
theorem ke_X4_countStacked : Cond.selects RX4 yX4_countStacked yX4_countStacked ∈ wsG := kG 585 (by decide +kernel) (by decide +kernel)
theorem kc_X4_countStacked : Cond.code yX4_countStacked cX4_countStacked 3 (some .int) ∈ wsG := kG 586 (by decide +kernel) (by decide +kernel)
theorem km_X5_229 : Cond.methodLink RX5 229 yX4_countDry ∈ wsG := kG 587 (by decide +kernel) (by decide +kernel)
theorem ki_X4_countDry : Cond.instanceMethod yX4_countDry ∈ wsG := kG 588 (by decide +kernel) (by decide +kernel)
theorem ke_X4_countDry : Cond.selects RX4 yX4_countDry yX4_countDry ∈ wsG := kG 589 (by decide +kernel) (by decide +kernel)
theorem kc_X4_countDry : Cond.code yX4_countDry cX4_countDry 3 (some .int) ∈ wsG := kG 590 (by decide +kernel) (by decide +kernel)
theorem km_X4_68 : Cond.methodLink RX4 68 yX4_isDry ∈ wsG := kG 591 (by decide +kernel) (by decide +kernel)
theorem km_X5_235 : Cond.methodLink RX5 235 yX5_sumOf ∈ wsG := kG 592 (by decide +kernel) (by decide +kernel)
theorem ks_X5_sumOf : Cond.static yX5_sumOf ∈ wsG := kG 593 (by decide +kernel) (by decide +kernel)
theorem kc_X5_sumOf : Cond.code yX5_sumOf cX5_sumOf 6 (some .int) ∈ wsG := kG 594 (by decide +kernel) (by decide +kernel)
theorem kl_L_10 : Cond.classLink RL 10 RX6 ∈ wsG := kG 595 (by decide +kernel) (by decide +kernel)
theorem kt_X6 : Cond.instantiable RX6 13 ∈ wsG := kG 596 (by decide +kernel) (by decide +kernel)
theorem km_L_12 : Cond.methodLink RL 12 yX6_init ∈ wsG := kG 597 (by decide +kernel) (by decide +kernel)
theorem ki_X6_init : Cond.instanceMethod yX6_init ∈ wsG := kG 598 (by decide +kernel) (by decide +kernel)
theorem kc_X6_init : Cond.code yX6_init cX6_init 2 none ∈ wsG := kG 599 (by decide +kernel) (by decide +kernel)
theorem km_X6_1 : Cond.methodLink RX6 1 objectInit ∈ wsG := kG 600 (by decide +kernel) (by decide +kernel)
theorem kf_X6_28 : Cond.fieldLink RX6 28 "PeatBanksModel" "thrown" "I" ∈ wsG := kG 601 (by decide +kernel) (by decide +kernel)
theorem kf_X6_7 : Cond.fieldLink RX6 7 "PeatBanksModel" "s" "[I" ∈ wsG := kG 602 (by decide +kernel) (by decide +kernel)
theorem kf_X6_13 : Cond.fieldLink RX6 13 "PeatBanksModel" "aside" "[I" ∈ wsG := kG 603 (by decide +kernel) (by decide +kernel)
theorem kf_X6_16 : Cond.fieldLink RX6 16 "PeatBanksModel" "saved" "[I" ∈ wsG := kG 604 (by decide +kernel) (by decide +kernel)
theorem kf_X6_40 : Cond.fieldLink RX6 40 "PeatBanksModel" "savedMany" "I" ∈ wsG := kG 605 (by decide +kernel) (by decide +kernel)
theorem kf_X6_19 : Cond.fieldLink RX6 19 "PeatBanksModel" "snapshot" "[I" ∈ wsG := kG 606 (by decide +kernel) (by decide +kernel)
theorem kf_X6_138 : Cond.fieldLink RX6 138 "PeatBanksModel" "hasSnapshot" "Z" ∈ wsG := kG 607 (by decide +kernel) (by decide +kernel)
theorem kf_X6_22 : Cond.fieldLink RX6 22 "PeatBanksModel" "text" "[I" ∈ wsG := kG 608 (by decide +kernel) (by decide +kernel)
theorem kf_X6_119 : Cond.fieldLink RX6 119 "PeatBanksModel" "length" "I" ∈ wsG := kG 609 (by decide +kernel) (by decide +kernel)
theorem kf_X6_122 : Cond.fieldLink RX6 122 "PeatBanksModel" "at" "I" ∈ wsG := kG 610 (by decide +kernel) (by decide +kernel)
theorem kf_X6_128 : Cond.fieldLink RX6 128 "PeatBanksModel" "isWell" "Z" ∈ wsG := kG 611 (by decide +kernel) (by decide +kernel)
theorem kf_X6_25 : Cond.fieldLink RX6 25 "PeatBanksModel" "groups" "[I" ∈ wsG := kG 612 (by decide +kernel) (by decide +kernel)
theorem kf_X6_110 : Cond.fieldLink RX6 110 "PeatBanksModel" "groupMany" "I" ∈ wsG := kG 613 (by decide +kernel) (by decide +kernel)
theorem km_L_17 : Cond.methodLink RL 17 yX6_lend ∈ wsG := kG 641 (by decide +kernel) (by decide +kernel)
theorem ki_X6_lend : Cond.instanceMethod yX6_lend ∈ wsG := kG 642 (by decide +kernel) (by decide +kernel)
theorem ke_X6_lend : Cond.selects RX6 yX6_lend yX6_lend ∈ wsG := kG 643 (by decide +kernel) (by decide +kernel)
theorem kc_X6_lend : Cond.code yX6_lend cX6_lend 4 (some .int) ∈ wsG := kG 644 (by decide +kernel) (by decide +kernel)
theorem km_X6_70 : Cond.methodLink RX6 70 yX6_isPlot ∈ wsG := kG 645 (by decide +kernel) (by decide +kernel)
theorem ks_X6_isPlot : Cond.static yX6_isPlot ∈ wsG := kG 646 (by decide +kernel) (by decide +kernel)
theorem kc_X6_isPlot : Cond.code yX6_isPlot cX6_isPlot 1 (some .boolean) ∈ wsG := kG 647 (by decide +kernel) (by decide +kernel)
theorem km_X6_32 : Cond.methodLink RX6 32 yX6_in ∈ wsG := kG 648 (by decide +kernel) (by decide +kernel)
theorem ks_X6_in : Cond.static yX6_in ∈ wsG := kG 649 (by decide +kernel) (by decide +kernel)
theorem kc_X6_in : Cond.code yX6_in cX6_in 3 (some .boolean) ∈ wsG := kG 650 (by decide +kernel) (by decide +kernel)
theorem km_X6_74 : Cond.methodLink RX6 74 yX6_isCommoner ∈ wsG := kG 651 (by decide +kernel) (by decide +kernel)
theorem ks_X6_isCommoner : Cond.static yX6_isCommoner ∈ wsG := kG 652 (by decide +kernel) (by decide +kernel)
theorem kc_X6_isCommoner : Cond.code yX6_isCommoner cX6_isCommoner 1 (some .boolean) ∈ wsG := kG 653 (by decide +kernel) (by decide +kernel)
theorem km_X6_77 : Cond.methodLink RX6 77 yX6_ofPlot ∈ wsG := kG 654 (by decide +kernel) (by decide +kernel)
theorem ki_X6_ofPlot : Cond.instanceMethod yX6_ofPlot ∈ wsG := kG 656 (by decide +kernel) (by decide +kernel)
theorem kc_X6_ofPlot : Cond.code yX6_ofPlot cX6_ofPlot 3 (some .int) ∈ wsG := kG 657 (by decide +kernel) (by decide +kernel)
theorem km_X6_80 : Cond.methodLink RX6 80 yX6_records ∈ wsG := kG 658 (by decide +kernel) (by decide +kernel)
theorem ki_X6_records : Cond.instanceMethod yX6_records ∈ wsG := kG 660 (by decide +kernel) (by decide +kernel)
theorem kc_X6_records : Cond.code yX6_records cX6_records 2 none ∈ wsG := kG 661 (by decide +kernel) (by decide +kernel)
theorem km_L_21 : Cond.methodLink RL 21 yX6_handOver ∈ wsG := kG 662 (by decide +kernel) (by decide +kernel)
theorem ki_X6_handOver : Cond.instanceMethod yX6_handOver ∈ wsG := kG 663 (by decide +kernel) (by decide +kernel)
theorem ke_X6_handOver : Cond.selects RX6 yX6_handOver yX6_handOver ∈ wsG := kG 664 (by decide +kernel) (by decide +kernel)
theorem kc_X6_handOver : Cond.code yX6_handOver cX6_handOver 4 (some .int) ∈ wsG := kG 665 (by decide +kernel) (by decide +kernel)
theorem km_L_25 : Cond.methodLink RL 25 yX6_setDays ∈ wsG := kG 666 (by decide +kernel) (by decide +kernel)
theorem ki_X6_setDays : Cond.instanceMethod yX6_setDays ∈ wsG := kG 667 (by decide +kernel) (by decide +kernel)
theorem ke_X6_setDays : Cond.selects RX6 yX6_setDays yX6_setDays ∈ wsG := kG 668 (by decide +kernel) (by decide +kernel)
theorem kc_X6_setDays : Cond.code yX6_setDays cX6_setDays 4 (some .int) ∈ wsG := kG 669 (by decide +kernel) (by decide +kernel)
theorem km_X6_83 : Cond.methodLink RX6 83 yX6_ofCommoner ∈ wsG := kG 670 (by decide +kernel) (by decide +kernel)
theorem ki_X6_ofCommoner : Cond.instanceMethod yX6_ofCommoner ∈ wsG := kG 672 (by decide +kernel) (by decide +kernel)
theorem kc_X6_ofCommoner : Cond.code yX6_ofCommoner cX6_ofCommoner 3 (some .int) ∈ wsG := kG 673 (by decide +kernel) (by decide +kernel)
theorem km_X6_57 : Cond.methodLink RX6 57 yX6_addCommoner ∈ wsG := kG 674 (by decide +kernel) (by decide +kernel)
theorem ki_X6_addCommoner : Cond.instanceMethod yX6_addCommoner ∈ wsG := kG 676 (by decide +kernel) (by decide +kernel)
theorem kc_X6_addCommoner : Cond.code yX6_addCommoner cX6_addCommoner 4 none ∈ wsG := kG 677 (by decide +kernel) (by decide +kernel)
theorem km_L_29 : Cond.methodLink RL 29 yX6_set ∈ wsG := kG 678 (by decide +kernel) (by decide +kernel)
theorem ki_X6_set : Cond.instanceMethod yX6_set ∈ wsG := kG 679 (by decide +kernel) (by decide +kernel)
theorem ke_X6_set : Cond.selects RX6 yX6_set yX6_set ∈ wsG := kG 680 (by decide +kernel) (by decide +kernel)
theorem kc_X6_set : Cond.code yX6_set cX6_set 5 (some .int) ∈ wsG := kG 681 (by decide +kernel) (by decide +kernel)
theorem km_L_33 : Cond.methodLink RL 33 yX6_cut ∈ wsG := kG 682 (by decide +kernel) (by decide +kernel)
theorem ki_X6_cut : Cond.instanceMethod yX6_cut ∈ wsG := kG 683 (by decide +kernel) (by decide +kernel)
theorem ke_X6_cut : Cond.selects RX6 yX6_cut yX6_cut ∈ wsG := kG 684 (by decide +kernel) (by decide +kernel)
theorem kc_X6_cut : Cond.code yX6_cut cX6_cut 5 (some .int) ∈ wsG := kG 685 (by decide +kernel) (by decide +kernel)
theorem km_X6_90 : Cond.methodLink RX6 90 yX6_reason ∈ wsG := kG 686 (by decide +kernel) (by decide +kernel)
theorem ki_X6_reason : Cond.instanceMethod yX6_reason ∈ wsG := kG 688 (by decide +kernel) (by decide +kernel)
theorem kc_X6_reason : Cond.code yX6_reason cX6_reason 3 (some .int) ∈ wsG := kG 689 (by decide +kernel) (by decide +kernel)
theorem km_X6_86 : Cond.methodLink RX6 86 yX6_hasRight ∈ wsG := kG 690 (by decide +kernel) (by decide +kernel)
theorem ki_X6_hasRight : Cond.instanceMethod yX6_hasRight ∈ wsG := kG 692 (by decide +kernel) (by decide +kernel)
theorem kc_X6_hasRight : Cond.code yX6_hasRight cX6_hasRight 3 (some .boolean) ∈ wsG := kG 693 (by decide +kernel) (by decide +kernel)
theorem km_X6_46 : Cond.methodLink RX6 46 yX6_layRow ∈ wsG := kG 694 (by decide +kernel) (by decide +kernel)
theorem ki_X6_layRow : Cond.instanceMethod yX6_layRow ∈ wsG := kG 696 (by decide +kernel) (by decide +kernel)
theorem kc_X6_layRow : Cond.code yX6_layRow cX6_layRow 4 none ∈ wsG := kG 697 (by decide +kernel) (by decide +kernel)
theorem km_X6_93 : Cond.methodLink RX6 93 yX6_opensDispute ∈ wsG := kG 698 (by decide +kernel) (by decide +kernel)
theorem ki_X6_opensDispute : Cond.instanceMethod yX6_opensDispute ∈ wsG := kG 700 (by decide +kernel) (by decide +kernel)
theorem kc_X6_opensDispute : Cond.code yX6_opensDispute cX6_opensDispute 5 none ∈ wsG := kG 701 (by decide +kernel) (by decide +kernel)
theorem km_L_38 : Cond.methodLink RL 38 yX6_turn ∈ wsG := kG 702 (by decide +kernel) (by decide +kernel)
theorem ki_X6_turn : Cond.instanceMethod yX6_turn ∈ wsG := kG 703 (by decide +kernel) (by decide +kernel)
theorem ke_X6_turn : Cond.selects RX6 yX6_turn yX6_turn ∈ wsG := kG 704 (by decide +kernel) (by decide +kernel)
theorem kc_X6_turn : Cond.code yX6_turn cX6_turn 3 (some .int) ∈ wsG := kG 705 (by decide +kernel) (by decide +kernel)
theorem km_X6_96 : Cond.methodLink RX6 96 yX6_placeOf ∈ wsG := kG 706 (by decide +kernel) (by decide +kernel)
theorem ki_X6_placeOf : Cond.instanceMethod yX6_placeOf ∈ wsG := kG 708 (by decide +kernel) (by decide +kernel)
theorem kc_X6_placeOf : Cond.code yX6_placeOf cX6_placeOf 3 (some .int) ∈ wsG := kG 709 (by decide +kernel) (by decide +kernel)
theorem km_X6_36 : Cond.methodLink RX6 36 yX6_ofRow ∈ wsG := kG 710 (by decide +kernel) (by decide +kernel)
theorem ki_X6_ofRow : Cond.instanceMethod yX6_ofRow ∈ wsG := kG 712 (by decide +kernel) (by decide +kernel)
theorem kc_X6_ofRow : Cond.code yX6_ofRow cX6_ofRow 3 (some .int) ∈ wsG := kG 713 (by decide +kernel) (by decide +kernel)
theorem km_L_42 : Cond.methodLink RL 42 yX6_stack ∈ wsG := kG 714 (by decide +kernel) (by decide +kernel)
theorem ki_X6_stack : Cond.instanceMethod yX6_stack ∈ wsG := kG 715 (by decide +kernel) (by decide +kernel)
theorem ke_X6_stack : Cond.selects RX6 yX6_stack yX6_stack ∈ wsG := kG 716 (by decide +kernel) (by decide +kernel)
theorem kc_X6_stack : Cond.code yX6_stack cX6_stack 3 (some .int) ∈ wsG := kG 717 (by decide +kernel) (by decide +kernel)
theorem km_X6_99 : Cond.methodLink RX6 99 yX6_rowsOf ∈ wsG := kG 718 (by decide +kernel) (by decide +kernel)
theorem ki_X6_rowsOf : Cond.instanceMethod yX6_rowsOf ∈ wsG := kG 720 (by decide +kernel) (by decide +kernel)
theorem kc_X6_rowsOf : Cond.code yX6_rowsOf cX6_rowsOf 5 (some .int) ∈ wsG := kG 721 (by decide +kernel) (by decide +kernel)
theorem km_L_46 : Cond.methodLink RL 46 yX6_pass ∈ wsG := kG 722 (by decide +kernel) (by decide +kernel)
theorem ki_X6_pass : Cond.instanceMethod yX6_pass ∈ wsG := kG 723 (by decide +kernel) (by decide +kernel)
theorem ke_X6_pass : Cond.selects RX6 yX6_pass yX6_pass ∈ wsG := kG 724 (by decide +kernel) (by decide +kernel)
theorem kc_X6_pass : Cond.code yX6_pass cX6_pass 2 (some .int) ∈ wsG := kG 725 (by decide +kernel) (by decide +kernel)
theorem km_X6_103 : Cond.methodLink RX6 103 yX6_passes ∈ wsG := kG 726 (by decide +kernel) (by decide +kernel)
theorem ki_X6_passes : Cond.instanceMethod yX6_passes ∈ wsG := kG 728 (by decide +kernel) (by decide +kernel)
theorem kc_X6_passes : Cond.code yX6_passes cX6_passes 3 (some .int) ∈ wsG := kG 729 (by decide +kernel) (by decide +kernel)
theorem km_X6_64 : Cond.methodLink RX6 64 yX6_weathers ∈ wsG := kG 730 (by decide +kernel) (by decide +kernel)
theorem ki_X6_weathers : Cond.instanceMethod yX6_weathers ∈ wsG := kG 732 (by decide +kernel) (by decide +kernel)
theorem kc_X6_weathers : Cond.code yX6_weathers cX6_weathers 4 none ∈ wsG := kG 733 (by decide +kernel) (by decide +kernel)
theorem km_X6_43 : Cond.methodLink RX6 43 yX6_drier ∈ wsG := kG 734 (by decide +kernel) (by decide +kernel)
theorem ks_X6_drier : Cond.static yX6_drier ∈ wsG := kG 735 (by decide +kernel) (by decide +kernel)
theorem kc_X6_drier : Cond.code yX6_drier cX6_drier 2 (some .int) ∈ wsG := kG 736 (by decide +kernel) (by decide +kernel)
theorem km_X6_67 : Cond.methodLink RX6 67 yX6_serves ∈ wsG := kG 737 (by decide +kernel) (by decide +kernel)
theorem ki_X6_serves : Cond.instanceMethod yX6_serves ∈ wsG := kG 739 (by decide +kernel) (by decide +kernel)
theorem kc_X6_serves : Cond.code yX6_serves cX6_serves 5 (some .int) ∈ wsG := kG 740 (by decide +kernel) (by decide +kernel)
theorem km_X6_50 : Cond.methodLink RX6 50 yX6_nextFor ∈ wsG := kG 741 (by decide +kernel) (by decide +kernel)
theorem ki_X6_nextFor : Cond.instanceMethod yX6_nextFor ∈ wsG := kG 743 (by decide +kernel) (by decide +kernel)
theorem kc_X6_nextFor : Cond.code yX6_nextFor cX6_nextFor 5 (some .int) ∈ wsG := kG 744 (by decide +kernel) (by decide +kernel)
theorem km_X6_54 : Cond.methodLink RX6 54 yX6_brings ∈ wsG := kG 745 (by decide +kernel) (by decide +kernel)
theorem ki_X6_brings : Cond.instanceMethod yX6_brings ∈ wsG := kG 747 (by decide +kernel) (by decide +kernel)
theorem kc_X6_brings : Cond.code yX6_brings cX6_brings 3 (some .int) ∈ wsG := kG 748 (by decide +kernel) (by decide +kernel)
theorem km_X6_60 : Cond.methodLink RX6 60 yX6_leaves ∈ wsG := kG 749 (by decide +kernel) (by decide +kernel)
theorem ki_X6_leaves : Cond.instanceMethod yX6_leaves ∈ wsG := kG 751 (by decide +kernel) (by decide +kernel)
theorem kc_X6_leaves : Cond.code yX6_leaves cX6_leaves 3 none ∈ wsG := kG 752 (by decide +kernel) (by decide +kernel)
theorem km_L_51 : Cond.methodLink RL 51 yX6_passAll ∈ wsG := kG 753 (by decide +kernel) (by decide +kernel)
theorem ki_X6_passAll : Cond.instanceMethod yX6_passAll ∈ wsG := kG 754 (by decide +kernel) (by decide +kernel)
theorem ke_X6_passAll : Cond.selects RX6 yX6_passAll yX6_passAll ∈ wsG := kG 755 (by decide +kernel) (by decide +kernel)
theorem kc_X6_passAll : Cond.code yX6_passAll cX6_passAll 5 (some .int) ∈ wsG := kG 756 (by decide +kernel) (by decide +kernel)
theorem km_X6_106 : Cond.methodLink RX6 106 yX6_reads ∈ wsG := kG 757 (by decide +kernel) (by decide +kernel)
theorem ki_X6_reads : Cond.instanceMethod yX6_reads ∈ wsG := kG 759 (by decide +kernel) (by decide +kernel)
theorem kc_X6_reads : Cond.code yX6_reads cX6_reads 1 (some .int) ∈ wsG := kG 760 (by decide +kernel) (by decide +kernel)
theorem km_X6_135 : Cond.methodLink RX6 135 yX6_readsGroup ∈ wsG := kG 761 (by decide +kernel) (by decide +kernel)
theorem ki_X6_readsGroup : Cond.instanceMethod yX6_readsGroup ∈ wsG := kG 763 (by decide +kernel) (by decide +kernel)
theorem kc_X6_readsGroup : Cond.code yX6_readsGroup cX6_readsGroup 2 none ∈ wsG := kG 764 (by decide +kernel) (by decide +kernel)
theorem km_X6_125 : Cond.methodLink RX6 125 yX6_sign ∈ wsG := kG 765 (by decide +kernel) (by decide +kernel)
theorem ki_X6_sign : Cond.instanceMethod yX6_sign ∈ wsG := kG 767 (by decide +kernel) (by decide +kernel)
theorem kc_X6_sign : Cond.code yX6_sign cX6_sign 1 (some .int) ∈ wsG := kG 768 (by decide +kernel) (by decide +kernel)
theorem km_X6_132 : Cond.methodLink RX6 132 yX6_number ∈ wsG := kG 769 (by decide +kernel) (by decide +kernel)
theorem ki_X6_number : Cond.instanceMethod yX6_number ∈ wsG := kG 771 (by decide +kernel) (by decide +kernel)
theorem kc_X6_number : Cond.code yX6_number cX6_number 2 (some .int) ∈ wsG := kG 772 (by decide +kernel) (by decide +kernel)
theorem km_L_55 : Cond.methodLink RL 55 yX6_settle ∈ wsG := kG 773 (by decide +kernel) (by decide +kernel)
theorem ki_X6_settle : Cond.instanceMethod yX6_settle ∈ wsG := kG 774 (by decide +kernel) (by decide +kernel)
theorem ke_X6_settle : Cond.selects RX6 yX6_settle yX6_settle ∈ wsG := kG 775 (by decide +kernel) (by decide +kernel)
theorem kc_X6_settle : Cond.code yX6_settle cX6_settle 5 (some .int) ∈ wsG := kG 776 (by decide +kernel) (by decide +kernel)
theorem km_X6_113 : Cond.methodLink RX6 113 yX6_ofDispute ∈ wsG := kG 777 (by decide +kernel) (by decide +kernel)
theorem ki_X6_ofDispute : Cond.instanceMethod yX6_ofDispute ∈ wsG := kG 779 (by decide +kernel) (by decide +kernel)
theorem kc_X6_ofDispute : Cond.code yX6_ofDispute cX6_ofDispute 3 (some .int) ∈ wsG := kG 780 (by decide +kernel) (by decide +kernel)
theorem km_X6_116 : Cond.methodLink RX6 116 yX6_dropsOldest ∈ wsG := kG 781 (by decide +kernel) (by decide +kernel)
theorem ki_X6_dropsOldest : Cond.instanceMethod yX6_dropsOldest ∈ wsG := kG 783 (by decide +kernel) (by decide +kernel)
theorem kc_X6_dropsOldest : Cond.code yX6_dropsOldest cX6_dropsOldest 2 none ∈ wsG := kG 784 (by decide +kernel) (by decide +kernel)
theorem km_L_59 : Cond.methodLink RL 59 yX6_endYear ∈ wsG := kG 785 (by decide +kernel) (by decide +kernel)
theorem ki_X6_endYear : Cond.instanceMethod yX6_endYear ∈ wsG := kG 786 (by decide +kernel) (by decide +kernel)
theorem ke_X6_endYear : Cond.selects RX6 yX6_endYear yX6_endYear ∈ wsG := kG 787 (by decide +kernel) (by decide +kernel)
theorem kc_X6_endYear : Cond.code yX6_endYear cX6_endYear 3 (some .int) ∈ wsG := kG 788 (by decide +kernel) (by decide +kernel)
theorem km_L_64 : Cond.methodLink RL 64 yX6_type ∈ wsG := kG 789 (by decide +kernel) (by decide +kernel)
theorem ki_X6_type : Cond.instanceMethod yX6_type ∈ wsG := kG 790 (by decide +kernel) (by decide +kernel)
theorem ke_X6_type : Cond.selects RX6 yX6_type yX6_type ∈ wsG := kG 791 (by decide +kernel) (by decide +kernel)
theorem kc_X6_type : Cond.code yX6_type cX6_type 2 (some .int) ∈ wsG := kG 792 (by decide +kernel) (by decide +kernel)
theorem km_L_68 : Cond.methodLink RL 68 yX6_clearText ∈ wsG := kG 793 (by decide +kernel) (by decide +kernel)
theorem ki_X6_clearText : Cond.instanceMethod yX6_clearText ∈ wsG := kG 794 (by decide +kernel) (by decide +kernel)
theorem ke_X6_clearText : Cond.selects RX6 yX6_clearText yX6_clearText ∈ wsG := kG 795 (by decide +kernel) (by decide +kernel)
theorem kc_X6_clearText : Cond.code yX6_clearText cX6_clearText 2 (some .int) ∈ wsG := kG 796 (by decide +kernel) (by decide +kernel)
theorem km_L_72 : Cond.methodLink RL 72 yX6_undo ∈ wsG := kG 797 (by decide +kernel) (by decide +kernel)
theorem ki_X6_undo : Cond.instanceMethod yX6_undo ∈ wsG := kG 798 (by decide +kernel) (by decide +kernel)
theorem ke_X6_undo : Cond.selects RX6 yX6_undo yX6_undo ∈ wsG := kG 799 (by decide +kernel) (by decide +kernel)
theorem kc_X6_undo : Cond.code yX6_undo cX6_undo 2 (some .int) ∈ wsG := kG 800 (by decide +kernel) (by decide +kernel)
theorem km_L_76 : Cond.methodLink RL 76 yX6_keep ∈ wsG := kG 801 (by decide +kernel) (by decide +kernel)
theorem ki_X6_keep : Cond.instanceMethod yX6_keep ∈ wsG := kG 802 (by decide +kernel) (by decide +kernel)
theorem ke_X6_keep : Cond.selects RX6 yX6_keep yX6_keep ∈ wsG := kG 803 (by decide +kernel) (by decide +kernel)
theorem kc_X6_keep : Cond.code yX6_keep cX6_keep 2 (some .int) ∈ wsG := kG 804 (by decide +kernel) (by decide +kernel)
theorem km_L_80 : Cond.methodLink RL 80 yX6_restore ∈ wsG := kG 805 (by decide +kernel) (by decide +kernel)
theorem ki_X6_restore : Cond.instanceMethod yX6_restore ∈ wsG := kG 806 (by decide +kernel) (by decide +kernel)
theorem ke_X6_restore : Cond.selects RX6 yX6_restore yX6_restore ∈ wsG := kG 807 (by decide +kernel) (by decide +kernel)
theorem kc_X6_restore : Cond.code yX6_restore cX6_restore 2 (some .int) ∈ wsG := kG 808 (by decide +kernel) (by decide +kernel)
theorem km_L_84 : Cond.methodLink RL 84 yX6_commoner ∈ wsG := kG 809 (by decide +kernel) (by decide +kernel)
theorem ki_X6_commoner : Cond.instanceMethod yX6_commoner ∈ wsG := kG 810 (by decide +kernel) (by decide +kernel)
theorem ke_X6_commoner : Cond.selects RX6 yX6_commoner yX6_commoner ∈ wsG := kG 811 (by decide +kernel) (by decide +kernel)
theorem kc_X6_commoner : Cond.code yX6_commoner cX6_commoner 3 (some .int) ∈ wsG := kG 812 (by decide +kernel) (by decide +kernel)
theorem km_X6_141 : Cond.methodLink RX6 141 yX6_plotsOf ∈ wsG := kG 813 (by decide +kernel) (by decide +kernel)
theorem ki_X6_plotsOf : Cond.instanceMethod yX6_plotsOf ∈ wsG := kG 815 (by decide +kernel) (by decide +kernel)
theorem kc_X6_plotsOf : Cond.code yX6_plotsOf cX6_plotsOf 5 (some .int) ∈ wsG := kG 816 (by decide +kernel) (by decide +kernel)
theorem km_X6_144 : Cond.methodLink RX6 144 yX6_disputesOf ∈ wsG := kG 817 (by decide +kernel) (by decide +kernel)
theorem ki_X6_disputesOf : Cond.instanceMethod yX6_disputesOf ∈ wsG := kG 819 (by decide +kernel) (by decide +kernel)
theorem kc_X6_disputesOf : Cond.code yX6_disputesOf cX6_disputesOf 4 (some .int) ∈ wsG := kG 820 (by decide +kernel) (by decide +kernel)
theorem km_L_88 : Cond.methodLink RL 88 yX6_plot ∈ wsG := kG 821 (by decide +kernel) (by decide +kernel)
theorem ki_X6_plot : Cond.instanceMethod yX6_plot ∈ wsG := kG 822 (by decide +kernel) (by decide +kernel)
theorem ke_X6_plot : Cond.selects RX6 yX6_plot yX6_plot ∈ wsG := kG 823 (by decide +kernel) (by decide +kernel)
theorem kc_X6_plot : Cond.code yX6_plot cX6_plot 3 (some .int) ∈ wsG := kG 824 (by decide +kernel) (by decide +kernel)
theorem km_L_92 : Cond.methodLink RL 92 yX6_row ∈ wsG := kG 825 (by decide +kernel) (by decide +kernel)
theorem ki_X6_row : Cond.instanceMethod yX6_row ∈ wsG := kG 826 (by decide +kernel) (by decide +kernel)
theorem ke_X6_row : Cond.selects RX6 yX6_row yX6_row ∈ wsG := kG 827 (by decide +kernel) (by decide +kernel)
theorem kc_X6_row : Cond.code yX6_row cX6_row 4 (some .int) ∈ wsG := kG 828 (by decide +kernel) (by decide +kernel)
theorem km_L_96 : Cond.methodLink RL 96 yX6_driest ∈ wsG := kG 829 (by decide +kernel) (by decide +kernel)
theorem ki_X6_driest : Cond.instanceMethod yX6_driest ∈ wsG := kG 830 (by decide +kernel) (by decide +kernel)
theorem ke_X6_driest : Cond.selects RX6 yX6_driest yX6_driest ∈ wsG := kG 831 (by decide +kernel) (by decide +kernel)
theorem kc_X6_driest : Cond.code yX6_driest cX6_driest 4 (some .int) ∈ wsG := kG 832 (by decide +kernel) (by decide +kernel)
theorem km_X6_147 : Cond.methodLink RX6 147 yX6_ahead ∈ wsG := kG 833 (by decide +kernel) (by decide +kernel)
theorem ki_X6_ahead : Cond.instanceMethod yX6_ahead ∈ wsG := kG 835 (by decide +kernel) (by decide +kernel)
theorem kc_X6_ahead : Cond.code yX6_ahead cX6_ahead 5 (some .int) ∈ wsG := kG 836 (by decide +kernel) (by decide +kernel)
theorem km_L_100 : Cond.methodLink RL 100 yX6_why ∈ wsG := kG 837 (by decide +kernel) (by decide +kernel)
theorem ki_X6_why : Cond.instanceMethod yX6_why ∈ wsG := kG 838 (by decide +kernel) (by decide +kernel)
theorem ke_X6_why : Cond.selects RX6 yX6_why yX6_why ∈ wsG := kG 839 (by decide +kernel) (by decide +kernel)
theorem kc_X6_why : Cond.code yX6_why cX6_why 3 (some .int) ∈ wsG := kG 840 (by decide +kernel) (by decide +kernel)
theorem km_L_104 : Cond.methodLink RL 104 yX6_dispute ∈ wsG := kG 841 (by decide +kernel) (by decide +kernel)
theorem ki_X6_dispute : Cond.instanceMethod yX6_dispute ∈ wsG := kG 842 (by decide +kernel) (by decide +kernel)
theorem ke_X6_dispute : Cond.selects RX6 yX6_dispute yX6_dispute ∈ wsG := kG 843 (by decide +kernel) (by decide +kernel)
theorem kc_X6_dispute : Cond.code yX6_dispute cX6_dispute 3 (some .int) ∈ wsG := kG 844 (by decide +kernel) (by decide +kernel)
theorem km_L_108 : Cond.methodLink RL 108 yX6_cart ∈ wsG := kG 845 (by decide +kernel) (by decide +kernel)
theorem ki_X6_cart : Cond.instanceMethod yX6_cart ∈ wsG := kG 846 (by decide +kernel) (by decide +kernel)
theorem ke_X6_cart : Cond.selects RX6 yX6_cart yX6_cart ∈ wsG := kG 847 (by decide +kernel) (by decide +kernel)
theorem kc_X6_cart : Cond.code yX6_cart cX6_cart 2 (some .int) ∈ wsG := kG 848 (by decide +kernel) (by decide +kernel)
theorem km_L_112 : Cond.methodLink RL 112 yX6_would ∈ wsG := kG 849 (by decide +kernel) (by decide +kernel)
theorem ki_X6_would : Cond.instanceMethod yX6_would ∈ wsG := kG 850 (by decide +kernel) (by decide +kernel)
theorem ke_X6_would : Cond.selects RX6 yX6_would yX6_would ∈ wsG := kG 851 (by decide +kernel) (by decide +kernel)
theorem kc_X6_would : Cond.code yX6_would cX6_would 5 (some .int) ∈ wsG := kG 852 (by decide +kernel) (by decide +kernel)
theorem km_L_116 : Cond.methodLink RL 116 yX6_count ∈ wsG := kG 853 (by decide +kernel) (by decide +kernel)
theorem ki_X6_count : Cond.instanceMethod yX6_count ∈ wsG := kG 854 (by decide +kernel) (by decide +kernel)
theorem ke_X6_count : Cond.selects RX6 yX6_count yX6_count ∈ wsG := kG 855 (by decide +kernel) (by decide +kernel)
theorem kc_X6_count : Cond.code yX6_count cX6_count 2 (some .int) ∈ wsG := kG 856 (by decide +kernel) (by decide +kernel)
theorem km_X6_150 : Cond.methodLink RX6 150 yX6_rowsThat ∈ wsG := kG 857 (by decide +kernel) (by decide +kernel)
theorem ki_X6_rowsThat : Cond.instanceMethod yX6_rowsThat ∈ wsG := kG 859 (by decide +kernel) (by decide +kernel)
theorem kc_X6_rowsThat : Cond.code yX6_rowsThat cX6_rowsThat 4 (some .int) ∈ wsG := kG 860 (by decide +kernel) (by decide +kernel)
theorem km_X6_153 : Cond.methodLink RX6 153 yX6_allPeats ∈ wsG := kG 861 (by decide +kernel) (by decide +kernel)
theorem ki_X6_allPeats : Cond.instanceMethod yX6_allPeats ∈ wsG := kG 863 (by decide +kernel) (by decide +kernel)
theorem kc_X6_allPeats : Cond.code yX6_allPeats cX6_allPeats 3 (some .int) ∈ wsG := kG 864 (by decide +kernel) (by decide +kernel)
theorem km_X6_156 : Cond.methodLink RX6 156 yX6_allLayers ∈ wsG := kG 865 (by decide +kernel) (by decide +kernel)
theorem ki_X6_allLayers : Cond.instanceMethod yX6_allLayers ∈ wsG := kG 867 (by decide +kernel) (by decide +kernel)
theorem kc_X6_allLayers : Cond.code yX6_allLayers cX6_allLayers 3 (some .int) ∈ wsG := kG 868 (by decide +kernel) (by decide +kernel)
theorem ke_X3_hasDayLeft : Cond.selects RX3 yX3_hasDayLeft yX3_hasDayLeft ∈ wsG := kG 0 (by decide +kernel) (by decide +kernel)
theorem ke_X3_hasRight : Cond.selects RX3 yX3_hasRight yX3_hasRight ∈ wsG := kG 1 (by decide +kernel) (by decide +kernel)
theorem ke_X4_isStacked : Cond.selects RX4 yX4_isStacked yX4_isStacked ∈ wsG := kG 2 (by decide +kernel) (by decide +kernel)
theorem ke_X3_serve : Cond.selects RX3 yX3_serve yX3_serve ∈ wsG := kG 3 (by decide +kernel) (by decide +kernel)
theorem ke_X0_openGroup : Cond.selects RX0 yX0_openGroup yX0_openGroup ∈ wsG := kG 4 (by decide +kernel) (by decide +kernel)
theorem ke_X3_useDayIfLeft : Cond.selects RX3 yX3_useDayIfLeft yX3_useDayIfLeft ∈ wsG := kG 5 (by decide +kernel) (by decide +kernel)
theorem ke_X3_givePeats : Cond.selects RX3 yX3_givePeats yX3_givePeats ∈ wsG := kG 6 (by decide +kernel) (by decide +kernel)
theorem ke_X4_isLyingOf : Cond.selects RX4 yX4_isLyingOf yX4_isLyingOf ∈ wsG := kG 7 (by decide +kernel) (by decide +kernel)
theorem ke_X4_countDrierThan : Cond.selects RX4 yX4_countDrierThan yX4_countDrierThan ∈ wsG := kG 8 (by decide +kernel) (by decide +kernel)
theorem ke_X4_comesBefore : Cond.selects RX4 yX4_comesBefore yX4_comesBefore ∈ wsG := kG 9 (by decide +kernel) (by decide +kernel)
theorem ke_X6_ofPlot : Cond.selects RX6 yX6_ofPlot yX6_ofPlot ∈ wsG := kG 10 (by decide +kernel) (by decide +kernel)
theorem ke_X6_records : Cond.selects RX6 yX6_records yX6_records ∈ wsG := kG 11 (by decide +kernel) (by decide +kernel)
theorem ke_X6_ofCommoner : Cond.selects RX6 yX6_ofCommoner yX6_ofCommoner ∈ wsG := kG 12 (by decide +kernel) (by decide +kernel)
theorem ke_X6_addCommoner : Cond.selects RX6 yX6_addCommoner yX6_addCommoner ∈ wsG := kG 13 (by decide +kernel) (by decide +kernel)
theorem ke_X6_reason : Cond.selects RX6 yX6_reason yX6_reason ∈ wsG := kG 14 (by decide +kernel) (by decide +kernel)
theorem ke_X6_hasRight : Cond.selects RX6 yX6_hasRight yX6_hasRight ∈ wsG := kG 15 (by decide +kernel) (by decide +kernel)
theorem ke_X6_layRow : Cond.selects RX6 yX6_layRow yX6_layRow ∈ wsG := kG 16 (by decide +kernel) (by decide +kernel)
theorem ke_X6_opensDispute : Cond.selects RX6 yX6_opensDispute yX6_opensDispute ∈ wsG := kG 17 (by decide +kernel) (by decide +kernel)
theorem ke_X6_placeOf : Cond.selects RX6 yX6_placeOf yX6_placeOf ∈ wsG := kG 18 (by decide +kernel) (by decide +kernel)
theorem ke_X6_ofRow : Cond.selects RX6 yX6_ofRow yX6_ofRow ∈ wsG := kG 19 (by decide +kernel) (by decide +kernel)
theorem ke_X6_rowsOf : Cond.selects RX6 yX6_rowsOf yX6_rowsOf ∈ wsG := kG 20 (by decide +kernel) (by decide +kernel)
theorem ke_X6_passes : Cond.selects RX6 yX6_passes yX6_passes ∈ wsG := kG 21 (by decide +kernel) (by decide +kernel)
theorem ke_X6_weathers : Cond.selects RX6 yX6_weathers yX6_weathers ∈ wsG := kG 22 (by decide +kernel) (by decide +kernel)
theorem ke_X6_serves : Cond.selects RX6 yX6_serves yX6_serves ∈ wsG := kG 23 (by decide +kernel) (by decide +kernel)
theorem ke_X6_nextFor : Cond.selects RX6 yX6_nextFor yX6_nextFor ∈ wsG := kG 24 (by decide +kernel) (by decide +kernel)
theorem ke_X6_brings : Cond.selects RX6 yX6_brings yX6_brings ∈ wsG := kG 25 (by decide +kernel) (by decide +kernel)
theorem ke_X6_leaves : Cond.selects RX6 yX6_leaves yX6_leaves ∈ wsG := kG 26 (by decide +kernel) (by decide +kernel)
theorem ke_X6_reads : Cond.selects RX6 yX6_reads yX6_reads ∈ wsG := kG 27 (by decide +kernel) (by decide +kernel)
theorem ke_X6_readsGroup : Cond.selects RX6 yX6_readsGroup yX6_readsGroup ∈ wsG := kG 28 (by decide +kernel) (by decide +kernel)
theorem ke_X6_sign : Cond.selects RX6 yX6_sign yX6_sign ∈ wsG := kG 29 (by decide +kernel) (by decide +kernel)
theorem ke_X6_number : Cond.selects RX6 yX6_number yX6_number ∈ wsG := kG 30 (by decide +kernel) (by decide +kernel)
theorem ke_X6_ofDispute : Cond.selects RX6 yX6_ofDispute yX6_ofDispute ∈ wsG := kG 31 (by decide +kernel) (by decide +kernel)
theorem ke_X6_dropsOldest : Cond.selects RX6 yX6_dropsOldest yX6_dropsOldest ∈ wsG := kG 32 (by decide +kernel) (by decide +kernel)
theorem ke_X6_plotsOf : Cond.selects RX6 yX6_plotsOf yX6_plotsOf ∈ wsG := kG 33 (by decide +kernel) (by decide +kernel)
theorem ke_X6_disputesOf : Cond.selects RX6 yX6_disputesOf yX6_disputesOf ∈ wsG := kG 34 (by decide +kernel) (by decide +kernel)
theorem ke_X6_ahead : Cond.selects RX6 yX6_ahead yX6_ahead ∈ wsG := kG 35 (by decide +kernel) (by decide +kernel)
theorem ke_X6_rowsThat : Cond.selects RX6 yX6_rowsThat yX6_rowsThat ∈ wsG := kG 36 (by decide +kernel) (by decide +kernel)
theorem ke_X6_allPeats : Cond.selects RX6 yX6_allPeats yX6_allPeats ∈ wsG := kG 37 (by decide +kernel) (by decide +kernel)
theorem ke_X6_allLayers : Cond.selects RX6 yX6_allLayers yX6_allLayers ∈ wsG := kG 38 (by decide +kernel) (by decide +kernel)
end
section
theorem dX0_init_0 : decode cX0_init 0 = .ok (.aload_n 0, 1) := by decide +kernel
theorem dX0_init_1 : decode cX0_init 1 = .ok (.invokespecial 3, 3) := by decide +kernel
theorem dX0_init_4 : decode cX0_init 4 = .ok (.aload_n 0, 1) := by decide +kernel
theorem dX0_init_5 : decode cX0_init 5 = .ok (.bipush 60, 2) := by decide +kernel
theorem dX0_init_7 : decode cX0_init 7 = .ok (.newarray .char, 2) := by decide +kernel
theorem dX0_init_9 : decode cX0_init 9 = .ok (.putfield 9, 3) := by decide +kernel
theorem dX0_init_12 : decode cX0_init 12 = .ok (.aload_n 0, 1) := by decide +kernel
theorem dX0_init_13 : decode cX0_init 13 = .ok (.bipush 60, 2) := by decide +kernel
theorem dX0_init_15 : decode cX0_init 15 = .ok (.newarray .int, 2) := by decide +kernel
theorem dX0_init_17 : decode cX0_init 17 = .ok (.putfield 15, 3) := by decide +kernel
theorem dX0_init_20 : decode cX0_init 20 = .ok (.aload_n 0, 1) := by decide +kernel
theorem dX0_init_21 : decode cX0_init 21 = .ok (.bipush 60, 2) := by decide +kernel
theorem dX0_init_23 : decode cX0_init 23 = .ok (.newarray .int, 2) := by decide +kernel
theorem dX0_init_25 : decode cX0_init 25 = .ok (.putfield 19, 3) := by decide +kernel
theorem dX0_init_28 : decode cX0_init 28 = .ok (.return_, 1) := by decide +kernel
theorem dX0_append_0 : decode cX0_append 0 = .ok (.aload_n 0, 1) := by decide +kernel
theorem dX0_append_1 : decode cX0_append 1 = .ok (.getfield 22, 3) := by decide +kernel
theorem dX0_append_4 : decode cX0_append 4 = .ok (.bipush 60, 2) := by decide +kernel
theorem dX0_append_6 : decode cX0_append 6 = .ok (.if_icmp .lt 5, 3) := by decide +kernel
theorem dX0_append_9 : decode cX0_append 9 = .ok (.iconst 0, 1) := by decide +kernel
theorem dX0_append_10 : decode cX0_append 10 = .ok (.ireturn, 1) := by decide +kernel
theorem dX0_append_11 : decode cX0_append 11 = .ok (.aload_n 0, 1) := by decide +kernel
theorem dX0_append_12 : decode cX0_append 12 = .ok (.getfield 9, 3) := by decide +kernel
theorem dX0_append_15 : decode cX0_append 15 = .ok (.aload_n 0, 1) := by decide +kernel
theorem dX0_append_16 : decode cX0_append 16 = .ok (.getfield 22, 3) := by decide +kernel
theorem dX0_append_19 : decode cX0_append 19 = .ok (.iload_n 1, 1) := by decide +kernel
theorem dX0_append_20 : decode cX0_append 20 = .ok (.castore, 1) := by decide +kernel
theorem dX0_append_21 : decode cX0_append 21 = .ok (.aload_n 0, 1) := by decide +kernel
theorem dX0_append_22 : decode cX0_append 22 = .ok (.dup, 1) := by decide +kernel
theorem dX0_append_23 : decode cX0_append 23 = .ok (.getfield 22, 3) := by decide +kernel
theorem dX0_append_26 : decode cX0_append 26 = .ok (.iconst 1, 1) := by decide +kernel
theorem dX0_append_27 : decode cX0_append 27 = .ok (.iadd, 1) := by decide +kernel
theorem dX0_append_28 : decode cX0_append 28 = .ok (.putfield 22, 3) := by decide +kernel
theorem dX0_append_31 : decode cX0_append 31 = .ok (.iconst 1, 1) := by decide +kernel
theorem dX0_append_32 : decode cX0_append 32 = .ok (.ireturn, 1) := by decide +kernel
theorem dX0_readGroups_0 : decode cX0_readGroups 0 = .ok (.aload_n 0, 1) := by decide +kernel
theorem dX0_readGroups_1 : decode cX0_readGroups 1 = .ok (.iconst 0, 1) := by decide +kernel
theorem dX0_readGroups_2 : decode cX0_readGroups 2 = .ok (.putfield 26, 3) := by decide +kernel
theorem dX0_readGroups_5 : decode cX0_readGroups 5 = .ok (.iconst 0, 1) := by decide +kernel
theorem dX0_readGroups_6 : decode cX0_readGroups 6 = .ok (.istore_n 1, 1) := by decide +kernel
theorem dX0_readGroups_7 : decode cX0_readGroups 7 = .ok (.iconst 0, 1) := by decide +kernel
theorem dX0_readGroups_8 : decode cX0_readGroups 8 = .ok (.istore_n 2, 1) := by decide +kernel
theorem dX0_readGroups_9 : decode cX0_readGroups 9 = .ok (.iload_n 2, 1) := by decide +kernel
theorem dX0_readGroups_10 : decode cX0_readGroups 10 = .ok (.aload_n 0, 1) := by decide +kernel
theorem dX0_readGroups_11 : decode cX0_readGroups 11 = .ok (.getfield 22, 3) := by decide +kernel
theorem dX0_readGroups_14 : decode cX0_readGroups 14 = .ok (.if_icmp .ge 94, 3) := by decide +kernel
theorem dX0_readGroups_17 : decode cX0_readGroups 17 = .ok (.aload_n 0, 1) := by decide +kernel
theorem dX0_readGroups_18 : decode cX0_readGroups 18 = .ok (.getfield 9, 3) := by decide +kernel
theorem dX0_readGroups_21 : decode cX0_readGroups 21 = .ok (.iload_n 2, 1) := by decide +kernel
theorem dX0_readGroups_22 : decode cX0_readGroups 22 = .ok (.caload, 1) := by decide +kernel
theorem dX0_readGroups_23 : decode cX0_readGroups 23 = .ok (.istore_n 3, 1) := by decide +kernel
theorem dX0_readGroups_24 : decode cX0_readGroups 24 = .ok (.iload_n 3, 1) := by decide +kernel
theorem dX0_readGroups_25 : decode cX0_readGroups 25 = .ok (.invokestatic 29, 3) := by decide +kernel
theorem dX0_readGroups_28 : decode cX0_readGroups 28 = .ok (.ifCond .eq 21, 3) := by decide +kernel
theorem dX0_readGroups_31 : decode cX0_readGroups 31 = .ok (.iload_n 1, 1) := by decide +kernel
theorem dX0_readGroups_32 : decode cX0_readGroups 32 = .ok (.iconst 1, 1) := by decide +kernel
theorem dX0_readGroups_33 : decode cX0_readGroups 33 = .ok (.if_icmp .eq 16, 3) := by decide +kernel
theorem dX0_readGroups_36 : decode cX0_readGroups 36 = .ok (.aload_n 0, 1) := by decide +kernel
theorem dX0_readGroups_37 : decode cX0_readGroups 37 = .ok (.iload_n 3, 1) := by decide +kernel
theorem dX0_readGroups_38 : decode cX0_readGroups 38 = .ok (.invokestatic 33, 3) := by decide +kernel
theorem dX0_readGroups_41 : decode cX0_readGroups 41 = .ok (.invokevirtual 37, 3) := by decide +kernel
theorem dX0_readGroups_44 : decode cX0_readGroups 44 = .ok (.iconst 0, 1) := by decide +kernel
theorem dX0_readGroups_45 : decode cX0_readGroups 45 = .ok (.istore_n 1, 1) := by decide +kernel
theorem dX0_readGroups_46 : decode cX0_readGroups 46 = .ok (.goto 56, 3) := by decide +kernel
theorem dX0_readGroups_49 : decode cX0_readGroups 49 = .ok (.iload_n 3, 1) := by decide +kernel
theorem dX0_readGroups_50 : decode cX0_readGroups 50 = .ok (.invokestatic 41, 3) := by decide +kernel
theorem dX0_readGroups_53 : decode cX0_readGroups 53 = .ok (.ifCond .eq 47, 3) := by decide +kernel
theorem dX0_readGroups_56 : decode cX0_readGroups 56 = .ok (.aload_n 0, 1) := by decide +kernel
theorem dX0_readGroups_57 : decode cX0_readGroups 57 = .ok (.getfield 26, 3) := by decide +kernel
theorem dX0_readGroups_60 : decode cX0_readGroups 60 = .ok (.ifCond .le 40, 3) := by decide +kernel
theorem dX0_readGroups_63 : decode cX0_readGroups 63 = .ok (.iload_n 1, 1) := by decide +kernel
theorem dX0_readGroups_64 : decode cX0_readGroups 64 = .ok (.bipush 10, 2) := by decide +kernel
theorem dX0_readGroups_66 : decode cX0_readGroups 66 = .ok (.imul, 1) := by decide +kernel
theorem dX0_readGroups_67 : decode cX0_readGroups 67 = .ok (.iload_n 3, 1) := by decide +kernel
theorem dX0_readGroups_68 : decode cX0_readGroups 68 = .ok (.bipush 48, 2) := by decide +kernel
theorem dX0_readGroups_70 : decode cX0_readGroups 70 = .ok (.isub, 1) := by decide +kernel
theorem dX0_readGroups_71 : decode cX0_readGroups 71 = .ok (.iadd, 1) := by decide +kernel
theorem dX0_readGroups_72 : decode cX0_readGroups 72 = .ok (.istore_n 1, 1) := by decide +kernel
theorem dX0_readGroups_73 : decode cX0_readGroups 73 = .ok (.iload_n 1, 1) := by decide +kernel
theorem dX0_readGroups_74 : decode cX0_readGroups 74 = .ok (.ifCond .eq 9, 3) := by decide +kernel
theorem dX0_readGroups_77 : decode cX0_readGroups 77 = .ok (.iload_n 1, 1) := by decide +kernel
theorem dX0_readGroups_78 : decode cX0_readGroups 78 = .ok (.bipush 60, 2) := by decide +kernel
theorem dX0_readGroups_80 : decode cX0_readGroups 80 = .ok (.if_icmp .le 5, 3) := by decide +kernel
theorem dX0_readGroups_83 : decode cX0_readGroups 83 = .ok (.iload_n 2, 1) := by decide +kernel
theorem dX0_readGroups_84 : decode cX0_readGroups 84 = .ok (.ireturn, 1) := by decide +kernel
theorem dX0_readGroups_85 : decode cX0_readGroups 85 = .ok (.aload_n 0, 1) := by decide +kernel
theorem dX0_readGroups_86 : decode cX0_readGroups 86 = .ok (.getfield 19, 3) := by decide +kernel
theorem dX0_readGroups_89 : decode cX0_readGroups 89 = .ok (.aload_n 0, 1) := by decide +kernel
theorem dX0_readGroups_90 : decode cX0_readGroups 90 = .ok (.getfield 26, 3) := by decide +kernel
theorem dX0_readGroups_93 : decode cX0_readGroups 93 = .ok (.iconst 1, 1) := by decide +kernel
theorem dX0_readGroups_94 : decode cX0_readGroups 94 = .ok (.isub, 1) := by decide +kernel
theorem dX0_readGroups_95 : decode cX0_readGroups 95 = .ok (.iload_n 1, 1) := by decide +kernel
theorem dX0_readGroups_96 : decode cX0_readGroups 96 = .ok (.iastore, 1) := by decide +kernel
theorem dX0_readGroups_97 : decode cX0_readGroups 97 = .ok (.goto 5, 3) := by decide +kernel
theorem dX0_readGroups_100 : decode cX0_readGroups 100 = .ok (.iload_n 2, 1) := by decide +kernel
theorem dX0_readGroups_101 : decode cX0_readGroups 101 = .ok (.ireturn, 1) := by decide +kernel
theorem dX0_readGroups_102 : decode cX0_readGroups 102 = .ok (.iinc 2 1, 3) := by decide +kernel
theorem dX0_readGroups_105 : decode cX0_readGroups 105 = .ok (.goto (-96), 3) := by decide +kernel
theorem dX0_readGroups_108 : decode cX0_readGroups 108 = .ok (.aload_n 0, 1) := by decide +kernel
theorem dX0_readGroups_109 : decode cX0_readGroups 109 = .ok (.getfield 26, 3) := by decide +kernel
theorem dX0_readGroups_112 : decode cX0_readGroups 112 = .ok (.ifCond .eq 8, 3) := by decide +kernel
theorem dX0_readGroups_115 : decode cX0_readGroups 115 = .ok (.iload_n 1, 1) := by decide +kernel
theorem dX0_readGroups_116 : decode cX0_readGroups 116 = .ok (.iconst 1, 1) := by decide +kernel
theorem dX0_readGroups_117 : decode cX0_readGroups 117 = .ok (.if_icmp .ne 10, 3) := by decide +kernel
theorem dX0_readGroups_120 : decode cX0_readGroups 120 = .ok (.aload_n 0, 1) := by decide +kernel
theorem dX0_readGroups_121 : decode cX0_readGroups 121 = .ok (.getfield 22, 3) := by decide +kernel
theorem dX0_readGroups_124 : decode cX0_readGroups 124 = .ok (.goto 4, 3) := by decide +kernel
theorem dX0_readGroups_127 : decode cX0_readGroups 127 = .ok (.iconst (-1), 1) := by decide +kernel
theorem dX0_readGroups_128 : decode cX0_readGroups 128 = .ok (.ireturn, 1) := by decide +kernel
theorem dX0_openGroup_0 : decode cX0_openGroup 0 = .ok (.aload_n 0, 1) := by decide +kernel
theorem dX0_openGroup_1 : decode cX0_openGroup 1 = .ok (.getfield 26, 3) := by decide +kernel
theorem dX0_openGroup_4 : decode cX0_openGroup 4 = .ok (.bipush 60, 2) := by decide +kernel
theorem dX0_openGroup_6 : decode cX0_openGroup 6 = .ok (.if_icmp .ge 33, 3) := by decide +kernel
theorem dX0_openGroup_9 : decode cX0_openGroup 9 = .ok (.aload_n 0, 1) := by decide +kernel
theorem dX0_openGroup_10 : decode cX0_openGroup 10 = .ok (.getfield 15, 3) := by decide +kernel
theorem dX0_openGroup_13 : decode cX0_openGroup 13 = .ok (.aload_n 0, 1) := by decide +kernel
theorem dX0_openGroup_14 : decode cX0_openGroup 14 = .ok (.getfield 26, 3) := by decide +kernel
theorem dX0_openGroup_17 : decode cX0_openGroup 17 = .ok (.iload_n 1, 1) := by decide +kernel
theorem dX0_openGroup_18 : decode cX0_openGroup 18 = .ok (.iastore, 1) := by decide +kernel
theorem dX0_openGroup_19 : decode cX0_openGroup 19 = .ok (.aload_n 0, 1) := by decide +kernel
theorem dX0_openGroup_20 : decode cX0_openGroup 20 = .ok (.getfield 19, 3) := by decide +kernel
theorem dX0_openGroup_23 : decode cX0_openGroup 23 = .ok (.aload_n 0, 1) := by decide +kernel
theorem dX0_openGroup_24 : decode cX0_openGroup 24 = .ok (.getfield 26, 3) := by decide +kernel
theorem dX0_openGroup_27 : decode cX0_openGroup 27 = .ok (.iconst 1, 1) := by decide +kernel
theorem dX0_openGroup_28 : decode cX0_openGroup 28 = .ok (.iastore, 1) := by decide +kernel
theorem dX0_openGroup_29 : decode cX0_openGroup 29 = .ok (.aload_n 0, 1) := by decide +kernel
theorem dX0_openGroup_30 : decode cX0_openGroup 30 = .ok (.dup, 1) := by decide +kernel
theorem dX0_openGroup_31 : decode cX0_openGroup 31 = .ok (.getfield 26, 3) := by decide +kernel
theorem dX0_openGroup_34 : decode cX0_openGroup 34 = .ok (.iconst 1, 1) := by decide +kernel
theorem dX0_openGroup_35 : decode cX0_openGroup 35 = .ok (.iadd, 1) := by decide +kernel
theorem dX0_openGroup_36 : decode cX0_openGroup 36 = .ok (.putfield 26, 3) := by decide +kernel
theorem dX0_openGroup_39 : decode cX0_openGroup 39 = .ok (.return_, 1) := by decide +kernel
theorem dX0_isDigit_0 : decode cX0_isDigit 0 = .ok (.iload_n 0, 1) := by decide +kernel
theorem dX0_isDigit_1 : decode cX0_isDigit 1 = .ok (.bipush 48, 2) := by decide +kernel
theorem dX0_isDigit_3 : decode cX0_isDigit 3 = .ok (.if_icmp .lt 13, 3) := by decide +kernel
theorem dX0_isDigit_6 : decode cX0_isDigit 6 = .ok (.iload_n 0, 1) := by decide +kernel
theorem dX0_isDigit_7 : decode cX0_isDigit 7 = .ok (.bipush 57, 2) := by decide +kernel
theorem dX0_isDigit_9 : decode cX0_isDigit 9 = .ok (.if_icmp .gt 7, 3) := by decide +kernel
theorem dX0_isDigit_12 : decode cX0_isDigit 12 = .ok (.iconst 1, 1) := by decide +kernel
theorem dX0_isDigit_13 : decode cX0_isDigit 13 = .ok (.goto 4, 3) := by decide +kernel
theorem dX0_isDigit_16 : decode cX0_isDigit 16 = .ok (.iconst 0, 1) := by decide +kernel
theorem dX0_isDigit_17 : decode cX0_isDigit 17 = .ok (.ireturn, 1) := by decide +kernel
theorem dX0_isWeatherLetter_0 : decode cX0_isWeatherLetter 0 = .ok (.iload_n 0, 1) := by decide +kernel
theorem dX0_isWeatherLetter_1 : decode cX0_isWeatherLetter 1 = .ok (.bipush 115, 2) := by decide +kernel
theorem dX0_isWeatherLetter_3 : decode cX0_isWeatherLetter 3 = .ok (.if_icmp .eq 15, 3) := by decide +kernel
theorem dX0_isWeatherLetter_6 : decode cX0_isWeatherLetter 6 = .ok (.iload_n 0, 1) := by decide +kernel
theorem dX0_isWeatherLetter_7 : decode cX0_isWeatherLetter 7 = .ok (.bipush 99, 2) := by decide +kernel
theorem dX0_isWeatherLetter_9 : decode cX0_isWeatherLetter 9 = .ok (.if_icmp .eq 9, 3) := by decide +kernel
theorem dX0_isWeatherLetter_12 : decode cX0_isWeatherLetter 12 = .ok (.iload_n 0, 1) := by decide +kernel
theorem dX0_isWeatherLetter_13 : decode cX0_isWeatherLetter 13 = .ok (.bipush 114, 2) := by decide +kernel
theorem dX0_isWeatherLetter_15 : decode cX0_isWeatherLetter 15 = .ok (.if_icmp .ne 7, 3) := by decide +kernel
theorem dX0_isWeatherLetter_18 : decode cX0_isWeatherLetter 18 = .ok (.iconst 1, 1) := by decide +kernel
theorem dX0_isWeatherLetter_19 : decode cX0_isWeatherLetter 19 = .ok (.goto 4, 3) := by decide +kernel
theorem dX0_isWeatherLetter_22 : decode cX0_isWeatherLetter 22 = .ok (.iconst 0, 1) := by decide +kernel
theorem dX0_isWeatherLetter_23 : decode cX0_isWeatherLetter 23 = .ok (.ireturn, 1) := by decide +kernel
theorem dX0_weatherOf_0 : decode cX0_weatherOf 0 = .ok (.iload_n 0, 1) := by decide +kernel
theorem dX0_weatherOf_1 : decode cX0_weatherOf 1 = .ok (.bipush 115, 2) := by decide +kernel
theorem dX0_weatherOf_3 : decode cX0_weatherOf 3 = .ok (.if_icmp .ne 5, 3) := by decide +kernel
theorem dX0_weatherOf_6 : decode cX0_weatherOf 6 = .ok (.iconst 0, 1) := by decide +kernel
theorem dX0_weatherOf_7 : decode cX0_weatherOf 7 = .ok (.ireturn, 1) := by decide +kernel
theorem dX0_weatherOf_8 : decode cX0_weatherOf 8 = .ok (.iload_n 0, 1) := by decide +kernel
theorem dX0_weatherOf_9 : decode cX0_weatherOf 9 = .ok (.bipush 99, 2) := by decide +kernel
theorem dX0_weatherOf_11 : decode cX0_weatherOf 11 = .ok (.if_icmp .ne 7, 3) := by decide +kernel
theorem dX0_weatherOf_14 : decode cX0_weatherOf 14 = .ok (.iconst 1, 1) := by decide +kernel
theorem dX0_weatherOf_15 : decode cX0_weatherOf 15 = .ok (.goto 4, 3) := by decide +kernel
theorem dX0_weatherOf_18 : decode cX0_weatherOf 18 = .ok (.iconst 2, 1) := by decide +kernel
theorem dX0_weatherOf_19 : decode cX0_weatherOf 19 = .ok (.ireturn, 1) := by decide +kernel
theorem dX1_init_0 : decode cX1_init 0 = .ok (.aload_n 0, 1) := by decide +kernel
theorem dX1_init_1 : decode cX1_init 1 = .ok (.invokespecial 3, 3) := by decide +kernel
theorem dX1_init_4 : decode cX1_init 4 = .ok (.aload_n 0, 1) := by decide +kernel
theorem dX1_init_5 : decode cX1_init 5 = .ok (.bipush 120, 2) := by decide +kernel
theorem dX1_init_7 : decode cX1_init 7 = .ok (.newarray .int, 2) := by decide +kernel
theorem dX1_init_9 : decode cX1_init 9 = .ok (.putfield 9, 3) := by decide +kernel
theorem dX1_init_12 : decode cX1_init 12 = .ok (.aload_n 0, 1) := by decide +kernel
theorem dX1_init_13 : decode cX1_init 13 = .ok (.bipush 120, 2) := by decide +kernel
theorem dX1_init_15 : decode cX1_init 15 = .ok (.newarray .int, 2) := by decide +kernel
theorem dX1_init_17 : decode cX1_init 17 = .ok (.putfield 15, 3) := by decide +kernel
theorem dX1_init_20 : decode cX1_init 20 = .ok (.aload_n 0, 1) := by decide +kernel
theorem dX1_init_21 : decode cX1_init 21 = .ok (.bipush 120, 2) := by decide +kernel
theorem dX1_init_23 : decode cX1_init 23 = .ok (.newarray .int, 2) := by decide +kernel
theorem dX1_init_25 : decode cX1_init 25 = .ok (.putfield 18, 3) := by decide +kernel
theorem dX1_init_28 : decode cX1_init 28 = .ok (.aload_n 0, 1) := by decide +kernel
theorem dX1_init_29 : decode cX1_init 29 = .ok (.bipush 120, 2) := by decide +kernel
theorem dX1_init_31 : decode cX1_init 31 = .ok (.newarray .int, 2) := by decide +kernel
theorem dX1_init_33 : decode cX1_init 33 = .ok (.putfield 21, 3) := by decide +kernel
theorem dX1_init_36 : decode cX1_init 36 = .ok (.return_, 1) := by decide +kernel
theorem dX1_copyFrom_0 : decode cX1_copyFrom 0 = .ok (.aload_n 1, 1) := by decide +kernel
theorem dX1_copyFrom_1 : decode cX1_copyFrom 1 = .ok (.getfield 9, 3) := by decide +kernel
theorem dX1_copyFrom_4 : decode cX1_copyFrom 4 = .ok (.aload_n 0, 1) := by decide +kernel
theorem dX1_copyFrom_5 : decode cX1_copyFrom 5 = .ok (.getfield 9, 3) := by decide +kernel
theorem dX1_copyFrom_8 : decode cX1_copyFrom 8 = .ok (.invokestatic 24, 3) := by decide +kernel
theorem dX1_copyFrom_11 : decode cX1_copyFrom 11 = .ok (.aload_n 1, 1) := by decide +kernel
theorem dX1_copyFrom_12 : decode cX1_copyFrom 12 = .ok (.getfield 15, 3) := by decide +kernel
theorem dX1_copyFrom_15 : decode cX1_copyFrom 15 = .ok (.aload_n 0, 1) := by decide +kernel
theorem dX1_copyFrom_16 : decode cX1_copyFrom 16 = .ok (.getfield 15, 3) := by decide +kernel
theorem dX1_copyFrom_19 : decode cX1_copyFrom 19 = .ok (.invokestatic 24, 3) := by decide +kernel
theorem dX1_copyFrom_22 : decode cX1_copyFrom 22 = .ok (.aload_n 1, 1) := by decide +kernel
theorem dX1_copyFrom_23 : decode cX1_copyFrom 23 = .ok (.getfield 18, 3) := by decide +kernel
theorem dX1_copyFrom_26 : decode cX1_copyFrom 26 = .ok (.aload_n 0, 1) := by decide +kernel
theorem dX1_copyFrom_27 : decode cX1_copyFrom 27 = .ok (.getfield 18, 3) := by decide +kernel
theorem dX1_copyFrom_30 : decode cX1_copyFrom 30 = .ok (.invokestatic 24, 3) := by decide +kernel
theorem dX1_copyFrom_33 : decode cX1_copyFrom 33 = .ok (.aload_n 1, 1) := by decide +kernel
theorem dX1_copyFrom_34 : decode cX1_copyFrom 34 = .ok (.getfield 21, 3) := by decide +kernel
theorem dX1_copyFrom_37 : decode cX1_copyFrom 37 = .ok (.aload_n 0, 1) := by decide +kernel
theorem dX1_copyFrom_38 : decode cX1_copyFrom 38 = .ok (.getfield 21, 3) := by decide +kernel
theorem dX1_copyFrom_41 : decode cX1_copyFrom 41 = .ok (.invokestatic 24, 3) := by decide +kernel
theorem dX1_copyFrom_44 : decode cX1_copyFrom 44 = .ok (.aload_n 0, 1) := by decide +kernel
theorem dX1_copyFrom_45 : decode cX1_copyFrom 45 = .ok (.aload_n 1, 1) := by decide +kernel
theorem dX1_copyFrom_46 : decode cX1_copyFrom 46 = .ok (.getfield 28, 3) := by decide +kernel
theorem dX1_copyFrom_49 : decode cX1_copyFrom 49 = .ok (.putfield 28, 3) := by decide +kernel
theorem dX1_copyFrom_52 : decode cX1_copyFrom 52 = .ok (.aload_n 0, 1) := by decide +kernel
theorem dX1_copyFrom_53 : decode cX1_copyFrom 53 = .ok (.aload_n 1, 1) := by decide +kernel
theorem dX1_copyFrom_54 : decode cX1_copyFrom 54 = .ok (.getfield 32, 3) := by decide +kernel
theorem dX1_copyFrom_57 : decode cX1_copyFrom 57 = .ok (.putfield 32, 3) := by decide +kernel
theorem dX1_copyFrom_60 : decode cX1_copyFrom 60 = .ok (.return_, 1) := by decide +kernel
theorem dX1_open_0 : decode cX1_open 0 = .ok (.aload_n 0, 1) := by decide +kernel
theorem dX1_open_1 : decode cX1_open 1 = .ok (.getfield 32, 3) := by decide +kernel
theorem dX1_open_4 : decode cX1_open 4 = .ok (.bipush 120, 2) := by decide +kernel
theorem dX1_open_6 : decode cX1_open 6 = .ok (.if_icmp .ge 54, 3) := by decide +kernel
theorem dX1_open_9 : decode cX1_open 9 = .ok (.aload_n 0, 1) := by decide +kernel
theorem dX1_open_10 : decode cX1_open 10 = .ok (.getfield 9, 3) := by decide +kernel
theorem dX1_open_13 : decode cX1_open 13 = .ok (.aload_n 0, 1) := by decide +kernel
theorem dX1_open_14 : decode cX1_open 14 = .ok (.getfield 32, 3) := by decide +kernel
theorem dX1_open_17 : decode cX1_open 17 = .ok (.iload_n 1, 1) := by decide +kernel
theorem dX1_open_18 : decode cX1_open 18 = .ok (.iastore, 1) := by decide +kernel
theorem dX1_open_19 : decode cX1_open 19 = .ok (.aload_n 0, 1) := by decide +kernel
theorem dX1_open_20 : decode cX1_open 20 = .ok (.getfield 15, 3) := by decide +kernel
theorem dX1_open_23 : decode cX1_open 23 = .ok (.aload_n 0, 1) := by decide +kernel
theorem dX1_open_24 : decode cX1_open 24 = .ok (.getfield 32, 3) := by decide +kernel
theorem dX1_open_27 : decode cX1_open 27 = .ok (.iload_n 2, 1) := by decide +kernel
theorem dX1_open_28 : decode cX1_open 28 = .ok (.iastore, 1) := by decide +kernel
theorem dX1_open_29 : decode cX1_open 29 = .ok (.aload_n 0, 1) := by decide +kernel
theorem dX1_open_30 : decode cX1_open 30 = .ok (.getfield 18, 3) := by decide +kernel
theorem dX1_open_33 : decode cX1_open 33 = .ok (.aload_n 0, 1) := by decide +kernel
theorem dX1_open_34 : decode cX1_open 34 = .ok (.getfield 32, 3) := by decide +kernel
theorem dX1_open_37 : decode cX1_open 37 = .ok (.iload_n 3, 1) := by decide +kernel
theorem dX1_open_38 : decode cX1_open 38 = .ok (.iastore, 1) := by decide +kernel
theorem dX1_open_39 : decode cX1_open 39 = .ok (.aload_n 0, 1) := by decide +kernel
theorem dX1_open_40 : decode cX1_open 40 = .ok (.getfield 21, 3) := by decide +kernel
theorem dX1_open_43 : decode cX1_open 43 = .ok (.aload_n 0, 1) := by decide +kernel
theorem dX1_open_44 : decode cX1_open 44 = .ok (.getfield 32, 3) := by decide +kernel
theorem dX1_open_47 : decode cX1_open 47 = .ok (.iload 4, 2) := by decide +kernel
theorem dX1_open_49 : decode cX1_open 49 = .ok (.iastore, 1) := by decide +kernel
theorem dX1_open_50 : decode cX1_open 50 = .ok (.aload_n 0, 1) := by decide +kernel
theorem dX1_open_51 : decode cX1_open 51 = .ok (.dup, 1) := by decide +kernel
theorem dX1_open_52 : decode cX1_open 52 = .ok (.getfield 32, 3) := by decide +kernel
theorem dX1_open_55 : decode cX1_open 55 = .ok (.iconst 1, 1) := by decide +kernel
theorem dX1_open_56 : decode cX1_open 56 = .ok (.iadd, 1) := by decide +kernel
theorem dX1_open_57 : decode cX1_open 57 = .ok (.putfield 32, 3) := by decide +kernel
theorem dX1_open_60 : decode cX1_open 60 = .ok (.return_, 1) := by decide +kernel
theorem dX1_countOpen_0 : decode cX1_countOpen 0 = .ok (.aload_n 0, 1) := by decide +kernel
theorem dX1_countOpen_1 : decode cX1_countOpen 1 = .ok (.getfield 32, 3) := by decide +kernel
theorem dX1_countOpen_4 : decode cX1_countOpen 4 = .ok (.aload_n 0, 1) := by decide +kernel
theorem dX1_countOpen_5 : decode cX1_countOpen 5 = .ok (.getfield 28, 3) := by decide +kernel
theorem dX1_countOpen_8 : decode cX1_countOpen 8 = .ok (.isub, 1) := by decide +kernel
theorem dX1_countOpen_9 : decode cX1_countOpen 9 = .ok (.ireturn, 1) := by decide +kernel
theorem dX1_countOpenWith_0 : decode cX1_countOpenWith 0 = .ok (.iconst 0, 1) := by decide +kernel
theorem dX1_countOpenWith_1 : decode cX1_countOpenWith 1 = .ok (.istore_n 2, 1) := by decide +kernel
theorem dX1_countOpenWith_2 : decode cX1_countOpenWith 2 = .ok (.aload_n 0, 1) := by decide +kernel
theorem dX1_countOpenWith_3 : decode cX1_countOpenWith 3 = .ok (.getfield 28, 3) := by decide +kernel
theorem dX1_countOpenWith_6 : decode cX1_countOpenWith 6 = .ok (.istore_n 3, 1) := by decide +kernel
theorem dX1_countOpenWith_7 : decode cX1_countOpenWith 7 = .ok (.iload_n 3, 1) := by decide +kernel
theorem dX1_countOpenWith_8 : decode cX1_countOpenWith 8 = .ok (.aload_n 0, 1) := by decide +kernel
theorem dX1_countOpenWith_9 : decode cX1_countOpenWith 9 = .ok (.getfield 32, 3) := by decide +kernel
theorem dX1_countOpenWith_12 : decode cX1_countOpenWith 12 = .ok (.if_icmp .ge 40, 3) := by decide +kernel
theorem dX1_countOpenWith_15 : decode cX1_countOpenWith 15 = .ok (.iload_n 2, 1) := by decide +kernel
theorem dX1_countOpenWith_16 : decode cX1_countOpenWith 16 = .ok (.aload_n 0, 1) := by decide +kernel
theorem dX1_countOpenWith_17 : decode cX1_countOpenWith 17 = .ok (.getfield 9, 3) := by decide +kernel
theorem dX1_countOpenWith_20 : decode cX1_countOpenWith 20 = .ok (.iload_n 3, 1) := by decide +kernel
theorem dX1_countOpenWith_21 : decode cX1_countOpenWith 21 = .ok (.iaload, 1) := by decide +kernel
theorem dX1_countOpenWith_22 : decode cX1_countOpenWith 22 = .ok (.iload_n 1, 1) := by decide +kernel
theorem dX1_countOpenWith_23 : decode cX1_countOpenWith 23 = .ok (.if_icmp .eq 13, 3) := by decide +kernel
theorem dX1_countOpenWith_26 : decode cX1_countOpenWith 26 = .ok (.aload_n 0, 1) := by decide +kernel
theorem dX1_countOpenWith_27 : decode cX1_countOpenWith 27 = .ok (.getfield 15, 3) := by decide +kernel
theorem dX1_countOpenWith_30 : decode cX1_countOpenWith 30 = .ok (.iload_n 3, 1) := by decide +kernel
theorem dX1_countOpenWith_31 : decode cX1_countOpenWith 31 = .ok (.iaload, 1) := by decide +kernel
theorem dX1_countOpenWith_32 : decode cX1_countOpenWith 32 = .ok (.iload_n 1, 1) := by decide +kernel
theorem dX1_countOpenWith_33 : decode cX1_countOpenWith 33 = .ok (.if_icmp .ne 7, 3) := by decide +kernel
theorem dX1_countOpenWith_36 : decode cX1_countOpenWith 36 = .ok (.iconst 1, 1) := by decide +kernel
theorem dX1_countOpenWith_37 : decode cX1_countOpenWith 37 = .ok (.goto 4, 3) := by decide +kernel
theorem dX1_countOpenWith_40 : decode cX1_countOpenWith 40 = .ok (.iconst 0, 1) := by decide +kernel
theorem dX1_countOpenWith_41 : decode cX1_countOpenWith 41 = .ok (.invokestatic 35, 3) := by decide +kernel
theorem dX1_countOpenWith_44 : decode cX1_countOpenWith 44 = .ok (.iadd, 1) := by decide +kernel
theorem dX1_countOpenWith_45 : decode cX1_countOpenWith 45 = .ok (.istore_n 2, 1) := by decide +kernel
theorem dX1_countOpenWith_46 : decode cX1_countOpenWith 46 = .ok (.iinc 3 1, 3) := by decide +kernel
theorem dX1_countOpenWith_49 : decode cX1_countOpenWith 49 = .ok (.goto (-42), 3) := by decide +kernel
theorem dX1_countOpenWith_52 : decode cX1_countOpenWith 52 = .ok (.iload_n 2, 1) := by decide +kernel
theorem dX1_countOpenWith_53 : decode cX1_countOpenWith 53 = .ok (.ireturn, 1) := by decide +kernel
theorem dX2_init_0 : decode cX2_init 0 = .ok (.aload_n 0, 1) := by decide +kernel
theorem dX2_init_1 : decode cX2_init 1 = .ok (.invokespecial 3, 3) := by decide +kernel
theorem dX2_init_4 : decode cX2_init 4 = .ok (.aload_n 0, 1) := by decide +kernel
theorem dX2_init_5 : decode cX2_init 5 = .ok (.new 9, 3) := by decide +kernel
theorem dX2_init_8 : decode cX2_init 8 = .ok (.dup, 1) := by decide +kernel
theorem dX2_init_9 : decode cX2_init 9 = .ok (.invokespecial 11, 3) := by decide +kernel
theorem dX2_init_12 : decode cX2_init 12 = .ok (.putfield 12, 3) := by decide +kernel
theorem dX2_init_15 : decode cX2_init 15 = .ok (.aload_n 0, 1) := by decide +kernel
theorem dX2_init_16 : decode cX2_init 16 = .ok (.new 9, 3) := by decide +kernel
theorem dX2_init_19 : decode cX2_init 19 = .ok (.dup, 1) := by decide +kernel
theorem dX2_init_20 : decode cX2_init 20 = .ok (.invokespecial 11, 3) := by decide +kernel
theorem dX2_init_23 : decode cX2_init 23 = .ok (.putfield 18, 3) := by decide +kernel
theorem dX2_init_26 : decode cX2_init 26 = .ok (.aload_n 0, 1) := by decide +kernel
theorem dX2_init_27 : decode cX2_init 27 = .ok (.new 9, 3) := by decide +kernel
theorem dX2_init_30 : decode cX2_init 30 = .ok (.dup, 1) := by decide +kernel
theorem dX2_init_31 : decode cX2_init 31 = .ok (.invokespecial 11, 3) := by decide +kernel
theorem dX2_init_34 : decode cX2_init 34 = .ok (.putfield 21, 3) := by decide +kernel
theorem dX2_init_37 : decode cX2_init 37 = .ok (.aload_n 0, 1) := by decide +kernel
theorem dX2_init_38 : decode cX2_init 38 = .ok (.new 9, 3) := by decide +kernel
theorem dX2_init_41 : decode cX2_init 41 = .ok (.dup, 1) := by decide +kernel
theorem dX2_init_42 : decode cX2_init 42 = .ok (.invokespecial 11, 3) := by decide +kernel
theorem dX2_init_45 : decode cX2_init 45 = .ok (.putfield 24, 3) := by decide +kernel
theorem dX2_init_48 : decode cX2_init 48 = .ok (.return_, 1) := by decide +kernel
theorem dX2_record_0 : decode cX2_record 0 = .ok (.aload_n 0, 1) := by decide +kernel
theorem dX2_record_1 : decode cX2_record 1 = .ok (.getfield 24, 3) := by decide +kernel
theorem dX2_record_4 : decode cX2_record 4 = .ok (.astore_n 2, 1) := by decide +kernel
theorem dX2_record_5 : decode cX2_record 5 = .ok (.aload_n 0, 1) := by decide +kernel
theorem dX2_record_6 : decode cX2_record 6 = .ok (.aload_n 0, 1) := by decide +kernel
theorem dX2_record_7 : decode cX2_record 7 = .ok (.getfield 21, 3) := by decide +kernel
theorem dX2_record_10 : decode cX2_record 10 = .ok (.putfield 24, 3) := by decide +kernel
theorem dX2_record_13 : decode cX2_record 13 = .ok (.aload_n 0, 1) := by decide +kernel
theorem dX2_record_14 : decode cX2_record 14 = .ok (.aload_n 0, 1) := by decide +kernel
theorem dX2_record_15 : decode cX2_record 15 = .ok (.getfield 18, 3) := by decide +kernel
theorem dX2_record_18 : decode cX2_record 18 = .ok (.putfield 21, 3) := by decide +kernel
theorem dX2_record_21 : decode cX2_record 21 = .ok (.aload_n 0, 1) := by decide +kernel
theorem dX2_record_22 : decode cX2_record 22 = .ok (.aload_n 0, 1) := by decide +kernel
theorem dX2_record_23 : decode cX2_record 23 = .ok (.getfield 12, 3) := by decide +kernel
theorem dX2_record_26 : decode cX2_record 26 = .ok (.putfield 18, 3) := by decide +kernel
theorem dX2_record_29 : decode cX2_record 29 = .ok (.aload_n 0, 1) := by decide +kernel
theorem dX2_record_30 : decode cX2_record 30 = .ok (.aload_n 2, 1) := by decide +kernel
theorem dX2_record_31 : decode cX2_record 31 = .ok (.putfield 12, 3) := by decide +kernel
theorem dX2_record_34 : decode cX2_record 34 = .ok (.aload_n 0, 1) := by decide +kernel
theorem dX2_record_35 : decode cX2_record 35 = .ok (.getfield 12, 3) := by decide +kernel
theorem dX2_record_38 : decode cX2_record 38 = .ok (.aload_n 1, 1) := by decide +kernel
theorem dX2_record_39 : decode cX2_record 39 = .ok (.invokevirtual 27, 3) := by decide +kernel
theorem dX2_record_42 : decode cX2_record 42 = .ok (.aload_n 0, 1) := by decide +kernel
theorem dX2_record_43 : decode cX2_record 43 = .ok (.iconst 4, 1) := by decide +kernel
theorem dX2_record_44 : decode cX2_record 44 = .ok (.aload_n 0, 1) := by decide +kernel
theorem dX2_record_45 : decode cX2_record 45 = .ok (.getfield 31, 3) := by decide +kernel
theorem dX2_record_48 : decode cX2_record 48 = .ok (.iconst 1, 1) := by decide +kernel
theorem dX2_record_49 : decode cX2_record 49 = .ok (.iadd, 1) := by decide +kernel
theorem dX2_record_50 : decode cX2_record 50 = .ok (.invokestatic 35, 3) := by decide +kernel
theorem dX2_record_53 : decode cX2_record 53 = .ok (.putfield 31, 3) := by decide +kernel
theorem dX2_record_56 : decode cX2_record 56 = .ok (.return_, 1) := by decide +kernel
theorem dX2_takeBack_0 : decode cX2_takeBack 0 = .ok (.aload_n 0, 1) := by decide +kernel
theorem dX2_takeBack_1 : decode cX2_takeBack 1 = .ok (.getfield 31, 3) := by decide +kernel
theorem dX2_takeBack_4 : decode cX2_takeBack 4 = .ok (.ifCond .le 52, 3) := by decide +kernel
theorem dX2_takeBack_7 : decode cX2_takeBack 7 = .ok (.aload_n 0, 1) := by decide +kernel
theorem dX2_takeBack_8 : decode cX2_takeBack 8 = .ok (.getfield 12, 3) := by decide +kernel
theorem dX2_takeBack_11 : decode cX2_takeBack 11 = .ok (.astore_n 2, 1) := by decide +kernel
theorem dX2_takeBack_12 : decode cX2_takeBack 12 = .ok (.aload_n 0, 1) := by decide +kernel
theorem dX2_takeBack_13 : decode cX2_takeBack 13 = .ok (.aload_n 0, 1) := by decide +kernel
theorem dX2_takeBack_14 : decode cX2_takeBack 14 = .ok (.getfield 18, 3) := by decide +kernel
theorem dX2_takeBack_17 : decode cX2_takeBack 17 = .ok (.putfield 12, 3) := by decide +kernel
theorem dX2_takeBack_20 : decode cX2_takeBack 20 = .ok (.aload_n 0, 1) := by decide +kernel
theorem dX2_takeBack_21 : decode cX2_takeBack 21 = .ok (.aload_n 0, 1) := by decide +kernel
theorem dX2_takeBack_22 : decode cX2_takeBack 22 = .ok (.getfield 21, 3) := by decide +kernel
theorem dX2_takeBack_25 : decode cX2_takeBack 25 = .ok (.putfield 18, 3) := by decide +kernel
theorem dX2_takeBack_28 : decode cX2_takeBack 28 = .ok (.aload_n 0, 1) := by decide +kernel
theorem dX2_takeBack_29 : decode cX2_takeBack 29 = .ok (.aload_n 0, 1) := by decide +kernel
theorem dX2_takeBack_30 : decode cX2_takeBack 30 = .ok (.getfield 24, 3) := by decide +kernel
theorem dX2_takeBack_33 : decode cX2_takeBack 33 = .ok (.putfield 21, 3) := by decide +kernel
theorem dX2_takeBack_36 : decode cX2_takeBack 36 = .ok (.aload_n 0, 1) := by decide +kernel
theorem dX2_takeBack_37 : decode cX2_takeBack 37 = .ok (.aload_n 2, 1) := by decide +kernel
theorem dX2_takeBack_38 : decode cX2_takeBack 38 = .ok (.putfield 24, 3) := by decide +kernel
theorem dX2_takeBack_41 : decode cX2_takeBack 41 = .ok (.aload_n 1, 1) := by decide +kernel
theorem dX2_takeBack_42 : decode cX2_takeBack 42 = .ok (.aload_n 2, 1) := by decide +kernel
theorem dX2_takeBack_43 : decode cX2_takeBack 43 = .ok (.invokevirtual 27, 3) := by decide +kernel
theorem dX2_takeBack_46 : decode cX2_takeBack 46 = .ok (.aload_n 0, 1) := by decide +kernel
theorem dX2_takeBack_47 : decode cX2_takeBack 47 = .ok (.dup, 1) := by decide +kernel
theorem dX2_takeBack_48 : decode cX2_takeBack 48 = .ok (.getfield 31, 3) := by decide +kernel
theorem dX2_takeBack_51 : decode cX2_takeBack 51 = .ok (.iconst 1, 1) := by decide +kernel
theorem dX2_takeBack_52 : decode cX2_takeBack 52 = .ok (.isub, 1) := by decide +kernel
theorem dX2_takeBack_53 : decode cX2_takeBack 53 = .ok (.putfield 31, 3) := by decide +kernel
theorem dX2_takeBack_56 : decode cX2_takeBack 56 = .ok (.return_, 1) := by decide +kernel
theorem dX3_init_0 : decode cX3_init 0 = .ok (.aload_n 0, 1) := by decide +kernel
theorem dX3_init_1 : decode cX3_init 1 = .ok (.invokespecial 3, 3) := by decide +kernel
theorem dX3_init_4 : decode cX3_init 4 = .ok (.aload_n 0, 1) := by decide +kernel
theorem dX3_init_5 : decode cX3_init 5 = .ok (.bipush 20, 2) := by decide +kernel
theorem dX3_init_7 : decode cX3_init 7 = .ok (.newarray .int, 2) := by decide +kernel
theorem dX3_init_9 : decode cX3_init 9 = .ok (.putfield 9, 3) := by decide +kernel
theorem dX3_init_12 : decode cX3_init 12 = .ok (.aload_n 0, 1) := by decide +kernel
theorem dX3_init_13 : decode cX3_init 13 = .ok (.bipush 20, 2) := by decide +kernel
theorem dX3_init_15 : decode cX3_init 15 = .ok (.newarray .int, 2) := by decide +kernel
theorem dX3_init_17 : decode cX3_init 17 = .ok (.putfield 15, 3) := by decide +kernel
theorem dX3_init_20 : decode cX3_init 20 = .ok (.aload_n 0, 1) := by decide +kernel
theorem dX3_init_21 : decode cX3_init 21 = .ok (.bipush 20, 2) := by decide +kernel
theorem dX3_init_23 : decode cX3_init 23 = .ok (.newarray .int, 2) := by decide +kernel
theorem dX3_init_25 : decode cX3_init 25 = .ok (.putfield 18, 3) := by decide +kernel
theorem dX3_init_28 : decode cX3_init 28 = .ok (.aload_n 0, 1) := by decide +kernel
theorem dX3_init_29 : decode cX3_init 29 = .ok (.bipush 10, 2) := by decide +kernel
theorem dX3_init_31 : decode cX3_init 31 = .ok (.newarray .int, 2) := by decide +kernel
theorem dX3_init_33 : decode cX3_init 33 = .ok (.putfield 21, 3) := by decide +kernel
theorem dX3_init_36 : decode cX3_init 36 = .ok (.aload_n 0, 1) := by decide +kernel
theorem dX3_init_37 : decode cX3_init 37 = .ok (.bipush 10, 2) := by decide +kernel
theorem dX3_init_39 : decode cX3_init 39 = .ok (.newarray .int, 2) := by decide +kernel
theorem dX3_init_41 : decode cX3_init 41 = .ok (.putfield 24, 3) := by decide +kernel
theorem dX3_init_44 : decode cX3_init 44 = .ok (.aload_n 0, 1) := by decide +kernel
theorem dX3_init_45 : decode cX3_init 45 = .ok (.bipush 10, 2) := by decide +kernel
theorem dX3_init_47 : decode cX3_init 47 = .ok (.newarray .int, 2) := by decide +kernel
theorem dX3_init_49 : decode cX3_init 49 = .ok (.putfield 27, 3) := by decide +kernel
theorem dX3_init_52 : decode cX3_init 52 = .ok (.aload_n 0, 1) := by decide +kernel
theorem dX3_init_53 : decode cX3_init 53 = .ok (.new 30, 3) := by decide +kernel
theorem dX3_init_56 : decode cX3_init 56 = .ok (.dup, 1) := by decide +kernel
theorem dX3_init_57 : decode cX3_init 57 = .ok (.invokespecial 32, 3) := by decide +kernel
theorem dX3_init_60 : decode cX3_init 60 = .ok (.putfield 33, 3) := by decide +kernel
theorem dX3_init_63 : decode cX3_init 63 = .ok (.aload_n 0, 1) := by decide +kernel
theorem dX3_init_64 : decode cX3_init 64 = .ok (.new 37, 3) := by decide +kernel
theorem dX3_init_67 : decode cX3_init 67 = .ok (.dup, 1) := by decide +kernel
theorem dX3_init_68 : decode cX3_init 68 = .ok (.invokespecial 39, 3) := by decide +kernel
theorem dX3_init_71 : decode cX3_init 71 = .ok (.putfield 40, 3) := by decide +kernel
theorem dX3_init_74 : decode cX3_init 74 = .ok (.aload_n 0, 1) := by decide +kernel
theorem dX3_init_75 : decode cX3_init 75 = .ok (.iconst 3, 1) := by decide +kernel
theorem dX3_init_76 : decode cX3_init 76 = .ok (.putfield 44, 3) := by decide +kernel
theorem dX3_init_79 : decode cX3_init 79 = .ok (.iconst 0, 1) := by decide +kernel
theorem dX3_init_80 : decode cX3_init 80 = .ok (.istore_n 1, 1) := by decide +kernel
theorem dX3_init_81 : decode cX3_init 81 = .ok (.iload_n 1, 1) := by decide +kernel
theorem dX3_init_82 : decode cX3_init 82 = .ok (.bipush 20, 2) := by decide +kernel
theorem dX3_init_84 : decode cX3_init 84 = .ok (.if_icmp .ge 35, 3) := by decide +kernel
theorem dX3_init_87 : decode cX3_init 87 = .ok (.aload_n 0, 1) := by decide +kernel
theorem dX3_init_88 : decode cX3_init 88 = .ok (.getfield 9, 3) := by decide +kernel
theorem dX3_init_91 : decode cX3_init 91 = .ok (.iload_n 1, 1) := by decide +kernel
theorem dX3_init_92 : decode cX3_init 92 = .ok (.bipush 6, 2) := by decide +kernel
theorem dX3_init_94 : decode cX3_init 94 = .ok (.iastore, 1) := by decide +kernel
theorem dX3_init_95 : decode cX3_init 95 = .ok (.aload_n 0, 1) := by decide +kernel
theorem dX3_init_96 : decode cX3_init 96 = .ok (.getfield 15, 3) := by decide +kernel
theorem dX3_init_99 : decode cX3_init 99 = .ok (.iload_n 1, 1) := by decide +kernel
theorem dX3_init_100 : decode cX3_init 100 = .ok (.iload_n 1, 1) := by decide +kernel
theorem dX3_init_101 : decode cX3_init 101 = .ok (.iconst 2, 1) := by decide +kernel
theorem dX3_init_102 : decode cX3_init 102 = .ok (.idiv, 1) := by decide +kernel
theorem dX3_init_103 : decode cX3_init 103 = .ok (.iastore, 1) := by decide +kernel
theorem dX3_init_104 : decode cX3_init 104 = .ok (.aload_n 0, 1) := by decide +kernel
theorem dX3_init_105 : decode cX3_init 105 = .ok (.getfield 18, 3) := by decide +kernel
theorem dX3_init_108 : decode cX3_init 108 = .ok (.iload_n 1, 1) := by decide +kernel
theorem dX3_init_109 : decode cX3_init 109 = .ok (.iload_n 1, 1) := by decide +kernel
theorem dX3_init_110 : decode cX3_init 110 = .ok (.iconst 2, 1) := by decide +kernel
theorem dX3_init_111 : decode cX3_init 111 = .ok (.idiv, 1) := by decide +kernel
theorem dX3_init_112 : decode cX3_init 112 = .ok (.iastore, 1) := by decide +kernel
theorem dX3_init_113 : decode cX3_init 113 = .ok (.iinc 1 1, 3) := by decide +kernel
theorem dX3_init_116 : decode cX3_init 116 = .ok (.goto (-35), 3) := by decide +kernel
theorem dX3_init_119 : decode cX3_init 119 = .ok (.iconst 0, 1) := by decide +kernel
theorem dX3_init_120 : decode cX3_init 120 = .ok (.istore_n 1, 1) := by decide +kernel
theorem dX3_init_121 : decode cX3_init 121 = .ok (.iload_n 1, 1) := by decide +kernel
theorem dX3_init_122 : decode cX3_init 122 = .ok (.bipush 10, 2) := by decide +kernel
theorem dX3_init_124 : decode cX3_init 124 = .ok (.if_icmp .ge 17, 3) := by decide +kernel
theorem dX3_init_127 : decode cX3_init 127 = .ok (.aload_n 0, 1) := by decide +kernel
theorem dX3_init_128 : decode cX3_init 128 = .ok (.getfield 21, 3) := by decide +kernel
theorem dX3_init_131 : decode cX3_init 131 = .ok (.iload_n 1, 1) := by decide +kernel
theorem dX3_init_132 : decode cX3_init 132 = .ok (.bipush 6, 2) := by decide +kernel
theorem dX3_init_134 : decode cX3_init 134 = .ok (.iastore, 1) := by decide +kernel
theorem dX3_init_135 : decode cX3_init 135 = .ok (.iinc 1 1, 3) := by decide +kernel
theorem dX3_init_138 : decode cX3_init 138 = .ok (.goto (-17), 3) := by decide +kernel
theorem dX3_init_141 : decode cX3_init 141 = .ok (.return_, 1) := by decide +kernel
theorem dX3_copyFrom_0 : decode cX3_copyFrom 0 = .ok (.aload_n 1, 1) := by decide +kernel
theorem dX3_copyFrom_1 : decode cX3_copyFrom 1 = .ok (.getfield 9, 3) := by decide +kernel
theorem dX3_copyFrom_4 : decode cX3_copyFrom 4 = .ok (.aload_n 0, 1) := by decide +kernel
theorem dX3_copyFrom_5 : decode cX3_copyFrom 5 = .ok (.getfield 9, 3) := by decide +kernel
theorem dX3_copyFrom_8 : decode cX3_copyFrom 8 = .ok (.invokestatic 48, 3) := by decide +kernel
theorem dX3_copyFrom_11 : decode cX3_copyFrom 11 = .ok (.aload_n 1, 1) := by decide +kernel
theorem dX3_copyFrom_12 : decode cX3_copyFrom 12 = .ok (.getfield 15, 3) := by decide +kernel
theorem dX3_copyFrom_15 : decode cX3_copyFrom 15 = .ok (.aload_n 0, 1) := by decide +kernel
theorem dX3_copyFrom_16 : decode cX3_copyFrom 16 = .ok (.getfield 15, 3) := by decide +kernel
theorem dX3_copyFrom_19 : decode cX3_copyFrom 19 = .ok (.invokestatic 48, 3) := by decide +kernel
theorem dX3_copyFrom_22 : decode cX3_copyFrom 22 = .ok (.aload_n 1, 1) := by decide +kernel
theorem dX3_copyFrom_23 : decode cX3_copyFrom 23 = .ok (.getfield 18, 3) := by decide +kernel
theorem dX3_copyFrom_26 : decode cX3_copyFrom 26 = .ok (.aload_n 0, 1) := by decide +kernel
theorem dX3_copyFrom_27 : decode cX3_copyFrom 27 = .ok (.getfield 18, 3) := by decide +kernel
theorem dX3_copyFrom_30 : decode cX3_copyFrom 30 = .ok (.invokestatic 48, 3) := by decide +kernel
theorem dX3_copyFrom_33 : decode cX3_copyFrom 33 = .ok (.aload_n 1, 1) := by decide +kernel
theorem dX3_copyFrom_34 : decode cX3_copyFrom 34 = .ok (.getfield 21, 3) := by decide +kernel
theorem dX3_copyFrom_37 : decode cX3_copyFrom 37 = .ok (.aload_n 0, 1) := by decide +kernel
theorem dX3_copyFrom_38 : decode cX3_copyFrom 38 = .ok (.getfield 21, 3) := by decide +kernel
theorem dX3_copyFrom_41 : decode cX3_copyFrom 41 = .ok (.invokestatic 48, 3) := by decide +kernel
theorem dX3_copyFrom_44 : decode cX3_copyFrom 44 = .ok (.aload_n 1, 1) := by decide +kernel
theorem dX3_copyFrom_45 : decode cX3_copyFrom 45 = .ok (.getfield 24, 3) := by decide +kernel
theorem dX3_copyFrom_48 : decode cX3_copyFrom 48 = .ok (.aload_n 0, 1) := by decide +kernel
theorem dX3_copyFrom_49 : decode cX3_copyFrom 49 = .ok (.getfield 24, 3) := by decide +kernel
theorem dX3_copyFrom_52 : decode cX3_copyFrom 52 = .ok (.invokestatic 48, 3) := by decide +kernel
theorem dX3_copyFrom_55 : decode cX3_copyFrom 55 = .ok (.aload_n 1, 1) := by decide +kernel
theorem dX3_copyFrom_56 : decode cX3_copyFrom 56 = .ok (.getfield 27, 3) := by decide +kernel
theorem dX3_copyFrom_59 : decode cX3_copyFrom 59 = .ok (.aload_n 0, 1) := by decide +kernel
theorem dX3_copyFrom_60 : decode cX3_copyFrom 60 = .ok (.getfield 27, 3) := by decide +kernel
theorem dX3_copyFrom_63 : decode cX3_copyFrom 63 = .ok (.invokestatic 48, 3) := by decide +kernel
theorem dX3_copyFrom_66 : decode cX3_copyFrom 66 = .ok (.aload_n 0, 1) := by decide +kernel
theorem dX3_copyFrom_67 : decode cX3_copyFrom 67 = .ok (.getfield 33, 3) := by decide +kernel
theorem dX3_copyFrom_70 : decode cX3_copyFrom 70 = .ok (.aload_n 1, 1) := by decide +kernel
theorem dX3_copyFrom_71 : decode cX3_copyFrom 71 = .ok (.getfield 33, 3) := by decide +kernel
theorem dX3_copyFrom_74 : decode cX3_copyFrom 74 = .ok (.invokevirtual 52, 3) := by decide +kernel
theorem dX3_copyFrom_77 : decode cX3_copyFrom 77 = .ok (.aload_n 0, 1) := by decide +kernel
theorem dX3_copyFrom_78 : decode cX3_copyFrom 78 = .ok (.getfield 40, 3) := by decide +kernel
theorem dX3_copyFrom_81 : decode cX3_copyFrom 81 = .ok (.aload_n 1, 1) := by decide +kernel
theorem dX3_copyFrom_82 : decode cX3_copyFrom 82 = .ok (.getfield 40, 3) := by decide +kernel
theorem dX3_copyFrom_85 : decode cX3_copyFrom 85 = .ok (.invokevirtual 56, 3) := by decide +kernel
theorem dX3_copyFrom_88 : decode cX3_copyFrom 88 = .ok (.aload_n 0, 1) := by decide +kernel
theorem dX3_copyFrom_89 : decode cX3_copyFrom 89 = .ok (.aload_n 1, 1) := by decide +kernel
theorem dX3_copyFrom_90 : decode cX3_copyFrom 90 = .ok (.getfield 44, 3) := by decide +kernel
theorem dX3_copyFrom_93 : decode cX3_copyFrom 93 = .ok (.putfield 44, 3) := by decide +kernel
theorem dX3_copyFrom_96 : decode cX3_copyFrom 96 = .ok (.aload_n 0, 1) := by decide +kernel
theorem dX3_copyFrom_97 : decode cX3_copyFrom 97 = .ok (.aload_n 1, 1) := by decide +kernel
theorem dX3_copyFrom_98 : decode cX3_copyFrom 98 = .ok (.getfield 59, 3) := by decide +kernel
theorem dX3_copyFrom_101 : decode cX3_copyFrom 101 = .ok (.putfield 59, 3) := by decide +kernel
theorem dX3_copyFrom_104 : decode cX3_copyFrom 104 = .ok (.aload_n 0, 1) := by decide +kernel
theorem dX3_copyFrom_105 : decode cX3_copyFrom 105 = .ok (.aload_n 1, 1) := by decide +kernel
theorem dX3_copyFrom_106 : decode cX3_copyFrom 106 = .ok (.getfield 62, 3) := by decide +kernel
theorem dX3_copyFrom_109 : decode cX3_copyFrom 109 = .ok (.putfield 62, 3) := by decide +kernel
theorem dX3_copyFrom_112 : decode cX3_copyFrom 112 = .ok (.aload_n 0, 1) := by decide +kernel
theorem dX3_copyFrom_113 : decode cX3_copyFrom 113 = .ok (.aload_n 1, 1) := by decide +kernel
theorem dX3_copyFrom_114 : decode cX3_copyFrom 114 = .ok (.getfield 65, 3) := by decide +kernel
theorem dX3_copyFrom_117 : decode cX3_copyFrom 117 = .ok (.putfield 65, 3) := by decide +kernel
theorem dX3_copyFrom_120 : decode cX3_copyFrom 120 = .ok (.aload_n 0, 1) := by decide +kernel
theorem dX3_copyFrom_121 : decode cX3_copyFrom 121 = .ok (.aload_n 1, 1) := by decide +kernel
theorem dX3_copyFrom_122 : decode cX3_copyFrom 122 = .ok (.getfield 68, 3) := by decide +kernel
theorem dX3_copyFrom_125 : decode cX3_copyFrom 125 = .ok (.putfield 68, 3) := by decide +kernel
theorem dX3_copyFrom_128 : decode cX3_copyFrom 128 = .ok (.aload_n 0, 1) := by decide +kernel
theorem dX3_copyFrom_129 : decode cX3_copyFrom 129 = .ok (.aload_n 1, 1) := by decide +kernel
theorem dX3_copyFrom_130 : decode cX3_copyFrom 130 = .ok (.getfield 71, 3) := by decide +kernel
theorem dX3_copyFrom_133 : decode cX3_copyFrom 133 = .ok (.putfield 71, 3) := by decide +kernel
theorem dX3_copyFrom_136 : decode cX3_copyFrom 136 = .ok (.return_, 1) := by decide +kernel
theorem dX3_reasonAgainst_0 : decode cX3_reasonAgainst 0 = .ok (.aload_n 0, 1) := by decide +kernel
theorem dX3_reasonAgainst_1 : decode cX3_reasonAgainst 1 = .ok (.iload_n 1, 1) := by decide +kernel
theorem dX3_reasonAgainst_2 : decode cX3_reasonAgainst 2 = .ok (.invokevirtual 74, 3) := by decide +kernel
theorem dX3_reasonAgainst_5 : decode cX3_reasonAgainst 5 = .ok (.ifCond .ne 5, 3) := by decide +kernel
theorem dX3_reasonAgainst_8 : decode cX3_reasonAgainst 8 = .ok (.iconst 1, 1) := by decide +kernel
theorem dX3_reasonAgainst_9 : decode cX3_reasonAgainst 9 = .ok (.ireturn, 1) := by decide +kernel
theorem dX3_reasonAgainst_10 : decode cX3_reasonAgainst 10 = .ok (.iload_n 2, 1) := by decide +kernel
theorem dX3_reasonAgainst_11 : decode cX3_reasonAgainst 11 = .ok (.invokestatic 78, 3) := by decide +kernel
theorem dX3_reasonAgainst_14 : decode cX3_reasonAgainst 14 = .ok (.ifCond .eq 12, 3) := by decide +kernel
theorem dX3_reasonAgainst_17 : decode cX3_reasonAgainst 17 = .ok (.aload_n 0, 1) := by decide +kernel
theorem dX3_reasonAgainst_18 : decode cX3_reasonAgainst 18 = .ok (.getfield 9, 3) := by decide +kernel
theorem dX3_reasonAgainst_21 : decode cX3_reasonAgainst 21 = .ok (.iload_n 2, 1) := by decide +kernel
theorem dX3_reasonAgainst_22 : decode cX3_reasonAgainst 22 = .ok (.iaload, 1) := by decide +kernel
theorem dX3_reasonAgainst_23 : decode cX3_reasonAgainst 23 = .ok (.ifCond .gt 5, 3) := by decide +kernel
theorem dX3_reasonAgainst_26 : decode cX3_reasonAgainst 26 = .ok (.iconst 2, 1) := by decide +kernel
theorem dX3_reasonAgainst_27 : decode cX3_reasonAgainst 27 = .ok (.ireturn, 1) := by decide +kernel
theorem dX3_reasonAgainst_28 : decode cX3_reasonAgainst 28 = .ok (.aload_n 0, 1) := by decide +kernel
theorem dX3_reasonAgainst_29 : decode cX3_reasonAgainst 29 = .ok (.getfield 33, 3) := by decide +kernel
theorem dX3_reasonAgainst_32 : decode cX3_reasonAgainst 32 = .ok (.invokevirtual 81, 3) := by decide +kernel
theorem dX3_reasonAgainst_35 : decode cX3_reasonAgainst 35 = .ok (.bipush 60, 2) := by decide +kernel
theorem dX3_reasonAgainst_37 : decode cX3_reasonAgainst 37 = .ok (.if_icmp .lt 5, 3) := by decide +kernel
theorem dX3_reasonAgainst_40 : decode cX3_reasonAgainst 40 = .ok (.iconst 3, 1) := by decide +kernel
theorem dX3_reasonAgainst_41 : decode cX3_reasonAgainst 41 = .ok (.ireturn, 1) := by decide +kernel
theorem dX3_reasonAgainst_42 : decode cX3_reasonAgainst 42 = .ok (.aload_n 0, 1) := by decide +kernel
theorem dX3_reasonAgainst_43 : decode cX3_reasonAgainst 43 = .ok (.iload_n 1, 1) := by decide +kernel
theorem dX3_reasonAgainst_44 : decode cX3_reasonAgainst 44 = .ok (.iload_n 2, 1) := by decide +kernel
theorem dX3_reasonAgainst_45 : decode cX3_reasonAgainst 45 = .ok (.invokevirtual 85, 3) := by decide +kernel
theorem dX3_reasonAgainst_48 : decode cX3_reasonAgainst 48 = .ok (.ifCond .ne 25, 3) := by decide +kernel
theorem dX3_reasonAgainst_51 : decode cX3_reasonAgainst 51 = .ok (.aload_n 0, 1) := by decide +kernel
theorem dX3_reasonAgainst_52 : decode cX3_reasonAgainst 52 = .ok (.iload_n 1, 1) := by decide +kernel
theorem dX3_reasonAgainst_53 : decode cX3_reasonAgainst 53 = .ok (.iload_n 2, 1) := by decide +kernel
theorem dX3_reasonAgainst_54 : decode cX3_reasonAgainst 54 = .ok (.iconst 1, 1) := by decide +kernel
theorem dX3_reasonAgainst_55 : decode cX3_reasonAgainst 55 = .ok (.isub, 1) := by decide +kernel
theorem dX3_reasonAgainst_56 : decode cX3_reasonAgainst 56 = .ok (.invokevirtual 85, 3) := by decide +kernel
theorem dX3_reasonAgainst_59 : decode cX3_reasonAgainst 59 = .ok (.ifCond .ne 14, 3) := by decide +kernel
theorem dX3_reasonAgainst_62 : decode cX3_reasonAgainst 62 = .ok (.aload_n 0, 1) := by decide +kernel
theorem dX3_reasonAgainst_63 : decode cX3_reasonAgainst 63 = .ok (.iload_n 1, 1) := by decide +kernel
theorem dX3_reasonAgainst_64 : decode cX3_reasonAgainst 64 = .ok (.iload_n 2, 1) := by decide +kernel
theorem dX3_reasonAgainst_65 : decode cX3_reasonAgainst 65 = .ok (.iconst 1, 1) := by decide +kernel
theorem dX3_reasonAgainst_66 : decode cX3_reasonAgainst 66 = .ok (.iadd, 1) := by decide +kernel
theorem dX3_reasonAgainst_67 : decode cX3_reasonAgainst 67 = .ok (.invokevirtual 85, 3) := by decide +kernel
theorem dX3_reasonAgainst_70 : decode cX3_reasonAgainst 70 = .ok (.ifCond .eq 7, 3) := by decide +kernel
theorem dX3_reasonAgainst_73 : decode cX3_reasonAgainst 73 = .ok (.iconst 1, 1) := by decide +kernel
theorem dX3_reasonAgainst_74 : decode cX3_reasonAgainst 74 = .ok (.goto 4, 3) := by decide +kernel
theorem dX3_reasonAgainst_77 : decode cX3_reasonAgainst 77 = .ok (.iconst 0, 1) := by decide +kernel
theorem dX3_reasonAgainst_78 : decode cX3_reasonAgainst 78 = .ok (.istore_n 3, 1) := by decide +kernel
theorem dX3_reasonAgainst_79 : decode cX3_reasonAgainst 79 = .ok (.iload_n 3, 1) := by decide +kernel
theorem dX3_reasonAgainst_80 : decode cX3_reasonAgainst 80 = .ok (.ifCond .eq 7, 3) := by decide +kernel
theorem dX3_reasonAgainst_83 : decode cX3_reasonAgainst 83 = .ok (.iconst 0, 1) := by decide +kernel
theorem dX3_reasonAgainst_84 : decode cX3_reasonAgainst 84 = .ok (.goto 4, 3) := by decide +kernel
theorem dX3_reasonAgainst_87 : decode cX3_reasonAgainst 87 = .ok (.iconst 4, 1) := by decide +kernel
theorem dX3_reasonAgainst_88 : decode cX3_reasonAgainst 88 = .ok (.ireturn, 1) := by decide +kernel
theorem dX3_hasDayLeft_0 : decode cX3_hasDayLeft 0 = .ok (.iload_n 1, 1) := by decide +kernel
theorem dX3_hasDayLeft_1 : decode cX3_hasDayLeft 1 = .ok (.invokestatic 89, 3) := by decide +kernel
theorem dX3_hasDayLeft_4 : decode cX3_hasDayLeft 4 = .ok (.ifCond .eq 22, 3) := by decide +kernel
theorem dX3_hasDayLeft_7 : decode cX3_hasDayLeft 7 = .ok (.aload_n 0, 1) := by decide +kernel
theorem dX3_hasDayLeft_8 : decode cX3_hasDayLeft 8 = .ok (.getfield 24, 3) := by decide +kernel
theorem dX3_hasDayLeft_11 : decode cX3_hasDayLeft 11 = .ok (.iload_n 1, 1) := by decide +kernel
theorem dX3_hasDayLeft_12 : decode cX3_hasDayLeft 12 = .ok (.iaload, 1) := by decide +kernel
theorem dX3_hasDayLeft_13 : decode cX3_hasDayLeft 13 = .ok (.aload_n 0, 1) := by decide +kernel
theorem dX3_hasDayLeft_14 : decode cX3_hasDayLeft 14 = .ok (.getfield 21, 3) := by decide +kernel
theorem dX3_hasDayLeft_17 : decode cX3_hasDayLeft 17 = .ok (.iload_n 1, 1) := by decide +kernel
theorem dX3_hasDayLeft_18 : decode cX3_hasDayLeft 18 = .ok (.iaload, 1) := by decide +kernel
theorem dX3_hasDayLeft_19 : decode cX3_hasDayLeft 19 = .ok (.if_icmp .ge 7, 3) := by decide +kernel
theorem dX3_hasDayLeft_22 : decode cX3_hasDayLeft 22 = .ok (.iconst 1, 1) := by decide +kernel
theorem dX3_hasDayLeft_23 : decode cX3_hasDayLeft 23 = .ok (.goto 4, 3) := by decide +kernel
theorem dX3_hasDayLeft_26 : decode cX3_hasDayLeft 26 = .ok (.iconst 0, 1) := by decide +kernel
theorem dX3_hasDayLeft_27 : decode cX3_hasDayLeft 27 = .ok (.ireturn, 1) := by decide +kernel
theorem dX3_hasRight_0 : decode cX3_hasRight 0 = .ok (.iload_n 2, 1) := by decide +kernel
theorem dX3_hasRight_1 : decode cX3_hasRight 1 = .ok (.invokestatic 78, 3) := by decide +kernel
theorem dX3_hasRight_4 : decode cX3_hasRight 4 = .ok (.ifCond .eq 17, 3) := by decide +kernel
theorem dX3_hasRight_7 : decode cX3_hasRight 7 = .ok (.aload_n 0, 1) := by decide +kernel
theorem dX3_hasRight_8 : decode cX3_hasRight 8 = .ok (.getfield 18, 3) := by decide +kernel
theorem dX3_hasRight_11 : decode cX3_hasRight 11 = .ok (.iload_n 2, 1) := by decide +kernel
theorem dX3_hasRight_12 : decode cX3_hasRight 12 = .ok (.iaload, 1) := by decide +kernel
theorem dX3_hasRight_13 : decode cX3_hasRight 13 = .ok (.iload_n 1, 1) := by decide +kernel
theorem dX3_hasRight_14 : decode cX3_hasRight 14 = .ok (.if_icmp .ne 7, 3) := by decide +kernel
theorem dX3_hasRight_17 : decode cX3_hasRight 17 = .ok (.iconst 1, 1) := by decide +kernel
theorem dX3_hasRight_18 : decode cX3_hasRight 18 = .ok (.goto 4, 3) := by decide +kernel
theorem dX3_hasRight_21 : decode cX3_hasRight 21 = .ok (.iconst 0, 1) := by decide +kernel
theorem dX3_hasRight_22 : decode cX3_hasRight 22 = .ok (.ireturn, 1) := by decide +kernel
theorem dX3_takeLayer_0 : decode cX3_takeLayer 0 = .ok (.iload_n 1, 1) := by decide +kernel
theorem dX3_takeLayer_1 : decode cX3_takeLayer 1 = .ok (.invokestatic 89, 3) := by decide +kernel
theorem dX3_takeLayer_4 : decode cX3_takeLayer 4 = .ok (.ifCond .eq 10, 3) := by decide +kernel
theorem dX3_takeLayer_7 : decode cX3_takeLayer 7 = .ok (.iload_n 2, 1) := by decide +kernel
theorem dX3_takeLayer_8 : decode cX3_takeLayer 8 = .ok (.invokestatic 78, 3) := by decide +kernel
theorem dX3_takeLayer_11 : decode cX3_takeLayer 11 = .ok (.ifCond .ne 5, 3) := by decide +kernel
theorem dX3_takeLayer_14 : decode cX3_takeLayer 14 = .ok (.iconst (-1), 1) := by decide +kernel
theorem dX3_takeLayer_15 : decode cX3_takeLayer 15 = .ok (.ireturn, 1) := by decide +kernel
theorem dX3_takeLayer_16 : decode cX3_takeLayer 16 = .ok (.aload_n 0, 1) := by decide +kernel
theorem dX3_takeLayer_17 : decode cX3_takeLayer 17 = .ok (.getfield 9, 3) := by decide +kernel
theorem dX3_takeLayer_20 : decode cX3_takeLayer 20 = .ok (.iload_n 2, 1) := by decide +kernel
theorem dX3_takeLayer_21 : decode cX3_takeLayer 21 = .ok (.dup2, 1) := by decide +kernel
theorem dX3_takeLayer_22 : decode cX3_takeLayer 22 = .ok (.iaload, 1) := by decide +kernel
theorem dX3_takeLayer_23 : decode cX3_takeLayer 23 = .ok (.iconst 1, 1) := by decide +kernel
theorem dX3_takeLayer_24 : decode cX3_takeLayer 24 = .ok (.isub, 1) := by decide +kernel
theorem dX3_takeLayer_25 : decode cX3_takeLayer 25 = .ok (.iastore, 1) := by decide +kernel
theorem dX3_takeLayer_26 : decode cX3_takeLayer 26 = .ok (.aload_n 0, 1) := by decide +kernel
theorem dX3_takeLayer_27 : decode cX3_takeLayer 27 = .ok (.getfield 24, 3) := by decide +kernel
theorem dX3_takeLayer_30 : decode cX3_takeLayer 30 = .ok (.iload_n 1, 1) := by decide +kernel
theorem dX3_takeLayer_31 : decode cX3_takeLayer 31 = .ok (.dup2, 1) := by decide +kernel
theorem dX3_takeLayer_32 : decode cX3_takeLayer 32 = .ok (.iaload, 1) := by decide +kernel
theorem dX3_takeLayer_33 : decode cX3_takeLayer 33 = .ok (.iconst 1, 1) := by decide +kernel
theorem dX3_takeLayer_34 : decode cX3_takeLayer 34 = .ok (.iadd, 1) := by decide +kernel
theorem dX3_takeLayer_35 : decode cX3_takeLayer 35 = .ok (.iastore, 1) := by decide +kernel
theorem dX3_takeLayer_36 : decode cX3_takeLayer 36 = .ok (.aload_n 0, 1) := by decide +kernel
theorem dX3_takeLayer_37 : decode cX3_takeLayer 37 = .ok (.getfield 33, 3) := by decide +kernel
theorem dX3_takeLayer_40 : decode cX3_takeLayer 40 = .ok (.iload_n 1, 1) := by decide +kernel
theorem dX3_takeLayer_41 : decode cX3_takeLayer 41 = .ok (.iload_n 2, 1) := by decide +kernel
theorem dX3_takeLayer_42 : decode cX3_takeLayer 42 = .ok (.invokevirtual 92, 3) := by decide +kernel
theorem dX3_takeLayer_45 : decode cX3_takeLayer 45 = .ok (.istore_n 3, 1) := by decide +kernel
theorem dX3_takeLayer_46 : decode cX3_takeLayer 46 = .ok (.aload_n 0, 1) := by decide +kernel
theorem dX3_takeLayer_47 : decode cX3_takeLayer 47 = .ok (.getfield 18, 3) := by decide +kernel
theorem dX3_takeLayer_50 : decode cX3_takeLayer 50 = .ok (.iload_n 2, 1) := by decide +kernel
theorem dX3_takeLayer_51 : decode cX3_takeLayer 51 = .ok (.iaload, 1) := by decide +kernel
theorem dX3_takeLayer_52 : decode cX3_takeLayer 52 = .ok (.iload_n 1, 1) := by decide +kernel
theorem dX3_takeLayer_53 : decode cX3_takeLayer 53 = .ok (.if_icmp .eq 19, 3) := by decide +kernel
theorem dX3_takeLayer_56 : decode cX3_takeLayer 56 = .ok (.aload_n 0, 1) := by decide +kernel
theorem dX3_takeLayer_57 : decode cX3_takeLayer 57 = .ok (.getfield 40, 3) := by decide +kernel
theorem dX3_takeLayer_60 : decode cX3_takeLayer 60 = .ok (.iload_n 1, 1) := by decide +kernel
theorem dX3_takeLayer_61 : decode cX3_takeLayer 61 = .ok (.aload_n 0, 1) := by decide +kernel
theorem dX3_takeLayer_62 : decode cX3_takeLayer 62 = .ok (.getfield 18, 3) := by decide +kernel
theorem dX3_takeLayer_65 : decode cX3_takeLayer 65 = .ok (.iload_n 2, 1) := by decide +kernel
theorem dX3_takeLayer_66 : decode cX3_takeLayer 66 = .ok (.iaload, 1) := by decide +kernel
theorem dX3_takeLayer_67 : decode cX3_takeLayer 67 = .ok (.iload_n 3, 1) := by decide +kernel
theorem dX3_takeLayer_68 : decode cX3_takeLayer 68 = .ok (.iload_n 2, 1) := by decide +kernel
theorem dX3_takeLayer_69 : decode cX3_takeLayer 69 = .ok (.invokevirtual 96, 3) := by decide +kernel
theorem dX3_takeLayer_72 : decode cX3_takeLayer 72 = .ok (.iload_n 3, 1) := by decide +kernel
theorem dX3_takeLayer_73 : decode cX3_takeLayer 73 = .ok (.ireturn, 1) := by decide +kernel
theorem dX3_passDays_0 : decode cX3_passDays 0 = .ok (.aload_n 0, 1) := by decide +kernel
theorem dX3_passDays_1 : decode cX3_passDays 1 = .ok (.getfield 71, 3) := by decide +kernel
theorem dX3_passDays_4 : decode cX3_passDays 4 = .ok (.istore_n 3, 1) := by decide +kernel
theorem dX3_passDays_5 : decode cX3_passDays 5 = .ok (.iconst 0, 1) := by decide +kernel
theorem dX3_passDays_6 : decode cX3_passDays 6 = .ok (.istore 4, 2) := by decide +kernel
theorem dX3_passDays_8 : decode cX3_passDays 8 = .ok (.iload 4, 2) := by decide +kernel
theorem dX3_passDays_10 : decode cX3_passDays 10 = .ok (.iload_n 1, 1) := by decide +kernel
theorem dX3_passDays_11 : decode cX3_passDays 11 = .ok (.if_icmp .ge 65, 3) := by decide +kernel
theorem dX3_passDays_14 : decode cX3_passDays 14 = .ok (.aload_n 0, 1) := by decide +kernel
theorem dX3_passDays_15 : decode cX3_passDays 15 = .ok (.getfield 33, 3) := by decide +kernel
theorem dX3_passDays_18 : decode cX3_passDays 18 = .ok (.iload_n 2, 1) := by decide +kernel
theorem dX3_passDays_19 : decode cX3_passDays 19 = .ok (.invokevirtual 100, 3) := by decide +kernel
theorem dX3_passDays_22 : decode cX3_passDays 22 = .ok (.iconst 0, 1) := by decide +kernel
theorem dX3_passDays_23 : decode cX3_passDays 23 = .ok (.istore 5, 2) := by decide +kernel
theorem dX3_passDays_25 : decode cX3_passDays 25 = .ok (.iload 5, 2) := by decide +kernel
theorem dX3_passDays_27 : decode cX3_passDays 27 = .ok (.iconst 2, 1) := by decide +kernel
theorem dX3_passDays_28 : decode cX3_passDays 28 = .ok (.if_icmp .ge 19, 3) := by decide +kernel
theorem dX3_passDays_31 : decode cX3_passDays 31 = .ok (.aload_n 0, 1) := by decide +kernel
theorem dX3_passDays_32 : decode cX3_passDays 32 = .ok (.aload_n 0, 1) := by decide +kernel
theorem dX3_passDays_33 : decode cX3_passDays 33 = .ok (.iload 5, 2) := by decide +kernel
theorem dX3_passDays_35 : decode cX3_passDays 35 = .ok (.invokevirtual 104, 3) := by decide +kernel
theorem dX3_passDays_38 : decode cX3_passDays 38 = .ok (.invokevirtual 108, 3) := by decide +kernel
theorem dX3_passDays_41 : decode cX3_passDays 41 = .ok (.iinc 5 1, 3) := by decide +kernel
theorem dX3_passDays_44 : decode cX3_passDays 44 = .ok (.goto (-19), 3) := by decide +kernel
theorem dX3_passDays_47 : decode cX3_passDays 47 = .ok (.aload_n 0, 1) := by decide +kernel
theorem dX3_passDays_48 : decode cX3_passDays 48 = .ok (.aload_n 0, 1) := by decide +kernel
theorem dX3_passDays_49 : decode cX3_passDays 49 = .ok (.getfield 62, 3) := by decide +kernel
theorem dX3_passDays_52 : decode cX3_passDays 52 = .ok (.iconst 1, 1) := by decide +kernel
theorem dX3_passDays_53 : decode cX3_passDays 53 = .ok (.iadd, 1) := by decide +kernel
theorem dX3_passDays_54 : decode cX3_passDays 54 = .ok (.bipush 10, 2) := by decide +kernel
theorem dX3_passDays_56 : decode cX3_passDays 56 = .ok (.irem, 1) := by decide +kernel
theorem dX3_passDays_57 : decode cX3_passDays 57 = .ok (.putfield 62, 3) := by decide +kernel
theorem dX3_passDays_60 : decode cX3_passDays 60 = .ok (.aload_n 0, 1) := by decide +kernel
theorem dX3_passDays_61 : decode cX3_passDays 61 = .ok (.dup, 1) := by decide +kernel
theorem dX3_passDays_62 : decode cX3_passDays 62 = .ok (.getfield 65, 3) := by decide +kernel
theorem dX3_passDays_65 : decode cX3_passDays 65 = .ok (.iconst 1, 1) := by decide +kernel
theorem dX3_passDays_66 : decode cX3_passDays 66 = .ok (.iadd, 1) := by decide +kernel
theorem dX3_passDays_67 : decode cX3_passDays 67 = .ok (.putfield 65, 3) := by decide +kernel
theorem dX3_passDays_70 : decode cX3_passDays 70 = .ok (.iinc 4 1, 3) := by decide +kernel
theorem dX3_passDays_73 : decode cX3_passDays 73 = .ok (.goto (-65), 3) := by decide +kernel
theorem dX3_passDays_76 : decode cX3_passDays 76 = .ok (.aload_n 0, 1) := by decide +kernel
theorem dX3_passDays_77 : decode cX3_passDays 77 = .ok (.getfield 71, 3) := by decide +kernel
theorem dX3_passDays_80 : decode cX3_passDays 80 = .ok (.iload_n 3, 1) := by decide +kernel
theorem dX3_passDays_81 : decode cX3_passDays 81 = .ok (.isub, 1) := by decide +kernel
theorem dX3_passDays_82 : decode cX3_passDays 82 = .ok (.ireturn, 1) := by decide +kernel
theorem dX3_commonerOfCart_0 : decode cX3_commonerOfCart 0 = .ok (.aload_n 0, 1) := by decide +kernel
theorem dX3_commonerOfCart_1 : decode cX3_commonerOfCart 1 = .ok (.getfield 62, 3) := by decide +kernel
theorem dX3_commonerOfCart_4 : decode cX3_commonerOfCart 4 = .ok (.iload_n 1, 1) := by decide +kernel
theorem dX3_commonerOfCart_5 : decode cX3_commonerOfCart 5 = .ok (.iconst 5, 1) := by decide +kernel
theorem dX3_commonerOfCart_6 : decode cX3_commonerOfCart 6 = .ok (.imul, 1) := by decide +kernel
theorem dX3_commonerOfCart_7 : decode cX3_commonerOfCart 7 = .ok (.iadd, 1) := by decide +kernel
theorem dX3_commonerOfCart_8 : decode cX3_commonerOfCart 8 = .ok (.bipush 10, 2) := by decide +kernel
theorem dX3_commonerOfCart_10 : decode cX3_commonerOfCart 10 = .ok (.irem, 1) := by decide +kernel
theorem dX3_commonerOfCart_11 : decode cX3_commonerOfCart 11 = .ok (.ireturn, 1) := by decide +kernel
theorem dX3_serve_0 : decode cX3_serve 0 = .ok (.iconst 0, 1) := by decide +kernel
theorem dX3_serve_1 : decode cX3_serve 1 = .ok (.istore_n 2, 1) := by decide +kernel
theorem dX3_serve_2 : decode cX3_serve 2 = .ok (.iload_n 2, 1) := by decide +kernel
theorem dX3_serve_3 : decode cX3_serve 3 = .ok (.aload_n 0, 1) := by decide +kernel
theorem dX3_serve_4 : decode cX3_serve 4 = .ok (.getfield 44, 3) := by decide +kernel
theorem dX3_serve_7 : decode cX3_serve 7 = .ok (.if_icmp .ge 74, 3) := by decide +kernel
theorem dX3_serve_10 : decode cX3_serve 10 = .ok (.aload_n 0, 1) := by decide +kernel
theorem dX3_serve_11 : decode cX3_serve 11 = .ok (.getfield 33, 3) := by decide +kernel
theorem dX3_serve_14 : decode cX3_serve 14 = .ok (.iload_n 1, 1) := by decide +kernel
theorem dX3_serve_15 : decode cX3_serve 15 = .ok (.invokevirtual 111, 3) := by decide +kernel
theorem dX3_serve_18 : decode cX3_serve 18 = .ok (.istore_n 3, 1) := by decide +kernel
theorem dX3_serve_19 : decode cX3_serve 19 = .ok (.iload_n 1, 1) := by decide +kernel
theorem dX3_serve_20 : decode cX3_serve 20 = .ok (.invokestatic 89, 3) := by decide +kernel
theorem dX3_serve_23 : decode cX3_serve 23 = .ok (.ifCond .eq 14, 3) := by decide +kernel
theorem dX3_serve_26 : decode cX3_serve 26 = .ok (.aload_n 0, 1) := by decide +kernel
theorem dX3_serve_27 : decode cX3_serve 27 = .ok (.getfield 33, 3) := by decide +kernel
theorem dX3_serve_30 : decode cX3_serve 30 = .ok (.iload_n 3, 1) := by decide +kernel
theorem dX3_serve_31 : decode cX3_serve 31 = .ok (.invokevirtual 114, 3) := by decide +kernel
theorem dX3_serve_34 : decode cX3_serve 34 = .ok (.ifCond .ne 4, 3) := by decide +kernel
theorem dX3_serve_37 : decode cX3_serve 37 = .ok (.return_, 1) := by decide +kernel
theorem dX3_serve_38 : decode cX3_serve 38 = .ok (.aload_n 0, 1) := by decide +kernel
theorem dX3_serve_39 : decode cX3_serve 39 = .ok (.getfield 27, 3) := by decide +kernel
theorem dX3_serve_42 : decode cX3_serve 42 = .ok (.iload_n 1, 1) := by decide +kernel
theorem dX3_serve_43 : decode cX3_serve 43 = .ok (.dup2, 1) := by decide +kernel
theorem dX3_serve_44 : decode cX3_serve 44 = .ok (.iaload, 1) := by decide +kernel
theorem dX3_serve_45 : decode cX3_serve 45 = .ok (.aload_n 0, 1) := by decide +kernel
theorem dX3_serve_46 : decode cX3_serve 46 = .ok (.getfield 33, 3) := by decide +kernel
theorem dX3_serve_49 : decode cX3_serve 49 = .ok (.iload_n 3, 1) := by decide +kernel
theorem dX3_serve_50 : decode cX3_serve 50 = .ok (.invokevirtual 117, 3) := by decide +kernel
theorem dX3_serve_53 : decode cX3_serve 53 = .ok (.iadd, 1) := by decide +kernel
theorem dX3_serve_54 : decode cX3_serve 54 = .ok (.iastore, 1) := by decide +kernel
theorem dX3_serve_55 : decode cX3_serve 55 = .ok (.aload_n 0, 1) := by decide +kernel
theorem dX3_serve_56 : decode cX3_serve 56 = .ok (.getfield 33, 3) := by decide +kernel
theorem dX3_serve_59 : decode cX3_serve 59 = .ok (.getfield 120, 3) := by decide +kernel
theorem dX3_serve_62 : decode cX3_serve 62 = .ok (.iload_n 3, 1) := by decide +kernel
theorem dX3_serve_63 : decode cX3_serve 63 = .ok (.iconst 0, 1) := by decide +kernel
theorem dX3_serve_64 : decode cX3_serve 64 = .ok (.bastore, 1) := by decide +kernel
theorem dX3_serve_65 : decode cX3_serve 65 = .ok (.aload_n 0, 1) := by decide +kernel
theorem dX3_serve_66 : decode cX3_serve 66 = .ok (.dup, 1) := by decide +kernel
theorem dX3_serve_67 : decode cX3_serve 67 = .ok (.getfield 71, 3) := by decide +kernel
theorem dX3_serve_70 : decode cX3_serve 70 = .ok (.iconst 1, 1) := by decide +kernel
theorem dX3_serve_71 : decode cX3_serve 71 = .ok (.iadd, 1) := by decide +kernel
theorem dX3_serve_72 : decode cX3_serve 72 = .ok (.putfield 71, 3) := by decide +kernel
theorem dX3_serve_75 : decode cX3_serve 75 = .ok (.iinc 2 1, 3) := by decide +kernel
theorem dX3_serve_78 : decode cX3_serve 78 = .ok (.goto (-76), 3) := by decide +kernel
theorem dX3_serve_81 : decode cX3_serve 81 = .ok (.return_, 1) := by decide +kernel
theorem dX3_settleOldest_0 : decode cX3_settleOldest 0 = .ok (.aload_n 0, 1) := by decide +kernel
theorem dX3_settleOldest_1 : decode cX3_settleOldest 1 = .ok (.getfield 40, 3) := by decide +kernel
theorem dX3_settleOldest_4 : decode cX3_settleOldest 4 = .ok (.invokevirtual 124, 3) := by decide +kernel
theorem dX3_settleOldest_7 : decode cX3_settleOldest 7 = .ok (.ifCond .ne 6, 3) := by decide +kernel
theorem dX3_settleOldest_10 : decode cX3_settleOldest 10 = .ok (.bipush (-5), 2) := by decide +kernel
theorem dX3_settleOldest_12 : decode cX3_settleOldest 12 = .ok (.ireturn, 1) := by decide +kernel
theorem dX3_settleOldest_13 : decode cX3_settleOldest 13 = .ok (.aload_n 0, 1) := by decide +kernel
theorem dX3_settleOldest_14 : decode cX3_settleOldest 14 = .ok (.getfield 40, 3) := by decide +kernel
theorem dX3_settleOldest_17 : decode cX3_settleOldest 17 = .ok (.getfield 127, 3) := by decide +kernel
theorem dX3_settleOldest_20 : decode cX3_settleOldest 20 = .ok (.istore_n 1, 1) := by decide +kernel
theorem dX3_settleOldest_21 : decode cX3_settleOldest 21 = .ok (.aload_n 0, 1) := by decide +kernel
theorem dX3_settleOldest_22 : decode cX3_settleOldest 22 = .ok (.getfield 40, 3) := by decide +kernel
theorem dX3_settleOldest_25 : decode cX3_settleOldest 25 = .ok (.dup, 1) := by decide +kernel
theorem dX3_settleOldest_26 : decode cX3_settleOldest 26 = .ok (.getfield 127, 3) := by decide +kernel
theorem dX3_settleOldest_29 : decode cX3_settleOldest 29 = .ok (.iconst 1, 1) := by decide +kernel
theorem dX3_settleOldest_30 : decode cX3_settleOldest 30 = .ok (.iadd, 1) := by decide +kernel
theorem dX3_settleOldest_31 : decode cX3_settleOldest 31 = .ok (.putfield 127, 3) := by decide +kernel
theorem dX3_settleOldest_34 : decode cX3_settleOldest 34 = .ok (.aload_n 0, 1) := by decide +kernel
theorem dX3_settleOldest_35 : decode cX3_settleOldest 35 = .ok (.getfield 40, 3) := by decide +kernel
theorem dX3_settleOldest_38 : decode cX3_settleOldest 38 = .ok (.getfield 130, 3) := by decide +kernel
theorem dX3_settleOldest_41 : decode cX3_settleOldest 41 = .ok (.iload_n 1, 1) := by decide +kernel
theorem dX3_settleOldest_42 : decode cX3_settleOldest 42 = .ok (.iaload, 1) := by decide +kernel
theorem dX3_settleOldest_43 : decode cX3_settleOldest 43 = .ok (.istore_n 2, 1) := by decide +kernel
theorem dX3_settleOldest_44 : decode cX3_settleOldest 44 = .ok (.aload_n 0, 1) := by decide +kernel
theorem dX3_settleOldest_45 : decode cX3_settleOldest 45 = .ok (.getfield 59, 3) := by decide +kernel
theorem dX3_settleOldest_48 : decode cX3_settleOldest 48 = .ok (.ifCond .ne 11, 3) := by decide +kernel
theorem dX3_settleOldest_51 : decode cX3_settleOldest 51 = .ok (.aload_n 0, 1) := by decide +kernel
theorem dX3_settleOldest_52 : decode cX3_settleOldest 52 = .ok (.iload_n 2, 1) := by decide +kernel
theorem dX3_settleOldest_53 : decode cX3_settleOldest 53 = .ok (.invokevirtual 133, 3) := by decide +kernel
theorem dX3_settleOldest_56 : decode cX3_settleOldest 56 = .ok (.bipush 10, 2) := by decide +kernel
theorem dX3_settleOldest_58 : decode cX3_settleOldest 58 = .ok (.ireturn, 1) := by decide +kernel
theorem dX3_settleOldest_59 : decode cX3_settleOldest 59 = .ok (.aload_n 0, 1) := by decide +kernel
theorem dX3_settleOldest_60 : decode cX3_settleOldest 60 = .ok (.getfield 40, 3) := by decide +kernel
theorem dX3_settleOldest_63 : decode cX3_settleOldest 63 = .ok (.getfield 136, 3) := by decide +kernel
theorem dX3_settleOldest_66 : decode cX3_settleOldest 66 = .ok (.iload_n 1, 1) := by decide +kernel
theorem dX3_settleOldest_67 : decode cX3_settleOldest 67 = .ok (.iaload, 1) := by decide +kernel
theorem dX3_settleOldest_68 : decode cX3_settleOldest 68 = .ok (.istore_n 3, 1) := by decide +kernel
theorem dX3_settleOldest_69 : decode cX3_settleOldest 69 = .ok (.aload_n 0, 1) := by decide +kernel
theorem dX3_settleOldest_70 : decode cX3_settleOldest 70 = .ok (.getfield 40, 3) := by decide +kernel
theorem dX3_settleOldest_73 : decode cX3_settleOldest 73 = .ok (.getfield 139, 3) := by decide +kernel
theorem dX3_settleOldest_76 : decode cX3_settleOldest 76 = .ok (.iload_n 1, 1) := by decide +kernel
theorem dX3_settleOldest_77 : decode cX3_settleOldest 77 = .ok (.iaload, 1) := by decide +kernel
theorem dX3_settleOldest_78 : decode cX3_settleOldest 78 = .ok (.istore 4, 2) := by decide +kernel
theorem dX3_settleOldest_80 : decode cX3_settleOldest 80 = .ok (.aload_n 0, 1) := by decide +kernel
theorem dX3_settleOldest_81 : decode cX3_settleOldest 81 = .ok (.getfield 33, 3) := by decide +kernel
theorem dX3_settleOldest_84 : decode cX3_settleOldest 84 = .ok (.iload 4, 2) := by decide +kernel
theorem dX3_settleOldest_86 : decode cX3_settleOldest 86 = .ok (.invokevirtual 114, 3) := by decide +kernel
theorem dX3_settleOldest_89 : decode cX3_settleOldest 89 = .ok (.ifCond .eq 17, 3) := by decide +kernel
theorem dX3_settleOldest_92 : decode cX3_settleOldest 92 = .ok (.aload_n 0, 1) := by decide +kernel
theorem dX3_settleOldest_93 : decode cX3_settleOldest 93 = .ok (.getfield 33, 3) := by decide +kernel
theorem dX3_settleOldest_96 : decode cX3_settleOldest 96 = .ok (.getfield 142, 3) := by decide +kernel
theorem dX3_settleOldest_99 : decode cX3_settleOldest 99 = .ok (.iload 4, 2) := by decide +kernel
theorem dX3_settleOldest_101 : decode cX3_settleOldest 101 = .ok (.iload_n 3, 1) := by decide +kernel
theorem dX3_settleOldest_102 : decode cX3_settleOldest 102 = .ok (.iastore, 1) := by decide +kernel
theorem dX3_settleOldest_103 : decode cX3_settleOldest 103 = .ok (.goto 9, 3) := by decide +kernel
theorem dX3_settleOldest_106 : decode cX3_settleOldest 106 = .ok (.aload_n 0, 1) := by decide +kernel
theorem dX3_settleOldest_107 : decode cX3_settleOldest 107 = .ok (.iload_n 2, 1) := by decide +kernel
theorem dX3_settleOldest_108 : decode cX3_settleOldest 108 = .ok (.iload_n 3, 1) := by decide +kernel
theorem dX3_settleOldest_109 : decode cX3_settleOldest 109 = .ok (.invokevirtual 145, 3) := by decide +kernel
theorem dX3_settleOldest_112 : decode cX3_settleOldest 112 = .ok (.iload_n 3, 1) := by decide +kernel
theorem dX3_settleOldest_113 : decode cX3_settleOldest 113 = .ok (.ireturn, 1) := by decide +kernel
theorem dX3_useDayIfLeft_0 : decode cX3_useDayIfLeft 0 = .ok (.aload_n 0, 1) := by decide +kernel
theorem dX3_useDayIfLeft_1 : decode cX3_useDayIfLeft 1 = .ok (.iload_n 1, 1) := by decide +kernel
theorem dX3_useDayIfLeft_2 : decode cX3_useDayIfLeft 2 = .ok (.invokevirtual 74, 3) := by decide +kernel
theorem dX3_useDayIfLeft_5 : decode cX3_useDayIfLeft 5 = .ok (.ifCond .eq 13, 3) := by decide +kernel
theorem dX3_useDayIfLeft_8 : decode cX3_useDayIfLeft 8 = .ok (.aload_n 0, 1) := by decide +kernel
theorem dX3_useDayIfLeft_9 : decode cX3_useDayIfLeft 9 = .ok (.getfield 24, 3) := by decide +kernel
theorem dX3_useDayIfLeft_12 : decode cX3_useDayIfLeft 12 = .ok (.iload_n 1, 1) := by decide +kernel
theorem dX3_useDayIfLeft_13 : decode cX3_useDayIfLeft 13 = .ok (.dup2, 1) := by decide +kernel
theorem dX3_useDayIfLeft_14 : decode cX3_useDayIfLeft 14 = .ok (.iaload, 1) := by decide +kernel
theorem dX3_useDayIfLeft_15 : decode cX3_useDayIfLeft 15 = .ok (.iconst 1, 1) := by decide +kernel
theorem dX3_useDayIfLeft_16 : decode cX3_useDayIfLeft 16 = .ok (.iadd, 1) := by decide +kernel
theorem dX3_useDayIfLeft_17 : decode cX3_useDayIfLeft 17 = .ok (.iastore, 1) := by decide +kernel
theorem dX3_useDayIfLeft_18 : decode cX3_useDayIfLeft 18 = .ok (.return_, 1) := by decide +kernel
theorem dX3_givePeats_0 : decode cX3_givePeats 0 = .ok (.iload_n 1, 1) := by decide +kernel
theorem dX3_givePeats_1 : decode cX3_givePeats 1 = .ok (.invokestatic 89, 3) := by decide +kernel
theorem dX3_givePeats_4 : decode cX3_givePeats 4 = .ok (.ifCond .eq 42, 3) := by decide +kernel
theorem dX3_givePeats_7 : decode cX3_givePeats 7 = .ok (.iload_n 2, 1) := by decide +kernel
theorem dX3_givePeats_8 : decode cX3_givePeats 8 = .ok (.invokestatic 89, 3) := by decide +kernel
theorem dX3_givePeats_11 : decode cX3_givePeats 11 = .ok (.ifCond .eq 35, 3) := by decide +kernel
theorem dX3_givePeats_14 : decode cX3_givePeats 14 = .ok (.bipush 20, 2) := by decide +kernel
theorem dX3_givePeats_16 : decode cX3_givePeats 16 = .ok (.aload_n 0, 1) := by decide +kernel
theorem dX3_givePeats_17 : decode cX3_givePeats 17 = .ok (.getfield 27, 3) := by decide +kernel
theorem dX3_givePeats_20 : decode cX3_givePeats 20 = .ok (.iload_n 1, 1) := by decide +kernel
theorem dX3_givePeats_21 : decode cX3_givePeats 21 = .ok (.iaload, 1) := by decide +kernel
theorem dX3_givePeats_22 : decode cX3_givePeats 22 = .ok (.invokestatic 149, 3) := by decide +kernel
theorem dX3_givePeats_25 : decode cX3_givePeats 25 = .ok (.istore_n 3, 1) := by decide +kernel
theorem dX3_givePeats_26 : decode cX3_givePeats 26 = .ok (.aload_n 0, 1) := by decide +kernel
theorem dX3_givePeats_27 : decode cX3_givePeats 27 = .ok (.getfield 27, 3) := by decide +kernel
theorem dX3_givePeats_30 : decode cX3_givePeats 30 = .ok (.iload_n 1, 1) := by decide +kernel
theorem dX3_givePeats_31 : decode cX3_givePeats 31 = .ok (.dup2, 1) := by decide +kernel
theorem dX3_givePeats_32 : decode cX3_givePeats 32 = .ok (.iaload, 1) := by decide +kernel
theorem dX3_givePeats_33 : decode cX3_givePeats 33 = .ok (.iload_n 3, 1) := by decide +kernel
theorem dX3_givePeats_34 : decode cX3_givePeats 34 = .ok (.isub, 1) := by decide +kernel
theorem dX3_givePeats_35 : decode cX3_givePeats 35 = .ok (.iastore, 1) := by decide +kernel
theorem dX3_givePeats_36 : decode cX3_givePeats 36 = .ok (.aload_n 0, 1) := by decide +kernel
theorem dX3_givePeats_37 : decode cX3_givePeats 37 = .ok (.getfield 27, 3) := by decide +kernel
theorem dX3_givePeats_40 : decode cX3_givePeats 40 = .ok (.iload_n 2, 1) := by decide +kernel
theorem dX3_givePeats_41 : decode cX3_givePeats 41 = .ok (.dup2, 1) := by decide +kernel
theorem dX3_givePeats_42 : decode cX3_givePeats 42 = .ok (.iaload, 1) := by decide +kernel
theorem dX3_givePeats_43 : decode cX3_givePeats 43 = .ok (.iload_n 3, 1) := by decide +kernel
theorem dX3_givePeats_44 : decode cX3_givePeats 44 = .ok (.iadd, 1) := by decide +kernel
theorem dX3_givePeats_45 : decode cX3_givePeats 45 = .ok (.iastore, 1) := by decide +kernel
theorem dX3_givePeats_46 : decode cX3_givePeats 46 = .ok (.return_, 1) := by decide +kernel
theorem dX3_closeYear_0 : decode cX3_closeYear 0 = .ok (.aload_n 0, 1) := by decide +kernel
theorem dX3_closeYear_1 : decode cX3_closeYear 1 = .ok (.getfield 33, 3) := by decide +kernel
theorem dX3_closeYear_4 : decode cX3_closeYear 4 = .ok (.invokevirtual 154, 3) := by decide +kernel
theorem dX3_closeYear_7 : decode cX3_closeYear 7 = .ok (.istore_n 1, 1) := by decide +kernel
theorem dX3_closeYear_8 : decode cX3_closeYear 8 = .ok (.aload_n 0, 1) := by decide +kernel
theorem dX3_closeYear_9 : decode cX3_closeYear 9 = .ok (.getfield 40, 3) := by decide +kernel
theorem dX3_closeYear_12 : decode cX3_closeYear 12 = .ok (.aload_n 0, 1) := by decide +kernel
theorem dX3_closeYear_13 : decode cX3_closeYear 13 = .ok (.getfield 40, 3) := by decide +kernel
theorem dX3_closeYear_16 : decode cX3_closeYear 16 = .ok (.getfield 157, 3) := by decide +kernel
theorem dX3_closeYear_19 : decode cX3_closeYear 19 = .ok (.putfield 127, 3) := by decide +kernel
theorem dX3_closeYear_22 : decode cX3_closeYear 22 = .ok (.aload_n 0, 1) := by decide +kernel
theorem dX3_closeYear_23 : decode cX3_closeYear 23 = .ok (.getfield 15, 3) := by decide +kernel
theorem dX3_closeYear_26 : decode cX3_closeYear 26 = .ok (.aload_n 0, 1) := by decide +kernel
theorem dX3_closeYear_27 : decode cX3_closeYear 27 = .ok (.getfield 18, 3) := by decide +kernel
theorem dX3_closeYear_30 : decode cX3_closeYear 30 = .ok (.invokestatic 48, 3) := by decide +kernel
theorem dX3_closeYear_33 : decode cX3_closeYear 33 = .ok (.iconst 0, 1) := by decide +kernel
theorem dX3_closeYear_34 : decode cX3_closeYear 34 = .ok (.istore_n 2, 1) := by decide +kernel
theorem dX3_closeYear_35 : decode cX3_closeYear 35 = .ok (.iload_n 2, 1) := by decide +kernel
theorem dX3_closeYear_36 : decode cX3_closeYear 36 = .ok (.bipush 10, 2) := by decide +kernel
theorem dX3_closeYear_38 : decode cX3_closeYear 38 = .ok (.if_icmp .ge 16, 3) := by decide +kernel
theorem dX3_closeYear_41 : decode cX3_closeYear 41 = .ok (.aload_n 0, 1) := by decide +kernel
theorem dX3_closeYear_42 : decode cX3_closeYear 42 = .ok (.getfield 24, 3) := by decide +kernel
theorem dX3_closeYear_45 : decode cX3_closeYear 45 = .ok (.iload_n 2, 1) := by decide +kernel
theorem dX3_closeYear_46 : decode cX3_closeYear 46 = .ok (.iconst 0, 1) := by decide +kernel
theorem dX3_closeYear_47 : decode cX3_closeYear 47 = .ok (.iastore, 1) := by decide +kernel
theorem dX3_closeYear_48 : decode cX3_closeYear 48 = .ok (.iinc 2 1, 3) := by decide +kernel
theorem dX3_closeYear_51 : decode cX3_closeYear 51 = .ok (.goto (-16), 3) := by decide +kernel
theorem dX3_closeYear_54 : decode cX3_closeYear 54 = .ok (.aload_n 0, 1) := by decide +kernel
theorem dX3_closeYear_55 : decode cX3_closeYear 55 = .ok (.iconst 0, 1) := by decide +kernel
theorem dX3_closeYear_56 : decode cX3_closeYear 56 = .ok (.putfield 65, 3) := by decide +kernel
theorem dX3_closeYear_59 : decode cX3_closeYear 59 = .ok (.aload_n 0, 1) := by decide +kernel
theorem dX3_closeYear_60 : decode cX3_closeYear 60 = .ok (.dup, 1) := by decide +kernel
theorem dX3_closeYear_61 : decode cX3_closeYear 61 = .ok (.getfield 68, 3) := by decide +kernel
theorem dX3_closeYear_64 : decode cX3_closeYear 64 = .ok (.iconst 1, 1) := by decide +kernel
theorem dX3_closeYear_65 : decode cX3_closeYear 65 = .ok (.iadd, 1) := by decide +kernel
theorem dX3_closeYear_66 : decode cX3_closeYear 66 = .ok (.putfield 68, 3) := by decide +kernel
theorem dX3_closeYear_69 : decode cX3_closeYear 69 = .ok (.iload_n 1, 1) := by decide +kernel
theorem dX3_closeYear_70 : decode cX3_closeYear 70 = .ok (.ireturn, 1) := by decide +kernel
theorem dX4_init_0 : decode cX4_init 0 = .ok (.aload_n 0, 1) := by decide +kernel
theorem dX4_init_1 : decode cX4_init 1 = .ok (.invokespecial 3, 3) := by decide +kernel
theorem dX4_init_4 : decode cX4_init 4 = .ok (.aload_n 0, 1) := by decide +kernel
theorem dX4_init_5 : decode cX4_init 5 = .ok (.bipush 120, 2) := by decide +kernel
theorem dX4_init_7 : decode cX4_init 7 = .ok (.newarray .int, 2) := by decide +kernel
theorem dX4_init_9 : decode cX4_init 9 = .ok (.putfield 9, 3) := by decide +kernel
theorem dX4_init_12 : decode cX4_init 12 = .ok (.aload_n 0, 1) := by decide +kernel
theorem dX4_init_13 : decode cX4_init 13 = .ok (.bipush 120, 2) := by decide +kernel
theorem dX4_init_15 : decode cX4_init 15 = .ok (.newarray .int, 2) := by decide +kernel
theorem dX4_init_17 : decode cX4_init 17 = .ok (.putfield 15, 3) := by decide +kernel
theorem dX4_init_20 : decode cX4_init 20 = .ok (.aload_n 0, 1) := by decide +kernel
theorem dX4_init_21 : decode cX4_init 21 = .ok (.bipush 120, 2) := by decide +kernel
theorem dX4_init_23 : decode cX4_init 23 = .ok (.newarray .int, 2) := by decide +kernel
theorem dX4_init_25 : decode cX4_init 25 = .ok (.putfield 18, 3) := by decide +kernel
theorem dX4_init_28 : decode cX4_init 28 = .ok (.aload_n 0, 1) := by decide +kernel
theorem dX4_init_29 : decode cX4_init 29 = .ok (.bipush 120, 2) := by decide +kernel
theorem dX4_init_31 : decode cX4_init 31 = .ok (.newarray .boolean, 2) := by decide +kernel
theorem dX4_init_33 : decode cX4_init 33 = .ok (.putfield 21, 3) := by decide +kernel
theorem dX4_init_36 : decode cX4_init 36 = .ok (.aload_n 0, 1) := by decide +kernel
theorem dX4_init_37 : decode cX4_init 37 = .ok (.bipush 120, 2) := by decide +kernel
theorem dX4_init_39 : decode cX4_init 39 = .ok (.newarray .boolean, 2) := by decide +kernel
theorem dX4_init_41 : decode cX4_init 41 = .ok (.putfield 25, 3) := by decide +kernel
theorem dX4_init_44 : decode cX4_init 44 = .ok (.aload_n 0, 1) := by decide +kernel
theorem dX4_init_45 : decode cX4_init 45 = .ok (.bipush 120, 2) := by decide +kernel
theorem dX4_init_47 : decode cX4_init 47 = .ok (.newarray .boolean, 2) := by decide +kernel
theorem dX4_init_49 : decode cX4_init 49 = .ok (.putfield 28, 3) := by decide +kernel
theorem dX4_init_52 : decode cX4_init 52 = .ok (.return_, 1) := by decide +kernel
theorem dX4_copyFrom_0 : decode cX4_copyFrom 0 = .ok (.aload_n 1, 1) := by decide +kernel
theorem dX4_copyFrom_1 : decode cX4_copyFrom 1 = .ok (.getfield 9, 3) := by decide +kernel
theorem dX4_copyFrom_4 : decode cX4_copyFrom 4 = .ok (.aload_n 0, 1) := by decide +kernel
theorem dX4_copyFrom_5 : decode cX4_copyFrom 5 = .ok (.getfield 9, 3) := by decide +kernel
theorem dX4_copyFrom_8 : decode cX4_copyFrom 8 = .ok (.invokestatic 31, 3) := by decide +kernel
theorem dX4_copyFrom_11 : decode cX4_copyFrom 11 = .ok (.aload_n 1, 1) := by decide +kernel
theorem dX4_copyFrom_12 : decode cX4_copyFrom 12 = .ok (.getfield 15, 3) := by decide +kernel
theorem dX4_copyFrom_15 : decode cX4_copyFrom 15 = .ok (.aload_n 0, 1) := by decide +kernel
theorem dX4_copyFrom_16 : decode cX4_copyFrom 16 = .ok (.getfield 15, 3) := by decide +kernel
theorem dX4_copyFrom_19 : decode cX4_copyFrom 19 = .ok (.invokestatic 31, 3) := by decide +kernel
theorem dX4_copyFrom_22 : decode cX4_copyFrom 22 = .ok (.aload_n 1, 1) := by decide +kernel
theorem dX4_copyFrom_23 : decode cX4_copyFrom 23 = .ok (.getfield 18, 3) := by decide +kernel
theorem dX4_copyFrom_26 : decode cX4_copyFrom 26 = .ok (.aload_n 0, 1) := by decide +kernel
theorem dX4_copyFrom_27 : decode cX4_copyFrom 27 = .ok (.getfield 18, 3) := by decide +kernel
theorem dX4_copyFrom_30 : decode cX4_copyFrom 30 = .ok (.invokestatic 31, 3) := by decide +kernel
theorem dX4_copyFrom_33 : decode cX4_copyFrom 33 = .ok (.aload_n 1, 1) := by decide +kernel
theorem dX4_copyFrom_34 : decode cX4_copyFrom 34 = .ok (.getfield 21, 3) := by decide +kernel
theorem dX4_copyFrom_37 : decode cX4_copyFrom 37 = .ok (.aload_n 0, 1) := by decide +kernel
theorem dX4_copyFrom_38 : decode cX4_copyFrom 38 = .ok (.getfield 21, 3) := by decide +kernel
theorem dX4_copyFrom_41 : decode cX4_copyFrom 41 = .ok (.invokestatic 35, 3) := by decide +kernel
theorem dX4_copyFrom_44 : decode cX4_copyFrom 44 = .ok (.aload_n 1, 1) := by decide +kernel
theorem dX4_copyFrom_45 : decode cX4_copyFrom 45 = .ok (.getfield 25, 3) := by decide +kernel
theorem dX4_copyFrom_48 : decode cX4_copyFrom 48 = .ok (.aload_n 0, 1) := by decide +kernel
theorem dX4_copyFrom_49 : decode cX4_copyFrom 49 = .ok (.getfield 25, 3) := by decide +kernel
theorem dX4_copyFrom_52 : decode cX4_copyFrom 52 = .ok (.invokestatic 35, 3) := by decide +kernel
theorem dX4_copyFrom_55 : decode cX4_copyFrom 55 = .ok (.aload_n 1, 1) := by decide +kernel
theorem dX4_copyFrom_56 : decode cX4_copyFrom 56 = .ok (.getfield 28, 3) := by decide +kernel
theorem dX4_copyFrom_59 : decode cX4_copyFrom 59 = .ok (.aload_n 0, 1) := by decide +kernel
theorem dX4_copyFrom_60 : decode cX4_copyFrom 60 = .ok (.getfield 28, 3) := by decide +kernel
theorem dX4_copyFrom_63 : decode cX4_copyFrom 63 = .ok (.invokestatic 35, 3) := by decide +kernel
theorem dX4_copyFrom_66 : decode cX4_copyFrom 66 = .ok (.aload_n 0, 1) := by decide +kernel
theorem dX4_copyFrom_67 : decode cX4_copyFrom 67 = .ok (.aload_n 1, 1) := by decide +kernel
theorem dX4_copyFrom_68 : decode cX4_copyFrom 68 = .ok (.getfield 39, 3) := by decide +kernel
theorem dX4_copyFrom_71 : decode cX4_copyFrom 71 = .ok (.putfield 39, 3) := by decide +kernel
theorem dX4_copyFrom_74 : decode cX4_copyFrom 74 = .ok (.return_, 1) := by decide +kernel
theorem dX4_hasNumberLeft_0 : decode cX4_hasNumberLeft 0 = .ok (.aload_n 0, 1) := by decide +kernel
theorem dX4_hasNumberLeft_1 : decode cX4_hasNumberLeft 1 = .ok (.getfield 39, 3) := by decide +kernel
theorem dX4_hasNumberLeft_4 : decode cX4_hasNumberLeft 4 = .ok (.bipush 120, 2) := by decide +kernel
theorem dX4_hasNumberLeft_6 : decode cX4_hasNumberLeft 6 = .ok (.if_icmp .ge 7, 3) := by decide +kernel
theorem dX4_hasNumberLeft_9 : decode cX4_hasNumberLeft 9 = .ok (.iconst 1, 1) := by decide +kernel
theorem dX4_hasNumberLeft_10 : decode cX4_hasNumberLeft 10 = .ok (.goto 4, 3) := by decide +kernel
theorem dX4_hasNumberLeft_13 : decode cX4_hasNumberLeft 13 = .ok (.iconst 0, 1) := by decide +kernel
theorem dX4_hasNumberLeft_14 : decode cX4_hasNumberLeft 14 = .ok (.ireturn, 1) := by decide +kernel
theorem dX4_lay_0 : decode cX4_lay 0 = .ok (.aload_n 0, 1) := by decide +kernel
theorem dX4_lay_1 : decode cX4_lay 1 = .ok (.getfield 39, 3) := by decide +kernel
theorem dX4_lay_4 : decode cX4_lay 4 = .ok (.istore_n 3, 1) := by decide +kernel
theorem dX4_lay_5 : decode cX4_lay 5 = .ok (.aload_n 0, 1) := by decide +kernel
theorem dX4_lay_6 : decode cX4_lay 6 = .ok (.invokevirtual 43, 3) := by decide +kernel
theorem dX4_lay_9 : decode cX4_lay 9 = .ok (.ifCond .ne 6, 3) := by decide +kernel
theorem dX4_lay_12 : decode cX4_lay 12 = .ok (.bipush (-4), 2) := by decide +kernel
theorem dX4_lay_14 : decode cX4_lay 14 = .ok (.ireturn, 1) := by decide +kernel
theorem dX4_lay_15 : decode cX4_lay 15 = .ok (.aload_n 0, 1) := by decide +kernel
theorem dX4_lay_16 : decode cX4_lay 16 = .ok (.getfield 9, 3) := by decide +kernel
theorem dX4_lay_19 : decode cX4_lay 19 = .ok (.iload_n 3, 1) := by decide +kernel
theorem dX4_lay_20 : decode cX4_lay 20 = .ok (.iload_n 1, 1) := by decide +kernel
theorem dX4_lay_21 : decode cX4_lay 21 = .ok (.iastore, 1) := by decide +kernel
theorem dX4_lay_22 : decode cX4_lay 22 = .ok (.aload_n 0, 1) := by decide +kernel
theorem dX4_lay_23 : decode cX4_lay 23 = .ok (.getfield 15, 3) := by decide +kernel
theorem dX4_lay_26 : decode cX4_lay 26 = .ok (.iload_n 3, 1) := by decide +kernel
theorem dX4_lay_27 : decode cX4_lay 27 = .ok (.iload_n 2, 1) := by decide +kernel
theorem dX4_lay_28 : decode cX4_lay 28 = .ok (.iastore, 1) := by decide +kernel
theorem dX4_lay_29 : decode cX4_lay 29 = .ok (.aload_n 0, 1) := by decide +kernel
theorem dX4_lay_30 : decode cX4_lay 30 = .ok (.getfield 18, 3) := by decide +kernel
theorem dX4_lay_33 : decode cX4_lay 33 = .ok (.iload_n 3, 1) := by decide +kernel
theorem dX4_lay_34 : decode cX4_lay 34 = .ok (.bipush 50, 2) := by decide +kernel
theorem dX4_lay_36 : decode cX4_lay 36 = .ok (.iastore, 1) := by decide +kernel
theorem dX4_lay_37 : decode cX4_lay 37 = .ok (.aload_n 0, 1) := by decide +kernel
theorem dX4_lay_38 : decode cX4_lay 38 = .ok (.getfield 21, 3) := by decide +kernel
theorem dX4_lay_41 : decode cX4_lay 41 = .ok (.iload_n 3, 1) := by decide +kernel
theorem dX4_lay_42 : decode cX4_lay 42 = .ok (.iconst 0, 1) := by decide +kernel
theorem dX4_lay_43 : decode cX4_lay 43 = .ok (.bastore, 1) := by decide +kernel
theorem dX4_lay_44 : decode cX4_lay 44 = .ok (.aload_n 0, 1) := by decide +kernel
theorem dX4_lay_45 : decode cX4_lay 45 = .ok (.getfield 25, 3) := by decide +kernel
theorem dX4_lay_48 : decode cX4_lay 48 = .ok (.iload_n 3, 1) := by decide +kernel
theorem dX4_lay_49 : decode cX4_lay 49 = .ok (.iconst 0, 1) := by decide +kernel
theorem dX4_lay_50 : decode cX4_lay 50 = .ok (.bastore, 1) := by decide +kernel
theorem dX4_lay_51 : decode cX4_lay 51 = .ok (.aload_n 0, 1) := by decide +kernel
theorem dX4_lay_52 : decode cX4_lay 52 = .ok (.getfield 28, 3) := by decide +kernel
theorem dX4_lay_55 : decode cX4_lay 55 = .ok (.iload_n 3, 1) := by decide +kernel
theorem dX4_lay_56 : decode cX4_lay 56 = .ok (.iconst 1, 1) := by decide +kernel
theorem dX4_lay_57 : decode cX4_lay 57 = .ok (.bastore, 1) := by decide +kernel
theorem dX4_lay_58 : decode cX4_lay 58 = .ok (.aload_n 0, 1) := by decide +kernel
theorem dX4_lay_59 : decode cX4_lay 59 = .ok (.dup, 1) := by decide +kernel
theorem dX4_lay_60 : decode cX4_lay 60 = .ok (.getfield 39, 3) := by decide +kernel
theorem dX4_lay_63 : decode cX4_lay 63 = .ok (.iconst 1, 1) := by decide +kernel
theorem dX4_lay_64 : decode cX4_lay 64 = .ok (.iadd, 1) := by decide +kernel
theorem dX4_lay_65 : decode cX4_lay 65 = .ok (.putfield 39, 3) := by decide +kernel
theorem dX4_lay_68 : decode cX4_lay 68 = .ok (.iload_n 3, 1) := by decide +kernel
theorem dX4_lay_69 : decode cX4_lay 69 = .ok (.ireturn, 1) := by decide +kernel
theorem dX4_isLying_0 : decode cX4_isLying 0 = .ok (.iload_n 1, 1) := by decide +kernel
theorem dX4_isLying_1 : decode cX4_isLying 1 = .ok (.iconst 0, 1) := by decide +kernel
theorem dX4_isLying_2 : decode cX4_isLying 2 = .ok (.aload_n 0, 1) := by decide +kernel
theorem dX4_isLying_3 : decode cX4_isLying 3 = .ok (.getfield 39, 3) := by decide +kernel
theorem dX4_isLying_6 : decode cX4_isLying 6 = .ok (.iconst 1, 1) := by decide +kernel
theorem dX4_isLying_7 : decode cX4_isLying 7 = .ok (.isub, 1) := by decide +kernel
theorem dX4_isLying_8 : decode cX4_isLying 8 = .ok (.invokestatic 47, 3) := by decide +kernel
theorem dX4_isLying_11 : decode cX4_isLying 11 = .ok (.ifCond .eq 16, 3) := by decide +kernel
theorem dX4_isLying_14 : decode cX4_isLying 14 = .ok (.aload_n 0, 1) := by decide +kernel
theorem dX4_isLying_15 : decode cX4_isLying 15 = .ok (.getfield 28, 3) := by decide +kernel
theorem dX4_isLying_18 : decode cX4_isLying 18 = .ok (.iload_n 1, 1) := by decide +kernel
theorem dX4_isLying_19 : decode cX4_isLying 19 = .ok (.baload, 1) := by decide +kernel
theorem dX4_isLying_20 : decode cX4_isLying 20 = .ok (.ifCond .eq 7, 3) := by decide +kernel
theorem dX4_isLying_23 : decode cX4_isLying 23 = .ok (.iconst 1, 1) := by decide +kernel
theorem dX4_isLying_24 : decode cX4_isLying 24 = .ok (.goto 4, 3) := by decide +kernel
theorem dX4_isLying_27 : decode cX4_isLying 27 = .ok (.iconst 0, 1) := by decide +kernel
theorem dX4_isLying_28 : decode cX4_isLying 28 = .ok (.ireturn, 1) := by decide +kernel
theorem dX4_isLyingOf_0 : decode cX4_isLyingOf 0 = .ok (.aload_n 0, 1) := by decide +kernel
theorem dX4_isLyingOf_1 : decode cX4_isLyingOf 1 = .ok (.iload_n 1, 1) := by decide +kernel
theorem dX4_isLyingOf_2 : decode cX4_isLyingOf 2 = .ok (.invokevirtual 51, 3) := by decide +kernel
theorem dX4_isLyingOf_5 : decode cX4_isLyingOf 5 = .ok (.ifCond .eq 17, 3) := by decide +kernel
theorem dX4_isLyingOf_8 : decode cX4_isLyingOf 8 = .ok (.aload_n 0, 1) := by decide +kernel
theorem dX4_isLyingOf_9 : decode cX4_isLyingOf 9 = .ok (.getfield 9, 3) := by decide +kernel
theorem dX4_isLyingOf_12 : decode cX4_isLyingOf 12 = .ok (.iload_n 1, 1) := by decide +kernel
theorem dX4_isLyingOf_13 : decode cX4_isLyingOf 13 = .ok (.iaload, 1) := by decide +kernel
theorem dX4_isLyingOf_14 : decode cX4_isLyingOf 14 = .ok (.iload_n 2, 1) := by decide +kernel
theorem dX4_isLyingOf_15 : decode cX4_isLyingOf 15 = .ok (.if_icmp .ne 7, 3) := by decide +kernel
theorem dX4_isLyingOf_18 : decode cX4_isLyingOf 18 = .ok (.iconst 1, 1) := by decide +kernel
theorem dX4_isLyingOf_19 : decode cX4_isLyingOf 19 = .ok (.goto 4, 3) := by decide +kernel
theorem dX4_isLyingOf_22 : decode cX4_isLyingOf 22 = .ok (.iconst 0, 1) := by decide +kernel
theorem dX4_isLyingOf_23 : decode cX4_isLyingOf 23 = .ok (.ireturn, 1) := by decide +kernel
theorem dX4_isStacked_0 : decode cX4_isStacked 0 = .ok (.aload_n 0, 1) := by decide +kernel
theorem dX4_isStacked_1 : decode cX4_isStacked 1 = .ok (.iload_n 1, 1) := by decide +kernel
theorem dX4_isStacked_2 : decode cX4_isStacked 2 = .ok (.invokevirtual 51, 3) := by decide +kernel
theorem dX4_isStacked_5 : decode cX4_isStacked 5 = .ok (.ifCond .eq 16, 3) := by decide +kernel
theorem dX4_isStacked_8 : decode cX4_isStacked 8 = .ok (.aload_n 0, 1) := by decide +kernel
theorem dX4_isStacked_9 : decode cX4_isStacked 9 = .ok (.getfield 25, 3) := by decide +kernel
theorem dX4_isStacked_12 : decode cX4_isStacked 12 = .ok (.iload_n 1, 1) := by decide +kernel
theorem dX4_isStacked_13 : decode cX4_isStacked 13 = .ok (.baload, 1) := by decide +kernel
theorem dX4_isStacked_14 : decode cX4_isStacked 14 = .ok (.ifCond .eq 7, 3) := by decide +kernel
theorem dX4_isStacked_17 : decode cX4_isStacked 17 = .ok (.iconst 1, 1) := by decide +kernel
theorem dX4_isStacked_18 : decode cX4_isStacked 18 = .ok (.goto 4, 3) := by decide +kernel
theorem dX4_isStacked_21 : decode cX4_isStacked 21 = .ok (.iconst 0, 1) := by decide +kernel
theorem dX4_isStacked_22 : decode cX4_isStacked 22 = .ok (.ireturn, 1) := by decide +kernel
theorem dX4_isDry_0 : decode cX4_isDry 0 = .ok (.aload_n 0, 1) := by decide +kernel
theorem dX4_isDry_1 : decode cX4_isDry 1 = .ok (.iload_n 1, 1) := by decide +kernel
theorem dX4_isDry_2 : decode cX4_isDry 2 = .ok (.invokevirtual 51, 3) := by decide +kernel
theorem dX4_isDry_5 : decode cX4_isDry 5 = .ok (.ifCond .eq 18, 3) := by decide +kernel
theorem dX4_isDry_8 : decode cX4_isDry 8 = .ok (.aload_n 0, 1) := by decide +kernel
theorem dX4_isDry_9 : decode cX4_isDry 9 = .ok (.getfield 18, 3) := by decide +kernel
theorem dX4_isDry_12 : decode cX4_isDry 12 = .ok (.iload_n 1, 1) := by decide +kernel
theorem dX4_isDry_13 : decode cX4_isDry 13 = .ok (.iaload, 1) := by decide +kernel
theorem dX4_isDry_14 : decode cX4_isDry 14 = .ok (.bipush 20, 2) := by decide +kernel
theorem dX4_isDry_16 : decode cX4_isDry 16 = .ok (.if_icmp .gt 7, 3) := by decide +kernel
theorem dX4_isDry_19 : decode cX4_isDry 19 = .ok (.iconst 1, 1) := by decide +kernel
theorem dX4_isDry_20 : decode cX4_isDry 20 = .ok (.goto 4, 3) := by decide +kernel
theorem dX4_isDry_23 : decode cX4_isDry 23 = .ok (.iconst 0, 1) := by decide +kernel
theorem dX4_isDry_24 : decode cX4_isDry 24 = .ok (.ireturn, 1) := by decide +kernel
theorem dX4_peatsAtHearth_0 : decode cX4_peatsAtHearth 0 = .ok (.aload_n 0, 1) := by decide +kernel
theorem dX4_peatsAtHearth_1 : decode cX4_peatsAtHearth 1 = .ok (.iload_n 1, 1) := by decide +kernel
theorem dX4_peatsAtHearth_2 : decode cX4_peatsAtHearth 2 = .ok (.invokevirtual 51, 3) := by decide +kernel
theorem dX4_peatsAtHearth_5 : decode cX4_peatsAtHearth 5 = .ok (.ifCond .eq 19, 3) := by decide +kernel
theorem dX4_peatsAtHearth_8 : decode cX4_peatsAtHearth 8 = .ok (.iconst 0, 1) := by decide +kernel
theorem dX4_peatsAtHearth_9 : decode cX4_peatsAtHearth 9 = .ok (.bipush 40, 2) := by decide +kernel
theorem dX4_peatsAtHearth_11 : decode cX4_peatsAtHearth 11 = .ok (.aload_n 0, 1) := by decide +kernel
theorem dX4_peatsAtHearth_12 : decode cX4_peatsAtHearth 12 = .ok (.getfield 18, 3) := by decide +kernel
theorem dX4_peatsAtHearth_15 : decode cX4_peatsAtHearth 15 = .ok (.iload_n 1, 1) := by decide +kernel
theorem dX4_peatsAtHearth_16 : decode cX4_peatsAtHearth 16 = .ok (.iaload, 1) := by decide +kernel
theorem dX4_peatsAtHearth_17 : decode cX4_peatsAtHearth 17 = .ok (.isub, 1) := by decide +kernel
theorem dX4_peatsAtHearth_18 : decode cX4_peatsAtHearth 18 = .ok (.invokestatic 55, 3) := by decide +kernel
theorem dX4_peatsAtHearth_21 : decode cX4_peatsAtHearth 21 = .ok (.goto 4, 3) := by decide +kernel
theorem dX4_peatsAtHearth_24 : decode cX4_peatsAtHearth 24 = .ok (.iconst 0, 1) := by decide +kernel
theorem dX4_peatsAtHearth_25 : decode cX4_peatsAtHearth 25 = .ok (.ireturn, 1) := by decide +kernel
theorem dX4_countLying_0 : decode cX4_countLying 0 = .ok (.iconst 0, 1) := by decide +kernel
theorem dX4_countLying_1 : decode cX4_countLying 1 = .ok (.istore_n 1, 1) := by decide +kernel
theorem dX4_countLying_2 : decode cX4_countLying 2 = .ok (.iconst 0, 1) := by decide +kernel
theorem dX4_countLying_3 : decode cX4_countLying 3 = .ok (.istore_n 2, 1) := by decide +kernel
theorem dX4_countLying_4 : decode cX4_countLying 4 = .ok (.iload_n 2, 1) := by decide +kernel
theorem dX4_countLying_5 : decode cX4_countLying 5 = .ok (.aload_n 0, 1) := by decide +kernel
theorem dX4_countLying_6 : decode cX4_countLying 6 = .ok (.getfield 39, 3) := by decide +kernel
theorem dX4_countLying_9 : decode cX4_countLying 9 = .ok (.if_icmp .ge 21, 3) := by decide +kernel
theorem dX4_countLying_12 : decode cX4_countLying 12 = .ok (.iload_n 1, 1) := by decide +kernel
theorem dX4_countLying_13 : decode cX4_countLying 13 = .ok (.aload_n 0, 1) := by decide +kernel
theorem dX4_countLying_14 : decode cX4_countLying 14 = .ok (.getfield 28, 3) := by decide +kernel
theorem dX4_countLying_17 : decode cX4_countLying 17 = .ok (.iload_n 2, 1) := by decide +kernel
theorem dX4_countLying_18 : decode cX4_countLying 18 = .ok (.baload, 1) := by decide +kernel
theorem dX4_countLying_19 : decode cX4_countLying 19 = .ok (.invokestatic 61, 3) := by decide +kernel
theorem dX4_countLying_22 : decode cX4_countLying 22 = .ok (.iadd, 1) := by decide +kernel
theorem dX4_countLying_23 : decode cX4_countLying 23 = .ok (.istore_n 1, 1) := by decide +kernel
theorem dX4_countLying_24 : decode cX4_countLying 24 = .ok (.iinc 2 1, 3) := by decide +kernel
theorem dX4_countLying_27 : decode cX4_countLying 27 = .ok (.goto (-23), 3) := by decide +kernel
theorem dX4_countLying_30 : decode cX4_countLying 30 = .ok (.iload_n 1, 1) := by decide +kernel
theorem dX4_countLying_31 : decode cX4_countLying 31 = .ok (.ireturn, 1) := by decide +kernel
theorem dX4_countStacked_0 : decode cX4_countStacked 0 = .ok (.iconst 0, 1) := by decide +kernel
theorem dX4_countStacked_1 : decode cX4_countStacked 1 = .ok (.istore_n 1, 1) := by decide +kernel
theorem dX4_countStacked_2 : decode cX4_countStacked 2 = .ok (.iconst 0, 1) := by decide +kernel
theorem dX4_countStacked_3 : decode cX4_countStacked 3 = .ok (.istore_n 2, 1) := by decide +kernel
theorem dX4_countStacked_4 : decode cX4_countStacked 4 = .ok (.iload_n 2, 1) := by decide +kernel
theorem dX4_countStacked_5 : decode cX4_countStacked 5 = .ok (.aload_n 0, 1) := by decide +kernel
theorem dX4_countStacked_6 : decode cX4_countStacked 6 = .ok (.getfield 39, 3) := by decide +kernel
theorem dX4_countStacked_9 : decode cX4_countStacked 9 = .ok (.if_icmp .ge 20, 3) := by decide +kernel
theorem dX4_countStacked_12 : decode cX4_countStacked 12 = .ok (.iload_n 1, 1) := by decide +kernel
theorem dX4_countStacked_13 : decode cX4_countStacked 13 = .ok (.aload_n 0, 1) := by decide +kernel
theorem dX4_countStacked_14 : decode cX4_countStacked 14 = .ok (.iload_n 2, 1) := by decide +kernel
theorem dX4_countStacked_15 : decode cX4_countStacked 15 = .ok (.invokevirtual 65, 3) := by decide +kernel
theorem dX4_countStacked_18 : decode cX4_countStacked 18 = .ok (.invokestatic 61, 3) := by decide +kernel
theorem dX4_countStacked_21 : decode cX4_countStacked 21 = .ok (.iadd, 1) := by decide +kernel
theorem dX4_countStacked_22 : decode cX4_countStacked 22 = .ok (.istore_n 1, 1) := by decide +kernel
theorem dX4_countStacked_23 : decode cX4_countStacked 23 = .ok (.iinc 2 1, 3) := by decide +kernel
theorem dX4_countStacked_26 : decode cX4_countStacked 26 = .ok (.goto (-22), 3) := by decide +kernel
theorem dX4_countStacked_29 : decode cX4_countStacked 29 = .ok (.iload_n 1, 1) := by decide +kernel
theorem dX4_countStacked_30 : decode cX4_countStacked 30 = .ok (.ireturn, 1) := by decide +kernel
theorem dX4_countDry_0 : decode cX4_countDry 0 = .ok (.iconst 0, 1) := by decide +kernel
theorem dX4_countDry_1 : decode cX4_countDry 1 = .ok (.istore_n 1, 1) := by decide +kernel
theorem dX4_countDry_2 : decode cX4_countDry 2 = .ok (.iconst 0, 1) := by decide +kernel
theorem dX4_countDry_3 : decode cX4_countDry 3 = .ok (.istore_n 2, 1) := by decide +kernel
theorem dX4_countDry_4 : decode cX4_countDry 4 = .ok (.iload_n 2, 1) := by decide +kernel
theorem dX4_countDry_5 : decode cX4_countDry 5 = .ok (.aload_n 0, 1) := by decide +kernel
theorem dX4_countDry_6 : decode cX4_countDry 6 = .ok (.getfield 39, 3) := by decide +kernel
theorem dX4_countDry_9 : decode cX4_countDry 9 = .ok (.if_icmp .ge 20, 3) := by decide +kernel
theorem dX4_countDry_12 : decode cX4_countDry 12 = .ok (.iload_n 1, 1) := by decide +kernel
theorem dX4_countDry_13 : decode cX4_countDry 13 = .ok (.aload_n 0, 1) := by decide +kernel
theorem dX4_countDry_14 : decode cX4_countDry 14 = .ok (.iload_n 2, 1) := by decide +kernel
theorem dX4_countDry_15 : decode cX4_countDry 15 = .ok (.invokevirtual 68, 3) := by decide +kernel
theorem dX4_countDry_18 : decode cX4_countDry 18 = .ok (.invokestatic 61, 3) := by decide +kernel
theorem dX4_countDry_21 : decode cX4_countDry 21 = .ok (.iadd, 1) := by decide +kernel
theorem dX4_countDry_22 : decode cX4_countDry 22 = .ok (.istore_n 1, 1) := by decide +kernel
theorem dX4_countDry_23 : decode cX4_countDry 23 = .ok (.iinc 2 1, 3) := by decide +kernel
theorem dX4_countDry_26 : decode cX4_countDry 26 = .ok (.goto (-22), 3) := by decide +kernel
theorem dX4_countDry_29 : decode cX4_countDry 29 = .ok (.iload_n 1, 1) := by decide +kernel
theorem dX4_countDry_30 : decode cX4_countDry 30 = .ok (.ireturn, 1) := by decide +kernel
theorem dX4_countLyingOf_0 : decode cX4_countLyingOf 0 = .ok (.iconst 0, 1) := by decide +kernel
theorem dX4_countLyingOf_1 : decode cX4_countLyingOf 1 = .ok (.istore_n 2, 1) := by decide +kernel
theorem dX4_countLyingOf_2 : decode cX4_countLyingOf 2 = .ok (.iconst 0, 1) := by decide +kernel
theorem dX4_countLyingOf_3 : decode cX4_countLyingOf 3 = .ok (.istore_n 3, 1) := by decide +kernel
theorem dX4_countLyingOf_4 : decode cX4_countLyingOf 4 = .ok (.iload_n 3, 1) := by decide +kernel
theorem dX4_countLyingOf_5 : decode cX4_countLyingOf 5 = .ok (.aload_n 0, 1) := by decide +kernel
theorem dX4_countLyingOf_6 : decode cX4_countLyingOf 6 = .ok (.getfield 39, 3) := by decide +kernel
theorem dX4_countLyingOf_9 : decode cX4_countLyingOf 9 = .ok (.if_icmp .ge 21, 3) := by decide +kernel
theorem dX4_countLyingOf_12 : decode cX4_countLyingOf 12 = .ok (.iload_n 2, 1) := by decide +kernel
theorem dX4_countLyingOf_13 : decode cX4_countLyingOf 13 = .ok (.aload_n 0, 1) := by decide +kernel
theorem dX4_countLyingOf_14 : decode cX4_countLyingOf 14 = .ok (.iload_n 3, 1) := by decide +kernel
theorem dX4_countLyingOf_15 : decode cX4_countLyingOf 15 = .ok (.iload_n 1, 1) := by decide +kernel
theorem dX4_countLyingOf_16 : decode cX4_countLyingOf 16 = .ok (.invokevirtual 71, 3) := by decide +kernel
theorem dX4_countLyingOf_19 : decode cX4_countLyingOf 19 = .ok (.invokestatic 61, 3) := by decide +kernel
theorem dX4_countLyingOf_22 : decode cX4_countLyingOf 22 = .ok (.iadd, 1) := by decide +kernel
theorem dX4_countLyingOf_23 : decode cX4_countLyingOf 23 = .ok (.istore_n 2, 1) := by decide +kernel
theorem dX4_countLyingOf_24 : decode cX4_countLyingOf 24 = .ok (.iinc 3 1, 3) := by decide +kernel
theorem dX4_countLyingOf_27 : decode cX4_countLyingOf 27 = .ok (.goto (-23), 3) := by decide +kernel
theorem dX4_countLyingOf_30 : decode cX4_countLyingOf 30 = .ok (.iload_n 2, 1) := by decide +kernel
theorem dX4_countLyingOf_31 : decode cX4_countLyingOf 31 = .ok (.ireturn, 1) := by decide +kernel
theorem dX4_countStackedOf_0 : decode cX4_countStackedOf 0 = .ok (.iconst 0, 1) := by decide +kernel
theorem dX4_countStackedOf_1 : decode cX4_countStackedOf 1 = .ok (.istore_n 2, 1) := by decide +kernel
theorem dX4_countStackedOf_2 : decode cX4_countStackedOf 2 = .ok (.iconst 0, 1) := by decide +kernel
theorem dX4_countStackedOf_3 : decode cX4_countStackedOf 3 = .ok (.istore_n 3, 1) := by decide +kernel
theorem dX4_countStackedOf_4 : decode cX4_countStackedOf 4 = .ok (.iload_n 3, 1) := by decide +kernel
theorem dX4_countStackedOf_5 : decode cX4_countStackedOf 5 = .ok (.aload_n 0, 1) := by decide +kernel
theorem dX4_countStackedOf_6 : decode cX4_countStackedOf 6 = .ok (.getfield 39, 3) := by decide +kernel
theorem dX4_countStackedOf_9 : decode cX4_countStackedOf 9 = .ok (.if_icmp .ge 38, 3) := by decide +kernel
theorem dX4_countStackedOf_12 : decode cX4_countStackedOf 12 = .ok (.iload_n 2, 1) := by decide +kernel
theorem dX4_countStackedOf_13 : decode cX4_countStackedOf 13 = .ok (.aload_n 0, 1) := by decide +kernel
theorem dX4_countStackedOf_14 : decode cX4_countStackedOf 14 = .ok (.iload_n 3, 1) := by decide +kernel
theorem dX4_countStackedOf_15 : decode cX4_countStackedOf 15 = .ok (.invokevirtual 65, 3) := by decide +kernel
theorem dX4_countStackedOf_18 : decode cX4_countStackedOf 18 = .ok (.ifCond .eq 17, 3) := by decide +kernel
theorem dX4_countStackedOf_21 : decode cX4_countStackedOf 21 = .ok (.aload_n 0, 1) := by decide +kernel
theorem dX4_countStackedOf_22 : decode cX4_countStackedOf 22 = .ok (.getfield 9, 3) := by decide +kernel
theorem dX4_countStackedOf_25 : decode cX4_countStackedOf 25 = .ok (.iload_n 3, 1) := by decide +kernel
theorem dX4_countStackedOf_26 : decode cX4_countStackedOf 26 = .ok (.iaload, 1) := by decide +kernel
theorem dX4_countStackedOf_27 : decode cX4_countStackedOf 27 = .ok (.iload_n 1, 1) := by decide +kernel
theorem dX4_countStackedOf_28 : decode cX4_countStackedOf 28 = .ok (.if_icmp .ne 7, 3) := by decide +kernel
theorem dX4_countStackedOf_31 : decode cX4_countStackedOf 31 = .ok (.iconst 1, 1) := by decide +kernel
theorem dX4_countStackedOf_32 : decode cX4_countStackedOf 32 = .ok (.goto 4, 3) := by decide +kernel
theorem dX4_countStackedOf_35 : decode cX4_countStackedOf 35 = .ok (.iconst 0, 1) := by decide +kernel
theorem dX4_countStackedOf_36 : decode cX4_countStackedOf 36 = .ok (.invokestatic 61, 3) := by decide +kernel
theorem dX4_countStackedOf_39 : decode cX4_countStackedOf 39 = .ok (.iadd, 1) := by decide +kernel
theorem dX4_countStackedOf_40 : decode cX4_countStackedOf 40 = .ok (.istore_n 2, 1) := by decide +kernel
theorem dX4_countStackedOf_41 : decode cX4_countStackedOf 41 = .ok (.iinc 3 1, 3) := by decide +kernel
theorem dX4_countStackedOf_44 : decode cX4_countStackedOf 44 = .ok (.goto (-40), 3) := by decide +kernel
theorem dX4_countStackedOf_47 : decode cX4_countStackedOf 47 = .ok (.iload_n 2, 1) := by decide +kernel
theorem dX4_countStackedOf_48 : decode cX4_countStackedOf 48 = .ok (.ireturn, 1) := by decide +kernel
theorem dX4_driestOf_0 : decode cX4_driestOf 0 = .ok (.iconst 0, 1) := by decide +kernel
theorem dX4_driestOf_1 : decode cX4_driestOf 1 = .ok (.istore_n 3, 1) := by decide +kernel
theorem dX4_driestOf_2 : decode cX4_driestOf 2 = .ok (.iload_n 3, 1) := by decide +kernel
theorem dX4_driestOf_3 : decode cX4_driestOf 3 = .ok (.aload_n 0, 1) := by decide +kernel
theorem dX4_driestOf_4 : decode cX4_driestOf 4 = .ok (.getfield 39, 3) := by decide +kernel
theorem dX4_driestOf_7 : decode cX4_driestOf 7 = .ok (.if_icmp .ge 30, 3) := by decide +kernel
theorem dX4_driestOf_10 : decode cX4_driestOf 10 = .ok (.aload_n 0, 1) := by decide +kernel
theorem dX4_driestOf_11 : decode cX4_driestOf 11 = .ok (.iload_n 3, 1) := by decide +kernel
theorem dX4_driestOf_12 : decode cX4_driestOf 12 = .ok (.iload_n 1, 1) := by decide +kernel
theorem dX4_driestOf_13 : decode cX4_driestOf 13 = .ok (.invokevirtual 71, 3) := by decide +kernel
theorem dX4_driestOf_16 : decode cX4_driestOf 16 = .ok (.ifCond .eq 15, 3) := by decide +kernel
theorem dX4_driestOf_19 : decode cX4_driestOf 19 = .ok (.aload_n 0, 1) := by decide +kernel
theorem dX4_driestOf_20 : decode cX4_driestOf 20 = .ok (.iload_n 3, 1) := by decide +kernel
theorem dX4_driestOf_21 : decode cX4_driestOf 21 = .ok (.iload_n 1, 1) := by decide +kernel
theorem dX4_driestOf_22 : decode cX4_driestOf 22 = .ok (.invokevirtual 75, 3) := by decide +kernel
theorem dX4_driestOf_25 : decode cX4_driestOf 25 = .ok (.iload_n 2, 1) := by decide +kernel
theorem dX4_driestOf_26 : decode cX4_driestOf 26 = .ok (.if_icmp .ne 5, 3) := by decide +kernel
theorem dX4_driestOf_29 : decode cX4_driestOf 29 = .ok (.iload_n 3, 1) := by decide +kernel
theorem dX4_driestOf_30 : decode cX4_driestOf 30 = .ok (.ireturn, 1) := by decide +kernel
theorem dX4_driestOf_31 : decode cX4_driestOf 31 = .ok (.iinc 3 1, 3) := by decide +kernel
theorem dX4_driestOf_34 : decode cX4_driestOf 34 = .ok (.goto (-32), 3) := by decide +kernel
theorem dX4_driestOf_37 : decode cX4_driestOf 37 = .ok (.bipush (-5), 2) := by decide +kernel
theorem dX4_driestOf_39 : decode cX4_driestOf 39 = .ok (.ireturn, 1) := by decide +kernel
theorem dX4_countDrierThan_0 : decode cX4_countDrierThan 0 = .ok (.iconst 0, 1) := by decide +kernel
theorem dX4_countDrierThan_1 : decode cX4_countDrierThan 1 = .ok (.istore_n 3, 1) := by decide +kernel
theorem dX4_countDrierThan_2 : decode cX4_countDrierThan 2 = .ok (.iconst 0, 1) := by decide +kernel
theorem dX4_countDrierThan_3 : decode cX4_countDrierThan 3 = .ok (.istore 4, 2) := by decide +kernel
theorem dX4_countDrierThan_5 : decode cX4_countDrierThan 5 = .ok (.iload 4, 2) := by decide +kernel
theorem dX4_countDrierThan_7 : decode cX4_countDrierThan 7 = .ok (.aload_n 0, 1) := by decide +kernel
theorem dX4_countDrierThan_8 : decode cX4_countDrierThan 8 = .ok (.getfield 39, 3) := by decide +kernel
theorem dX4_countDrierThan_11 : decode cX4_countDrierThan 11 = .ok (.if_icmp .ge 40, 3) := by decide +kernel
theorem dX4_countDrierThan_14 : decode cX4_countDrierThan 14 = .ok (.iload_n 3, 1) := by decide +kernel
theorem dX4_countDrierThan_15 : decode cX4_countDrierThan 15 = .ok (.aload_n 0, 1) := by decide +kernel
theorem dX4_countDrierThan_16 : decode cX4_countDrierThan 16 = .ok (.iload 4, 2) := by decide +kernel
theorem dX4_countDrierThan_18 : decode cX4_countDrierThan 18 = .ok (.iload_n 2, 1) := by decide +kernel
theorem dX4_countDrierThan_19 : decode cX4_countDrierThan 19 = .ok (.invokevirtual 71, 3) := by decide +kernel
theorem dX4_countDrierThan_22 : decode cX4_countDrierThan 22 = .ok (.ifCond .eq 17, 3) := by decide +kernel
theorem dX4_countDrierThan_25 : decode cX4_countDrierThan 25 = .ok (.aload_n 0, 1) := by decide +kernel
theorem dX4_countDrierThan_26 : decode cX4_countDrierThan 26 = .ok (.iload 4, 2) := by decide +kernel
theorem dX4_countDrierThan_28 : decode cX4_countDrierThan 28 = .ok (.iload_n 1, 1) := by decide +kernel
theorem dX4_countDrierThan_29 : decode cX4_countDrierThan 29 = .ok (.invokevirtual 78, 3) := by decide +kernel
theorem dX4_countDrierThan_32 : decode cX4_countDrierThan 32 = .ok (.ifCond .eq 7, 3) := by decide +kernel
theorem dX4_countDrierThan_35 : decode cX4_countDrierThan 35 = .ok (.iconst 1, 1) := by decide +kernel
theorem dX4_countDrierThan_36 : decode cX4_countDrierThan 36 = .ok (.goto 4, 3) := by decide +kernel
theorem dX4_countDrierThan_39 : decode cX4_countDrierThan 39 = .ok (.iconst 0, 1) := by decide +kernel
theorem dX4_countDrierThan_40 : decode cX4_countDrierThan 40 = .ok (.invokestatic 61, 3) := by decide +kernel
theorem dX4_countDrierThan_43 : decode cX4_countDrierThan 43 = .ok (.iadd, 1) := by decide +kernel
theorem dX4_countDrierThan_44 : decode cX4_countDrierThan 44 = .ok (.istore_n 3, 1) := by decide +kernel
theorem dX4_countDrierThan_45 : decode cX4_countDrierThan 45 = .ok (.iinc 4 1, 3) := by decide +kernel
theorem dX4_countDrierThan_48 : decode cX4_countDrierThan 48 = .ok (.goto (-43), 3) := by decide +kernel
theorem dX4_countDrierThan_51 : decode cX4_countDrierThan 51 = .ok (.iload_n 3, 1) := by decide +kernel
theorem dX4_countDrierThan_52 : decode cX4_countDrierThan 52 = .ok (.ireturn, 1) := by decide +kernel
theorem dX4_comesBefore_0 : decode cX4_comesBefore 0 = .ok (.aload_n 0, 1) := by decide +kernel
theorem dX4_comesBefore_1 : decode cX4_comesBefore 1 = .ok (.getfield 18, 3) := by decide +kernel
theorem dX4_comesBefore_4 : decode cX4_comesBefore 4 = .ok (.iload_n 1, 1) := by decide +kernel
theorem dX4_comesBefore_5 : decode cX4_comesBefore 5 = .ok (.iaload, 1) := by decide +kernel
theorem dX4_comesBefore_6 : decode cX4_comesBefore 6 = .ok (.aload_n 0, 1) := by decide +kernel
theorem dX4_comesBefore_7 : decode cX4_comesBefore 7 = .ok (.getfield 18, 3) := by decide +kernel
theorem dX4_comesBefore_10 : decode cX4_comesBefore 10 = .ok (.iload_n 2, 1) := by decide +kernel
theorem dX4_comesBefore_11 : decode cX4_comesBefore 11 = .ok (.iaload, 1) := by decide +kernel
theorem dX4_comesBefore_12 : decode cX4_comesBefore 12 = .ok (.if_icmp .lt 23, 3) := by decide +kernel
theorem dX4_comesBefore_15 : decode cX4_comesBefore 15 = .ok (.aload_n 0, 1) := by decide +kernel
theorem dX4_comesBefore_16 : decode cX4_comesBefore 16 = .ok (.getfield 18, 3) := by decide +kernel
theorem dX4_comesBefore_19 : decode cX4_comesBefore 19 = .ok (.iload_n 1, 1) := by decide +kernel
theorem dX4_comesBefore_20 : decode cX4_comesBefore 20 = .ok (.iaload, 1) := by decide +kernel
theorem dX4_comesBefore_21 : decode cX4_comesBefore 21 = .ok (.aload_n 0, 1) := by decide +kernel
theorem dX4_comesBefore_22 : decode cX4_comesBefore 22 = .ok (.getfield 18, 3) := by decide +kernel
theorem dX4_comesBefore_25 : decode cX4_comesBefore 25 = .ok (.iload_n 2, 1) := by decide +kernel
theorem dX4_comesBefore_26 : decode cX4_comesBefore 26 = .ok (.iaload, 1) := by decide +kernel
theorem dX4_comesBefore_27 : decode cX4_comesBefore 27 = .ok (.if_icmp .ne 12, 3) := by decide +kernel
theorem dX4_comesBefore_30 : decode cX4_comesBefore 30 = .ok (.iload_n 1, 1) := by decide +kernel
theorem dX4_comesBefore_31 : decode cX4_comesBefore 31 = .ok (.iload_n 2, 1) := by decide +kernel
theorem dX4_comesBefore_32 : decode cX4_comesBefore 32 = .ok (.if_icmp .ge 7, 3) := by decide +kernel
theorem dX4_comesBefore_35 : decode cX4_comesBefore 35 = .ok (.iconst 1, 1) := by decide +kernel
theorem dX4_comesBefore_36 : decode cX4_comesBefore 36 = .ok (.goto 4, 3) := by decide +kernel
theorem dX4_comesBefore_39 : decode cX4_comesBefore 39 = .ok (.iconst 0, 1) := by decide +kernel
theorem dX4_comesBefore_40 : decode cX4_comesBefore 40 = .ok (.ireturn, 1) := by decide +kernel
theorem dX4_driestStackedOf_0 : decode cX4_driestStackedOf 0 = .ok (.bipush (-5), 2) := by decide +kernel
theorem dX4_driestStackedOf_2 : decode cX4_driestStackedOf 2 = .ok (.istore_n 2, 1) := by decide +kernel
theorem dX4_driestStackedOf_3 : decode cX4_driestStackedOf 3 = .ok (.iconst 0, 1) := by decide +kernel
theorem dX4_driestStackedOf_4 : decode cX4_driestStackedOf 4 = .ok (.istore_n 3, 1) := by decide +kernel
theorem dX4_driestStackedOf_5 : decode cX4_driestStackedOf 5 = .ok (.iload_n 3, 1) := by decide +kernel
theorem dX4_driestStackedOf_6 : decode cX4_driestStackedOf 6 = .ok (.aload_n 0, 1) := by decide +kernel
theorem dX4_driestStackedOf_7 : decode cX4_driestStackedOf 7 = .ok (.getfield 39, 3) := by decide +kernel
theorem dX4_driestStackedOf_10 : decode cX4_driestStackedOf 10 = .ok (.if_icmp .ge 60, 3) := by decide +kernel
theorem dX4_driestStackedOf_13 : decode cX4_driestStackedOf 13 = .ok (.aload_n 0, 1) := by decide +kernel
theorem dX4_driestStackedOf_14 : decode cX4_driestStackedOf 14 = .ok (.getfield 28, 3) := by decide +kernel
theorem dX4_driestStackedOf_17 : decode cX4_driestStackedOf 17 = .ok (.iload_n 3, 1) := by decide +kernel
theorem dX4_driestStackedOf_18 : decode cX4_driestStackedOf 18 = .ok (.baload, 1) := by decide +kernel
theorem dX4_driestStackedOf_19 : decode cX4_driestStackedOf 19 = .ok (.ifCond .eq 45, 3) := by decide +kernel
theorem dX4_driestStackedOf_22 : decode cX4_driestStackedOf 22 = .ok (.aload_n 0, 1) := by decide +kernel
theorem dX4_driestStackedOf_23 : decode cX4_driestStackedOf 23 = .ok (.getfield 25, 3) := by decide +kernel
theorem dX4_driestStackedOf_26 : decode cX4_driestStackedOf 26 = .ok (.iload_n 3, 1) := by decide +kernel
theorem dX4_driestStackedOf_27 : decode cX4_driestStackedOf 27 = .ok (.baload, 1) := by decide +kernel
theorem dX4_driestStackedOf_28 : decode cX4_driestStackedOf 28 = .ok (.ifCond .eq 36, 3) := by decide +kernel
theorem dX4_driestStackedOf_31 : decode cX4_driestStackedOf 31 = .ok (.aload_n 0, 1) := by decide +kernel
theorem dX4_driestStackedOf_32 : decode cX4_driestStackedOf 32 = .ok (.getfield 9, 3) := by decide +kernel
theorem dX4_driestStackedOf_35 : decode cX4_driestStackedOf 35 = .ok (.iload_n 3, 1) := by decide +kernel
theorem dX4_driestStackedOf_36 : decode cX4_driestStackedOf 36 = .ok (.iaload, 1) := by decide +kernel
theorem dX4_driestStackedOf_37 : decode cX4_driestStackedOf 37 = .ok (.iload_n 1, 1) := by decide +kernel
theorem dX4_driestStackedOf_38 : decode cX4_driestStackedOf 38 = .ok (.if_icmp .ne 26, 3) := by decide +kernel
theorem dX4_driestStackedOf_41 : decode cX4_driestStackedOf 41 = .ok (.iload_n 2, 1) := by decide +kernel
theorem dX4_driestStackedOf_42 : decode cX4_driestStackedOf 42 = .ok (.bipush (-5), 2) := by decide +kernel
theorem dX4_driestStackedOf_44 : decode cX4_driestStackedOf 44 = .ok (.if_icmp .eq 18, 3) := by decide +kernel
theorem dX4_driestStackedOf_47 : decode cX4_driestStackedOf 47 = .ok (.aload_n 0, 1) := by decide +kernel
theorem dX4_driestStackedOf_48 : decode cX4_driestStackedOf 48 = .ok (.getfield 18, 3) := by decide +kernel
theorem dX4_driestStackedOf_51 : decode cX4_driestStackedOf 51 = .ok (.iload_n 3, 1) := by decide +kernel
theorem dX4_driestStackedOf_52 : decode cX4_driestStackedOf 52 = .ok (.iaload, 1) := by decide +kernel
theorem dX4_driestStackedOf_53 : decode cX4_driestStackedOf 53 = .ok (.aload_n 0, 1) := by decide +kernel
theorem dX4_driestStackedOf_54 : decode cX4_driestStackedOf 54 = .ok (.getfield 18, 3) := by decide +kernel
theorem dX4_driestStackedOf_57 : decode cX4_driestStackedOf 57 = .ok (.iload_n 2, 1) := by decide +kernel
theorem dX4_driestStackedOf_58 : decode cX4_driestStackedOf 58 = .ok (.iaload, 1) := by decide +kernel
theorem dX4_driestStackedOf_59 : decode cX4_driestStackedOf 59 = .ok (.if_icmp .ge 5, 3) := by decide +kernel
theorem dX4_driestStackedOf_62 : decode cX4_driestStackedOf 62 = .ok (.iload_n 3, 1) := by decide +kernel
theorem dX4_driestStackedOf_63 : decode cX4_driestStackedOf 63 = .ok (.istore_n 2, 1) := by decide +kernel
theorem dX4_driestStackedOf_64 : decode cX4_driestStackedOf 64 = .ok (.iinc 3 1, 3) := by decide +kernel
theorem dX4_driestStackedOf_67 : decode cX4_driestStackedOf 67 = .ok (.goto (-62), 3) := by decide +kernel
theorem dX4_driestStackedOf_70 : decode cX4_driestStackedOf 70 = .ok (.iload_n 2, 1) := by decide +kernel
theorem dX4_driestStackedOf_71 : decode cX4_driestStackedOf 71 = .ok (.ireturn, 1) := by decide +kernel
theorem dX4_dryOrWet_0 : decode cX4_dryOrWet 0 = .ok (.iconst 0, 1) := by decide +kernel
theorem dX4_dryOrWet_1 : decode cX4_dryOrWet 1 = .ok (.istore_n 2, 1) := by decide +kernel
theorem dX4_dryOrWet_2 : decode cX4_dryOrWet 2 = .ok (.iload_n 2, 1) := by decide +kernel
theorem dX4_dryOrWet_3 : decode cX4_dryOrWet 3 = .ok (.aload_n 0, 1) := by decide +kernel
theorem dX4_dryOrWet_4 : decode cX4_dryOrWet 4 = .ok (.getfield 39, 3) := by decide +kernel
theorem dX4_dryOrWet_7 : decode cX4_dryOrWet 7 = .ok (.if_icmp .ge 61, 3) := by decide +kernel
theorem dX4_dryOrWet_10 : decode cX4_dryOrWet 10 = .ok (.aload_n 0, 1) := by decide +kernel
theorem dX4_dryOrWet_11 : decode cX4_dryOrWet 11 = .ok (.getfield 28, 3) := by decide +kernel
theorem dX4_dryOrWet_14 : decode cX4_dryOrWet 14 = .ok (.iload_n 2, 1) := by decide +kernel
theorem dX4_dryOrWet_15 : decode cX4_dryOrWet 15 = .ok (.baload, 1) := by decide +kernel
theorem dX4_dryOrWet_16 : decode cX4_dryOrWet 16 = .ok (.ifCond .eq 46, 3) := by decide +kernel
theorem dX4_dryOrWet_19 : decode cX4_dryOrWet 19 = .ok (.aload_n 0, 1) := by decide +kernel
theorem dX4_dryOrWet_20 : decode cX4_dryOrWet 20 = .ok (.getfield 25, 3) := by decide +kernel
theorem dX4_dryOrWet_23 : decode cX4_dryOrWet 23 = .ok (.iload_n 2, 1) := by decide +kernel
theorem dX4_dryOrWet_24 : decode cX4_dryOrWet 24 = .ok (.baload, 1) := by decide +kernel
theorem dX4_dryOrWet_25 : decode cX4_dryOrWet 25 = .ok (.ifCond .ne 37, 3) := by decide +kernel
theorem dX4_dryOrWet_28 : decode cX4_dryOrWet 28 = .ok (.aload_n 0, 1) := by decide +kernel
theorem dX4_dryOrWet_29 : decode cX4_dryOrWet 29 = .ok (.getfield 18, 3) := by decide +kernel
theorem dX4_dryOrWet_32 : decode cX4_dryOrWet 32 = .ok (.iload_n 2, 1) := by decide +kernel
theorem dX4_dryOrWet_33 : decode cX4_dryOrWet 33 = .ok (.iaload, 1) := by decide +kernel
theorem dX4_dryOrWet_34 : decode cX4_dryOrWet 34 = .ok (.iload_n 1, 1) := by decide +kernel
theorem dX4_dryOrWet_35 : decode cX4_dryOrWet 35 = .ok (.aload_n 0, 1) := by decide +kernel
theorem dX4_dryOrWet_36 : decode cX4_dryOrWet 36 = .ok (.getfield 21, 3) := by decide +kernel
theorem dX4_dryOrWet_39 : decode cX4_dryOrWet 39 = .ok (.iload_n 2, 1) := by decide +kernel
theorem dX4_dryOrWet_40 : decode cX4_dryOrWet 40 = .ok (.baload, 1) := by decide +kernel
theorem dX4_dryOrWet_41 : decode cX4_dryOrWet 41 = .ok (.invokestatic 81, 3) := by decide +kernel
theorem dX4_dryOrWet_44 : decode cX4_dryOrWet 44 = .ok (.iadd, 1) := by decide +kernel
theorem dX4_dryOrWet_45 : decode cX4_dryOrWet 45 = .ok (.istore_n 3, 1) := by decide +kernel
theorem dX4_dryOrWet_46 : decode cX4_dryOrWet 46 = .ok (.aload_n 0, 1) := by decide +kernel
theorem dX4_dryOrWet_47 : decode cX4_dryOrWet 47 = .ok (.getfield 18, 3) := by decide +kernel
theorem dX4_dryOrWet_50 : decode cX4_dryOrWet 50 = .ok (.iload_n 2, 1) := by decide +kernel
theorem dX4_dryOrWet_51 : decode cX4_dryOrWet 51 = .ok (.iconst 0, 1) := by decide +kernel
theorem dX4_dryOrWet_52 : decode cX4_dryOrWet 52 = .ok (.bipush 60, 2) := by decide +kernel
theorem dX4_dryOrWet_54 : decode cX4_dryOrWet 54 = .ok (.iload_n 3, 1) := by decide +kernel
theorem dX4_dryOrWet_55 : decode cX4_dryOrWet 55 = .ok (.invokestatic 85, 3) := by decide +kernel
theorem dX4_dryOrWet_58 : decode cX4_dryOrWet 58 = .ok (.invokestatic 55, 3) := by decide +kernel
theorem dX4_dryOrWet_61 : decode cX4_dryOrWet 61 = .ok (.iastore, 1) := by decide +kernel
theorem dX4_dryOrWet_62 : decode cX4_dryOrWet 62 = .ok (.iinc 2 1, 3) := by decide +kernel
theorem dX4_dryOrWet_65 : decode cX4_dryOrWet 65 = .ok (.goto (-63), 3) := by decide +kernel
theorem dX4_dryOrWet_68 : decode cX4_dryOrWet 68 = .ok (.return_, 1) := by decide +kernel
theorem dX4_changeBy_0 : decode cX4_changeBy 0 = .ok (.iload_n 0, 1) := by decide +kernel
theorem dX4_changeBy_1 : decode cX4_changeBy 1 = .ok (.lookupswitch 51 #[(0, 27), (1, 39)], 27) := by decide +kernel
theorem dX4_changeBy_28 : decode cX4_changeBy 28 = .ok (.iload_n 1, 1) := by decide +kernel
theorem dX4_changeBy_29 : decode cX4_changeBy 29 = .ok (.ifCond .eq 8, 3) := by decide +kernel
theorem dX4_changeBy_32 : decode cX4_changeBy 32 = .ok (.bipush (-8), 2) := by decide +kernel
theorem dX4_changeBy_34 : decode cX4_changeBy 34 = .ok (.goto 5, 3) := by decide +kernel
theorem dX4_changeBy_37 : decode cX4_changeBy 37 = .ok (.bipush (-6), 2) := by decide +kernel
theorem dX4_changeBy_39 : decode cX4_changeBy 39 = .ok (.ireturn, 1) := by decide +kernel
theorem dX4_changeBy_40 : decode cX4_changeBy 40 = .ok (.iload_n 1, 1) := by decide +kernel
theorem dX4_changeBy_41 : decode cX4_changeBy 41 = .ok (.ifCond .eq 8, 3) := by decide +kernel
theorem dX4_changeBy_44 : decode cX4_changeBy 44 = .ok (.bipush (-5), 2) := by decide +kernel
theorem dX4_changeBy_46 : decode cX4_changeBy 46 = .ok (.goto 5, 3) := by decide +kernel
theorem dX4_changeBy_49 : decode cX4_changeBy 49 = .ok (.bipush (-3), 2) := by decide +kernel
theorem dX4_changeBy_51 : decode cX4_changeBy 51 = .ok (.ireturn, 1) := by decide +kernel
theorem dX4_changeBy_52 : decode cX4_changeBy 52 = .ok (.iconst 4, 1) := by decide +kernel
theorem dX4_changeBy_53 : decode cX4_changeBy 53 = .ok (.ireturn, 1) := by decide +kernel
theorem dX4_loseAll_0 : decode cX4_loseAll 0 = .ok (.aload_n 0, 1) := by decide +kernel
theorem dX4_loseAll_1 : decode cX4_loseAll 1 = .ok (.invokevirtual 88, 3) := by decide +kernel
theorem dX4_loseAll_4 : decode cX4_loseAll 4 = .ok (.istore_n 1, 1) := by decide +kernel
theorem dX4_loseAll_5 : decode cX4_loseAll 5 = .ok (.iconst 0, 1) := by decide +kernel
theorem dX4_loseAll_6 : decode cX4_loseAll 6 = .ok (.istore_n 2, 1) := by decide +kernel
theorem dX4_loseAll_7 : decode cX4_loseAll 7 = .ok (.iload_n 2, 1) := by decide +kernel
theorem dX4_loseAll_8 : decode cX4_loseAll 8 = .ok (.aload_n 0, 1) := by decide +kernel
theorem dX4_loseAll_9 : decode cX4_loseAll 9 = .ok (.getfield 39, 3) := by decide +kernel
theorem dX4_loseAll_12 : decode cX4_loseAll 12 = .ok (.if_icmp .ge 16, 3) := by decide +kernel
theorem dX4_loseAll_15 : decode cX4_loseAll 15 = .ok (.aload_n 0, 1) := by decide +kernel
theorem dX4_loseAll_16 : decode cX4_loseAll 16 = .ok (.getfield 28, 3) := by decide +kernel
theorem dX4_loseAll_19 : decode cX4_loseAll 19 = .ok (.iload_n 2, 1) := by decide +kernel
theorem dX4_loseAll_20 : decode cX4_loseAll 20 = .ok (.iconst 0, 1) := by decide +kernel
theorem dX4_loseAll_21 : decode cX4_loseAll 21 = .ok (.bastore, 1) := by decide +kernel
theorem dX4_loseAll_22 : decode cX4_loseAll 22 = .ok (.iinc 2 1, 3) := by decide +kernel
theorem dX4_loseAll_25 : decode cX4_loseAll 25 = .ok (.goto (-18), 3) := by decide +kernel
theorem dX4_loseAll_28 : decode cX4_loseAll 28 = .ok (.iload_n 1, 1) := by decide +kernel
theorem dX4_loseAll_29 : decode cX4_loseAll 29 = .ok (.ireturn, 1) := by decide +kernel
end
section
theorem dX5_init_0 : decode cX5_init 0 = .ok (.aload_n 0, 1) := by decide +kernel
theorem dX5_init_1 : decode cX5_init 1 = .ok (.invokespecial 3, 3) := by decide +kernel
theorem dX5_init_4 : decode cX5_init 4 = .ok (.aload_n 0, 1) := by decide +kernel
theorem dX5_init_5 : decode cX5_init 5 = .ok (.new 9, 3) := by decide +kernel
theorem dX5_init_8 : decode cX5_init 8 = .ok (.dup, 1) := by decide +kernel
theorem dX5_init_9 : decode cX5_init 9 = .ok (.invokespecial 11, 3) := by decide +kernel
theorem dX5_init_12 : decode cX5_init 12 = .ok (.putfield 12, 3) := by decide +kernel
theorem dX5_init_15 : decode cX5_init 15 = .ok (.aload_n 0, 1) := by decide +kernel
theorem dX5_init_16 : decode cX5_init 16 = .ok (.new 9, 3) := by decide +kernel
theorem dX5_init_19 : decode cX5_init 19 = .ok (.dup, 1) := by decide +kernel
theorem dX5_init_20 : decode cX5_init 20 = .ok (.invokespecial 11, 3) := by decide +kernel
theorem dX5_init_23 : decode cX5_init 23 = .ok (.putfield 16, 3) := by decide +kernel
theorem dX5_init_26 : decode cX5_init 26 = .ok (.aload_n 0, 1) := by decide +kernel
theorem dX5_init_27 : decode cX5_init 27 = .ok (.new 9, 3) := by decide +kernel
theorem dX5_init_30 : decode cX5_init 30 = .ok (.dup, 1) := by decide +kernel
theorem dX5_init_31 : decode cX5_init 31 = .ok (.invokespecial 11, 3) := by decide +kernel
theorem dX5_init_34 : decode cX5_init 34 = .ok (.putfield 19, 3) := by decide +kernel
theorem dX5_init_37 : decode cX5_init 37 = .ok (.aload_n 0, 1) := by decide +kernel
theorem dX5_init_38 : decode cX5_init 38 = .ok (.new 22, 3) := by decide +kernel
theorem dX5_init_41 : decode cX5_init 41 = .ok (.dup, 1) := by decide +kernel
theorem dX5_init_42 : decode cX5_init 42 = .ok (.invokespecial 24, 3) := by decide +kernel
theorem dX5_init_45 : decode cX5_init 45 = .ok (.putfield 25, 3) := by decide +kernel
theorem dX5_init_48 : decode cX5_init 48 = .ok (.aload_n 0, 1) := by decide +kernel
theorem dX5_init_49 : decode cX5_init 49 = .ok (.new 29, 3) := by decide +kernel
theorem dX5_init_52 : decode cX5_init 52 = .ok (.dup, 1) := by decide +kernel
theorem dX5_init_53 : decode cX5_init 53 = .ok (.invokespecial 31, 3) := by decide +kernel
theorem dX5_init_56 : decode cX5_init 56 = .ok (.putfield 32, 3) := by decide +kernel
theorem dX5_init_59 : decode cX5_init 59 = .ok (.aload_n 0, 1) := by decide +kernel
theorem dX5_init_60 : decode cX5_init 60 = .ok (.iconst 0, 1) := by decide +kernel
theorem dX5_init_61 : decode cX5_init 61 = .ok (.putfield 36, 3) := by decide +kernel
theorem dX5_init_64 : decode cX5_init 64 = .ok (.return_, 1) := by decide +kernel
theorem dX5_lend_0 : decode cX5_lend 0 = .ok (.iload_n 1, 1) := by decide +kernel
theorem dX5_lend_1 : decode cX5_lend 1 = .ok (.invokestatic 40, 3) := by decide +kernel
theorem dX5_lend_4 : decode cX5_lend 4 = .ok (.ifCond .eq 10, 3) := by decide +kernel
theorem dX5_lend_7 : decode cX5_lend 7 = .ok (.iload_n 2, 1) := by decide +kernel
theorem dX5_lend_8 : decode cX5_lend 8 = .ok (.invokestatic 44, 3) := by decide +kernel
theorem dX5_lend_11 : decode cX5_lend 11 = .ok (.ifCond .ne 5, 3) := by decide +kernel
theorem dX5_lend_14 : decode cX5_lend 14 = .ok (.iconst (-1), 1) := by decide +kernel
theorem dX5_lend_15 : decode cX5_lend 15 = .ok (.ireturn, 1) := by decide +kernel
theorem dX5_lend_16 : decode cX5_lend 16 = .ok (.aload_n 0, 1) := by decide +kernel
theorem dX5_lend_17 : decode cX5_lend 17 = .ok (.getfield 12, 3) := by decide +kernel
theorem dX5_lend_20 : decode cX5_lend 20 = .ok (.getfield 47, 3) := by decide +kernel
theorem dX5_lend_23 : decode cX5_lend 23 = .ok (.iload_n 1, 1) := by decide +kernel
theorem dX5_lend_24 : decode cX5_lend 24 = .ok (.iaload, 1) := by decide +kernel
theorem dX5_lend_25 : decode cX5_lend 25 = .ok (.istore_n 3, 1) := by decide +kernel
theorem dX5_lend_26 : decode cX5_lend 26 = .ok (.iload_n 3, 1) := by decide +kernel
theorem dX5_lend_27 : decode cX5_lend 27 = .ok (.iload_n 2, 1) := by decide +kernel
theorem dX5_lend_28 : decode cX5_lend 28 = .ok (.if_icmp .ne 6, 3) := by decide +kernel
theorem dX5_lend_31 : decode cX5_lend 31 = .ok (.bipush (-5), 2) := by decide +kernel
theorem dX5_lend_33 : decode cX5_lend 33 = .ok (.ireturn, 1) := by decide +kernel
theorem dX5_lend_34 : decode cX5_lend 34 = .ok (.aload_n 0, 1) := by decide +kernel
theorem dX5_lend_35 : decode cX5_lend 35 = .ok (.getfield 25, 3) := by decide +kernel
theorem dX5_lend_38 : decode cX5_lend 38 = .ok (.aload_n 0, 1) := by decide +kernel
theorem dX5_lend_39 : decode cX5_lend 39 = .ok (.getfield 12, 3) := by decide +kernel
theorem dX5_lend_42 : decode cX5_lend 42 = .ok (.invokevirtual 51, 3) := by decide +kernel
theorem dX5_lend_45 : decode cX5_lend 45 = .ok (.aload_n 0, 1) := by decide +kernel
theorem dX5_lend_46 : decode cX5_lend 46 = .ok (.getfield 12, 3) := by decide +kernel
theorem dX5_lend_49 : decode cX5_lend 49 = .ok (.getfield 47, 3) := by decide +kernel
theorem dX5_lend_52 : decode cX5_lend 52 = .ok (.iload_n 1, 1) := by decide +kernel
theorem dX5_lend_53 : decode cX5_lend 53 = .ok (.iload_n 2, 1) := by decide +kernel
theorem dX5_lend_54 : decode cX5_lend 54 = .ok (.iastore, 1) := by decide +kernel
theorem dX5_lend_55 : decode cX5_lend 55 = .ok (.iload_n 3, 1) := by decide +kernel
theorem dX5_lend_56 : decode cX5_lend 56 = .ok (.ireturn, 1) := by decide +kernel
theorem dX5_handOver_0 : decode cX5_handOver 0 = .ok (.iload_n 1, 1) := by decide +kernel
theorem dX5_handOver_1 : decode cX5_handOver 1 = .ok (.invokestatic 40, 3) := by decide +kernel
theorem dX5_handOver_4 : decode cX5_handOver 4 = .ok (.ifCond .eq 10, 3) := by decide +kernel
theorem dX5_handOver_7 : decode cX5_handOver 7 = .ok (.iload_n 2, 1) := by decide +kernel
theorem dX5_handOver_8 : decode cX5_handOver 8 = .ok (.invokestatic 44, 3) := by decide +kernel
theorem dX5_handOver_11 : decode cX5_handOver 11 = .ok (.ifCond .ne 5, 3) := by decide +kernel
theorem dX5_handOver_14 : decode cX5_handOver 14 = .ok (.iconst (-1), 1) := by decide +kernel
theorem dX5_handOver_15 : decode cX5_handOver 15 = .ok (.ireturn, 1) := by decide +kernel
theorem dX5_handOver_16 : decode cX5_handOver 16 = .ok (.aload_n 0, 1) := by decide +kernel
theorem dX5_handOver_17 : decode cX5_handOver 17 = .ok (.getfield 12, 3) := by decide +kernel
theorem dX5_handOver_20 : decode cX5_handOver 20 = .ok (.getfield 55, 3) := by decide +kernel
theorem dX5_handOver_23 : decode cX5_handOver 23 = .ok (.iload_n 1, 1) := by decide +kernel
theorem dX5_handOver_24 : decode cX5_handOver 24 = .ok (.iaload, 1) := by decide +kernel
theorem dX5_handOver_25 : decode cX5_handOver 25 = .ok (.istore_n 3, 1) := by decide +kernel
theorem dX5_handOver_26 : decode cX5_handOver 26 = .ok (.iload_n 3, 1) := by decide +kernel
theorem dX5_handOver_27 : decode cX5_handOver 27 = .ok (.iload_n 2, 1) := by decide +kernel
theorem dX5_handOver_28 : decode cX5_handOver 28 = .ok (.if_icmp .ne 6, 3) := by decide +kernel
theorem dX5_handOver_31 : decode cX5_handOver 31 = .ok (.bipush (-5), 2) := by decide +kernel
theorem dX5_handOver_33 : decode cX5_handOver 33 = .ok (.ireturn, 1) := by decide +kernel
theorem dX5_handOver_34 : decode cX5_handOver 34 = .ok (.aload_n 0, 1) := by decide +kernel
theorem dX5_handOver_35 : decode cX5_handOver 35 = .ok (.getfield 25, 3) := by decide +kernel
theorem dX5_handOver_38 : decode cX5_handOver 38 = .ok (.aload_n 0, 1) := by decide +kernel
theorem dX5_handOver_39 : decode cX5_handOver 39 = .ok (.getfield 12, 3) := by decide +kernel
theorem dX5_handOver_42 : decode cX5_handOver 42 = .ok (.invokevirtual 51, 3) := by decide +kernel
theorem dX5_handOver_45 : decode cX5_handOver 45 = .ok (.aload_n 0, 1) := by decide +kernel
theorem dX5_handOver_46 : decode cX5_handOver 46 = .ok (.getfield 12, 3) := by decide +kernel
theorem dX5_handOver_49 : decode cX5_handOver 49 = .ok (.getfield 55, 3) := by decide +kernel
theorem dX5_handOver_52 : decode cX5_handOver 52 = .ok (.iload_n 1, 1) := by decide +kernel
theorem dX5_handOver_53 : decode cX5_handOver 53 = .ok (.iload_n 2, 1) := by decide +kernel
theorem dX5_handOver_54 : decode cX5_handOver 54 = .ok (.iastore, 1) := by decide +kernel
theorem dX5_handOver_55 : decode cX5_handOver 55 = .ok (.aload_n 0, 1) := by decide +kernel
theorem dX5_handOver_56 : decode cX5_handOver 56 = .ok (.getfield 12, 3) := by decide +kernel
theorem dX5_handOver_59 : decode cX5_handOver 59 = .ok (.getfield 47, 3) := by decide +kernel
theorem dX5_handOver_62 : decode cX5_handOver 62 = .ok (.iload_n 1, 1) := by decide +kernel
theorem dX5_handOver_63 : decode cX5_handOver 63 = .ok (.iload_n 2, 1) := by decide +kernel
theorem dX5_handOver_64 : decode cX5_handOver 64 = .ok (.iastore, 1) := by decide +kernel
theorem dX5_handOver_65 : decode cX5_handOver 65 = .ok (.iload_n 3, 1) := by decide +kernel
theorem dX5_handOver_66 : decode cX5_handOver 66 = .ok (.ireturn, 1) := by decide +kernel
theorem dX5_setDays_0 : decode cX5_setDays 0 = .ok (.iload_n 1, 1) := by decide +kernel
theorem dX5_setDays_1 : decode cX5_setDays 1 = .ok (.invokestatic 44, 3) := by decide +kernel
theorem dX5_setDays_4 : decode cX5_setDays 4 = .ok (.ifCond .ne 5, 3) := by decide +kernel
theorem dX5_setDays_7 : decode cX5_setDays 7 = .ok (.iconst (-1), 1) := by decide +kernel
theorem dX5_setDays_8 : decode cX5_setDays 8 = .ok (.ireturn, 1) := by decide +kernel
theorem dX5_setDays_9 : decode cX5_setDays 9 = .ok (.iload_n 2, 1) := by decide +kernel
theorem dX5_setDays_10 : decode cX5_setDays 10 = .ok (.iconst 0, 1) := by decide +kernel
theorem dX5_setDays_11 : decode cX5_setDays 11 = .ok (.bipush 20, 2) := by decide +kernel
theorem dX5_setDays_13 : decode cX5_setDays 13 = .ok (.invokestatic 58, 3) := by decide +kernel
theorem dX5_setDays_16 : decode cX5_setDays 16 = .ok (.ifCond .ne 6, 3) := by decide +kernel
theorem dX5_setDays_19 : decode cX5_setDays 19 = .ok (.bipush (-2), 2) := by decide +kernel
theorem dX5_setDays_21 : decode cX5_setDays 21 = .ok (.ireturn, 1) := by decide +kernel
theorem dX5_setDays_22 : decode cX5_setDays 22 = .ok (.aload_n 0, 1) := by decide +kernel
theorem dX5_setDays_23 : decode cX5_setDays 23 = .ok (.getfield 12, 3) := by decide +kernel
theorem dX5_setDays_26 : decode cX5_setDays 26 = .ok (.getfield 62, 3) := by decide +kernel
theorem dX5_setDays_29 : decode cX5_setDays 29 = .ok (.iload_n 1, 1) := by decide +kernel
theorem dX5_setDays_30 : decode cX5_setDays 30 = .ok (.iaload, 1) := by decide +kernel
theorem dX5_setDays_31 : decode cX5_setDays 31 = .ok (.istore_n 3, 1) := by decide +kernel
theorem dX5_setDays_32 : decode cX5_setDays 32 = .ok (.iload_n 3, 1) := by decide +kernel
theorem dX5_setDays_33 : decode cX5_setDays 33 = .ok (.iload_n 2, 1) := by decide +kernel
theorem dX5_setDays_34 : decode cX5_setDays 34 = .ok (.if_icmp .ne 6, 3) := by decide +kernel
theorem dX5_setDays_37 : decode cX5_setDays 37 = .ok (.bipush (-5), 2) := by decide +kernel
theorem dX5_setDays_39 : decode cX5_setDays 39 = .ok (.ireturn, 1) := by decide +kernel
theorem dX5_setDays_40 : decode cX5_setDays 40 = .ok (.aload_n 0, 1) := by decide +kernel
theorem dX5_setDays_41 : decode cX5_setDays 41 = .ok (.getfield 25, 3) := by decide +kernel
theorem dX5_setDays_44 : decode cX5_setDays 44 = .ok (.aload_n 0, 1) := by decide +kernel
theorem dX5_setDays_45 : decode cX5_setDays 45 = .ok (.getfield 12, 3) := by decide +kernel
theorem dX5_setDays_48 : decode cX5_setDays 48 = .ok (.invokevirtual 51, 3) := by decide +kernel
theorem dX5_setDays_51 : decode cX5_setDays 51 = .ok (.aload_n 0, 1) := by decide +kernel
theorem dX5_setDays_52 : decode cX5_setDays 52 = .ok (.getfield 12, 3) := by decide +kernel
theorem dX5_setDays_55 : decode cX5_setDays 55 = .ok (.getfield 62, 3) := by decide +kernel
theorem dX5_setDays_58 : decode cX5_setDays 58 = .ok (.iload_n 1, 1) := by decide +kernel
theorem dX5_setDays_59 : decode cX5_setDays 59 = .ok (.iload_n 2, 1) := by decide +kernel
theorem dX5_setDays_60 : decode cX5_setDays 60 = .ok (.iastore, 1) := by decide +kernel
theorem dX5_setDays_61 : decode cX5_setDays 61 = .ok (.iload_n 3, 1) := by decide +kernel
theorem dX5_setDays_62 : decode cX5_setDays 62 = .ok (.ireturn, 1) := by decide +kernel
theorem dX5_set_0 : decode cX5_set 0 = .ok (.iload_n 1, 1) := by decide +kernel
theorem dX5_set_1 : decode cX5_set 1 = .ok (.iload_n 2, 1) := by decide +kernel
theorem dX5_set_2 : decode cX5_set 2 = .ok (.invokestatic 65, 3) := by decide +kernel
theorem dX5_set_5 : decode cX5_set 5 = .ok (.ifCond .ne 6, 3) := by decide +kernel
theorem dX5_set_8 : decode cX5_set 8 = .ok (.bipush (-2), 2) := by decide +kernel
theorem dX5_set_10 : decode cX5_set 10 = .ok (.ireturn, 1) := by decide +kernel
theorem dX5_set_11 : decode cX5_set 11 = .ok (.iload_n 1, 1) := by decide +kernel
theorem dX5_set_12 : decode cX5_set 12 = .ok (.ifCond .ne 13, 3) := by decide +kernel
theorem dX5_set_15 : decode cX5_set 15 = .ok (.aload_n 0, 1) := by decide +kernel
theorem dX5_set_16 : decode cX5_set 16 = .ok (.getfield 12, 3) := by decide +kernel
theorem dX5_set_19 : decode cX5_set 19 = .ok (.getfield 69, 3) := by decide +kernel
theorem dX5_set_22 : decode cX5_set 22 = .ok (.goto 10, 3) := by decide +kernel
theorem dX5_set_25 : decode cX5_set 25 = .ok (.aload_n 0, 1) := by decide +kernel
theorem dX5_set_26 : decode cX5_set 26 = .ok (.getfield 12, 3) := by decide +kernel
theorem dX5_set_29 : decode cX5_set 29 = .ok (.getfield 73, 3) := by decide +kernel
theorem dX5_set_32 : decode cX5_set 32 = .ok (.istore_n 3, 1) := by decide +kernel
theorem dX5_set_33 : decode cX5_set 33 = .ok (.iload_n 3, 1) := by decide +kernel
theorem dX5_set_34 : decode cX5_set 34 = .ok (.iload_n 2, 1) := by decide +kernel
theorem dX5_set_35 : decode cX5_set 35 = .ok (.if_icmp .ne 6, 3) := by decide +kernel
theorem dX5_set_38 : decode cX5_set 38 = .ok (.bipush (-5), 2) := by decide +kernel
theorem dX5_set_40 : decode cX5_set 40 = .ok (.ireturn, 1) := by decide +kernel
theorem dX5_set_41 : decode cX5_set 41 = .ok (.aload_n 0, 1) := by decide +kernel
theorem dX5_set_42 : decode cX5_set 42 = .ok (.getfield 25, 3) := by decide +kernel
theorem dX5_set_45 : decode cX5_set 45 = .ok (.aload_n 0, 1) := by decide +kernel
theorem dX5_set_46 : decode cX5_set 46 = .ok (.getfield 12, 3) := by decide +kernel
theorem dX5_set_49 : decode cX5_set 49 = .ok (.invokevirtual 51, 3) := by decide +kernel
theorem dX5_set_52 : decode cX5_set 52 = .ok (.iload_n 1, 1) := by decide +kernel
theorem dX5_set_53 : decode cX5_set 53 = .ok (.ifCond .ne 14, 3) := by decide +kernel
theorem dX5_set_56 : decode cX5_set 56 = .ok (.aload_n 0, 1) := by decide +kernel
theorem dX5_set_57 : decode cX5_set 57 = .ok (.getfield 12, 3) := by decide +kernel
theorem dX5_set_60 : decode cX5_set 60 = .ok (.iload_n 2, 1) := by decide +kernel
theorem dX5_set_61 : decode cX5_set 61 = .ok (.putfield 69, 3) := by decide +kernel
theorem dX5_set_64 : decode cX5_set 64 = .ok (.goto 11, 3) := by decide +kernel
theorem dX5_set_67 : decode cX5_set 67 = .ok (.aload_n 0, 1) := by decide +kernel
theorem dX5_set_68 : decode cX5_set 68 = .ok (.getfield 12, 3) := by decide +kernel
theorem dX5_set_71 : decode cX5_set 71 = .ok (.iload_n 2, 1) := by decide +kernel
theorem dX5_set_72 : decode cX5_set 72 = .ok (.putfield 73, 3) := by decide +kernel
theorem dX5_set_75 : decode cX5_set 75 = .ok (.iload_n 3, 1) := by decide +kernel
theorem dX5_set_76 : decode cX5_set 76 = .ok (.ireturn, 1) := by decide +kernel
theorem dX5_cut_0 : decode cX5_cut 0 = .ok (.iload_n 1, 1) := by decide +kernel
theorem dX5_cut_1 : decode cX5_cut 1 = .ok (.invokestatic 44, 3) := by decide +kernel
theorem dX5_cut_4 : decode cX5_cut 4 = .ok (.ifCond .eq 10, 3) := by decide +kernel
theorem dX5_cut_7 : decode cX5_cut 7 = .ok (.iload_n 2, 1) := by decide +kernel
theorem dX5_cut_8 : decode cX5_cut 8 = .ok (.invokestatic 40, 3) := by decide +kernel
theorem dX5_cut_11 : decode cX5_cut 11 = .ok (.ifCond .ne 5, 3) := by decide +kernel
theorem dX5_cut_14 : decode cX5_cut 14 = .ok (.iconst (-1), 1) := by decide +kernel
theorem dX5_cut_15 : decode cX5_cut 15 = .ok (.ireturn, 1) := by decide +kernel
theorem dX5_cut_16 : decode cX5_cut 16 = .ok (.aload_n 0, 1) := by decide +kernel
theorem dX5_cut_17 : decode cX5_cut 17 = .ok (.getfield 12, 3) := by decide +kernel
theorem dX5_cut_20 : decode cX5_cut 20 = .ok (.iload_n 1, 1) := by decide +kernel
theorem dX5_cut_21 : decode cX5_cut 21 = .ok (.iload_n 2, 1) := by decide +kernel
theorem dX5_cut_22 : decode cX5_cut 22 = .ok (.invokevirtual 76, 3) := by decide +kernel
theorem dX5_cut_25 : decode cX5_cut 25 = .ok (.ifCond .ne 16, 3) := by decide +kernel
theorem dX5_cut_28 : decode cX5_cut 28 = .ok (.aload_n 0, 1) := by decide +kernel
theorem dX5_cut_29 : decode cX5_cut 29 = .ok (.getfield 12, 3) := by decide +kernel
theorem dX5_cut_32 : decode cX5_cut 32 = .ok (.getfield 80, 3) := by decide +kernel
theorem dX5_cut_35 : decode cX5_cut 35 = .ok (.invokevirtual 84, 3) := by decide +kernel
theorem dX5_cut_38 : decode cX5_cut 38 = .ok (.ifCond .ne 6, 3) := by decide +kernel
theorem dX5_cut_41 : decode cX5_cut 41 = .ok (.bipush (-4), 2) := by decide +kernel
theorem dX5_cut_43 : decode cX5_cut 43 = .ok (.ireturn, 1) := by decide +kernel
theorem dX5_cut_44 : decode cX5_cut 44 = .ok (.aload_n 0, 1) := by decide +kernel
theorem dX5_cut_45 : decode cX5_cut 45 = .ok (.getfield 25, 3) := by decide +kernel
theorem dX5_cut_48 : decode cX5_cut 48 = .ok (.aload_n 0, 1) := by decide +kernel
theorem dX5_cut_49 : decode cX5_cut 49 = .ok (.getfield 12, 3) := by decide +kernel
theorem dX5_cut_52 : decode cX5_cut 52 = .ok (.invokevirtual 51, 3) := by decide +kernel
theorem dX5_cut_55 : decode cX5_cut 55 = .ok (.aload_n 0, 1) := by decide +kernel
theorem dX5_cut_56 : decode cX5_cut 56 = .ok (.getfield 12, 3) := by decide +kernel
theorem dX5_cut_59 : decode cX5_cut 59 = .ok (.iload_n 1, 1) := by decide +kernel
theorem dX5_cut_60 : decode cX5_cut 60 = .ok (.iload_n 2, 1) := by decide +kernel
theorem dX5_cut_61 : decode cX5_cut 61 = .ok (.invokevirtual 90, 3) := by decide +kernel
theorem dX5_cut_64 : decode cX5_cut 64 = .ok (.ireturn, 1) := by decide +kernel
theorem dX5_turn_0 : decode cX5_turn 0 = .ok (.aload_n 0, 1) := by decide +kernel
theorem dX5_turn_1 : decode cX5_turn 1 = .ok (.getfield 12, 3) := by decide +kernel
theorem dX5_turn_4 : decode cX5_turn 4 = .ok (.getfield 80, 3) := by decide +kernel
theorem dX5_turn_7 : decode cX5_turn 7 = .ok (.iload_n 1, 1) := by decide +kernel
theorem dX5_turn_8 : decode cX5_turn 8 = .ok (.invokevirtual 93, 3) := by decide +kernel
theorem dX5_turn_11 : decode cX5_turn 11 = .ok (.ifCond .ne 5, 3) := by decide +kernel
theorem dX5_turn_14 : decode cX5_turn 14 = .ok (.iconst (-1), 1) := by decide +kernel
theorem dX5_turn_15 : decode cX5_turn 15 = .ok (.ireturn, 1) := by decide +kernel
theorem dX5_turn_16 : decode cX5_turn 16 = .ok (.aload_n 0, 1) := by decide +kernel
theorem dX5_turn_17 : decode cX5_turn 17 = .ok (.getfield 12, 3) := by decide +kernel
theorem dX5_turn_20 : decode cX5_turn 20 = .ok (.getfield 80, 3) := by decide +kernel
theorem dX5_turn_23 : decode cX5_turn 23 = .ok (.getfield 96, 3) := by decide +kernel
theorem dX5_turn_26 : decode cX5_turn 26 = .ok (.iload_n 1, 1) := by decide +kernel
theorem dX5_turn_27 : decode cX5_turn 27 = .ok (.baload, 1) := by decide +kernel
theorem dX5_turn_28 : decode cX5_turn 28 = .ok (.ifCond .eq 6, 3) := by decide +kernel
theorem dX5_turn_31 : decode cX5_turn 31 = .ok (.bipush (-4), 2) := by decide +kernel
theorem dX5_turn_33 : decode cX5_turn 33 = .ok (.ireturn, 1) := by decide +kernel
theorem dX5_turn_34 : decode cX5_turn 34 = .ok (.aload_n 0, 1) := by decide +kernel
theorem dX5_turn_35 : decode cX5_turn 35 = .ok (.getfield 12, 3) := by decide +kernel
theorem dX5_turn_38 : decode cX5_turn 38 = .ok (.getfield 80, 3) := by decide +kernel
theorem dX5_turn_41 : decode cX5_turn 41 = .ok (.getfield 100, 3) := by decide +kernel
theorem dX5_turn_44 : decode cX5_turn 44 = .ok (.iload_n 1, 1) := by decide +kernel
theorem dX5_turn_45 : decode cX5_turn 45 = .ok (.baload, 1) := by decide +kernel
theorem dX5_turn_46 : decode cX5_turn 46 = .ok (.ifCond .eq 6, 3) := by decide +kernel
theorem dX5_turn_49 : decode cX5_turn 49 = .ok (.bipush (-5), 2) := by decide +kernel
theorem dX5_turn_51 : decode cX5_turn 51 = .ok (.ireturn, 1) := by decide +kernel
theorem dX5_turn_52 : decode cX5_turn 52 = .ok (.aload_n 0, 1) := by decide +kernel
theorem dX5_turn_53 : decode cX5_turn 53 = .ok (.getfield 25, 3) := by decide +kernel
theorem dX5_turn_56 : decode cX5_turn 56 = .ok (.aload_n 0, 1) := by decide +kernel
theorem dX5_turn_57 : decode cX5_turn 57 = .ok (.getfield 12, 3) := by decide +kernel
theorem dX5_turn_60 : decode cX5_turn 60 = .ok (.invokevirtual 51, 3) := by decide +kernel
theorem dX5_turn_63 : decode cX5_turn 63 = .ok (.aload_n 0, 1) := by decide +kernel
theorem dX5_turn_64 : decode cX5_turn 64 = .ok (.getfield 12, 3) := by decide +kernel
theorem dX5_turn_67 : decode cX5_turn 67 = .ok (.getfield 80, 3) := by decide +kernel
theorem dX5_turn_70 : decode cX5_turn 70 = .ok (.getfield 100, 3) := by decide +kernel
theorem dX5_turn_73 : decode cX5_turn 73 = .ok (.iload_n 1, 1) := by decide +kernel
theorem dX5_turn_74 : decode cX5_turn 74 = .ok (.iconst 1, 1) := by decide +kernel
theorem dX5_turn_75 : decode cX5_turn 75 = .ok (.bastore, 1) := by decide +kernel
theorem dX5_turn_76 : decode cX5_turn 76 = .ok (.aload_n 0, 1) := by decide +kernel
theorem dX5_turn_77 : decode cX5_turn 77 = .ok (.getfield 12, 3) := by decide +kernel
theorem dX5_turn_80 : decode cX5_turn 80 = .ok (.getfield 80, 3) := by decide +kernel
theorem dX5_turn_83 : decode cX5_turn 83 = .ok (.getfield 103, 3) := by decide +kernel
theorem dX5_turn_86 : decode cX5_turn 86 = .ok (.iload_n 1, 1) := by decide +kernel
theorem dX5_turn_87 : decode cX5_turn 87 = .ok (.iaload, 1) := by decide +kernel
theorem dX5_turn_88 : decode cX5_turn 88 = .ok (.ireturn, 1) := by decide +kernel
theorem dX5_stack_0 : decode cX5_stack 0 = .ok (.aload_n 0, 1) := by decide +kernel
theorem dX5_stack_1 : decode cX5_stack 1 = .ok (.getfield 12, 3) := by decide +kernel
theorem dX5_stack_4 : decode cX5_stack 4 = .ok (.getfield 80, 3) := by decide +kernel
theorem dX5_stack_7 : decode cX5_stack 7 = .ok (.iload_n 1, 1) := by decide +kernel
theorem dX5_stack_8 : decode cX5_stack 8 = .ok (.invokevirtual 93, 3) := by decide +kernel
theorem dX5_stack_11 : decode cX5_stack 11 = .ok (.ifCond .ne 5, 3) := by decide +kernel
theorem dX5_stack_14 : decode cX5_stack 14 = .ok (.iconst (-1), 1) := by decide +kernel
theorem dX5_stack_15 : decode cX5_stack 15 = .ok (.ireturn, 1) := by decide +kernel
theorem dX5_stack_16 : decode cX5_stack 16 = .ok (.aload_n 0, 1) := by decide +kernel
theorem dX5_stack_17 : decode cX5_stack 17 = .ok (.getfield 12, 3) := by decide +kernel
theorem dX5_stack_20 : decode cX5_stack 20 = .ok (.getfield 80, 3) := by decide +kernel
theorem dX5_stack_23 : decode cX5_stack 23 = .ok (.iload_n 1, 1) := by decide +kernel
theorem dX5_stack_24 : decode cX5_stack 24 = .ok (.invokevirtual 106, 3) := by decide +kernel
theorem dX5_stack_27 : decode cX5_stack 27 = .ok (.ifCond .ne 6, 3) := by decide +kernel
theorem dX5_stack_30 : decode cX5_stack 30 = .ok (.bipush (-4), 2) := by decide +kernel
theorem dX5_stack_32 : decode cX5_stack 32 = .ok (.ireturn, 1) := by decide +kernel
theorem dX5_stack_33 : decode cX5_stack 33 = .ok (.aload_n 0, 1) := by decide +kernel
theorem dX5_stack_34 : decode cX5_stack 34 = .ok (.getfield 12, 3) := by decide +kernel
theorem dX5_stack_37 : decode cX5_stack 37 = .ok (.getfield 80, 3) := by decide +kernel
theorem dX5_stack_40 : decode cX5_stack 40 = .ok (.getfield 96, 3) := by decide +kernel
theorem dX5_stack_43 : decode cX5_stack 43 = .ok (.iload_n 1, 1) := by decide +kernel
theorem dX5_stack_44 : decode cX5_stack 44 = .ok (.baload, 1) := by decide +kernel
theorem dX5_stack_45 : decode cX5_stack 45 = .ok (.ifCond .eq 6, 3) := by decide +kernel
theorem dX5_stack_48 : decode cX5_stack 48 = .ok (.bipush (-5), 2) := by decide +kernel
theorem dX5_stack_50 : decode cX5_stack 50 = .ok (.ireturn, 1) := by decide +kernel
theorem dX5_stack_51 : decode cX5_stack 51 = .ok (.aload_n 0, 1) := by decide +kernel
theorem dX5_stack_52 : decode cX5_stack 52 = .ok (.getfield 25, 3) := by decide +kernel
theorem dX5_stack_55 : decode cX5_stack 55 = .ok (.aload_n 0, 1) := by decide +kernel
theorem dX5_stack_56 : decode cX5_stack 56 = .ok (.getfield 12, 3) := by decide +kernel
theorem dX5_stack_59 : decode cX5_stack 59 = .ok (.invokevirtual 51, 3) := by decide +kernel
theorem dX5_stack_62 : decode cX5_stack 62 = .ok (.aload_n 0, 1) := by decide +kernel
theorem dX5_stack_63 : decode cX5_stack 63 = .ok (.getfield 12, 3) := by decide +kernel
theorem dX5_stack_66 : decode cX5_stack 66 = .ok (.getfield 80, 3) := by decide +kernel
theorem dX5_stack_69 : decode cX5_stack 69 = .ok (.getfield 96, 3) := by decide +kernel
theorem dX5_stack_72 : decode cX5_stack 72 = .ok (.iload_n 1, 1) := by decide +kernel
theorem dX5_stack_73 : decode cX5_stack 73 = .ok (.iconst 1, 1) := by decide +kernel
theorem dX5_stack_74 : decode cX5_stack 74 = .ok (.bastore, 1) := by decide +kernel
theorem dX5_stack_75 : decode cX5_stack 75 = .ok (.aload_n 0, 1) := by decide +kernel
theorem dX5_stack_76 : decode cX5_stack 76 = .ok (.getfield 12, 3) := by decide +kernel
theorem dX5_stack_79 : decode cX5_stack 79 = .ok (.getfield 80, 3) := by decide +kernel
theorem dX5_stack_82 : decode cX5_stack 82 = .ok (.aload_n 0, 1) := by decide +kernel
theorem dX5_stack_83 : decode cX5_stack 83 = .ok (.getfield 12, 3) := by decide +kernel
theorem dX5_stack_86 : decode cX5_stack 86 = .ok (.getfield 80, 3) := by decide +kernel
theorem dX5_stack_89 : decode cX5_stack 89 = .ok (.getfield 109, 3) := by decide +kernel
theorem dX5_stack_92 : decode cX5_stack 92 = .ok (.iload_n 1, 1) := by decide +kernel
theorem dX5_stack_93 : decode cX5_stack 93 = .ok (.iaload, 1) := by decide +kernel
theorem dX5_stack_94 : decode cX5_stack 94 = .ok (.invokevirtual 112, 3) := by decide +kernel
theorem dX5_stack_97 : decode cX5_stack 97 = .ok (.ireturn, 1) := by decide +kernel
theorem dX5_pass_0 : decode cX5_pass 0 = .ok (.iload_n 1, 1) := by decide +kernel
theorem dX5_pass_1 : decode cX5_pass 1 = .ok (.invokestatic 116, 3) := by decide +kernel
theorem dX5_pass_4 : decode cX5_pass 4 = .ok (.ifCond .ne 6, 3) := by decide +kernel
theorem dX5_pass_7 : decode cX5_pass 7 = .ok (.bipush (-2), 2) := by decide +kernel
theorem dX5_pass_9 : decode cX5_pass 9 = .ok (.ireturn, 1) := by decide +kernel
theorem dX5_pass_10 : decode cX5_pass 10 = .ok (.aload_n 0, 1) := by decide +kernel
theorem dX5_pass_11 : decode cX5_pass 11 = .ok (.getfield 25, 3) := by decide +kernel
theorem dX5_pass_14 : decode cX5_pass 14 = .ok (.aload_n 0, 1) := by decide +kernel
theorem dX5_pass_15 : decode cX5_pass 15 = .ok (.getfield 12, 3) := by decide +kernel
theorem dX5_pass_18 : decode cX5_pass 18 = .ok (.invokevirtual 51, 3) := by decide +kernel
theorem dX5_pass_21 : decode cX5_pass 21 = .ok (.aload_n 0, 1) := by decide +kernel
theorem dX5_pass_22 : decode cX5_pass 22 = .ok (.getfield 12, 3) := by decide +kernel
theorem dX5_pass_25 : decode cX5_pass 25 = .ok (.iconst 1, 1) := by decide +kernel
theorem dX5_pass_26 : decode cX5_pass 26 = .ok (.iload_n 1, 1) := by decide +kernel
theorem dX5_pass_27 : decode cX5_pass 27 = .ok (.invokevirtual 119, 3) := by decide +kernel
theorem dX5_pass_30 : decode cX5_pass 30 = .ok (.ireturn, 1) := by decide +kernel
theorem dX5_passAll_0 : decode cX5_passAll 0 = .ok (.aload_n 0, 1) := by decide +kernel
theorem dX5_passAll_1 : decode cX5_passAll 1 = .ok (.getfield 32, 3) := by decide +kernel
theorem dX5_passAll_4 : decode cX5_passAll 4 = .ok (.invokevirtual 122, 3) := by decide +kernel
theorem dX5_passAll_7 : decode cX5_passAll 7 = .ok (.istore_n 1, 1) := by decide +kernel
theorem dX5_passAll_8 : decode cX5_passAll 8 = .ok (.iload_n 1, 1) := by decide +kernel
theorem dX5_passAll_9 : decode cX5_passAll 9 = .ok (.iconst (-1), 1) := by decide +kernel
theorem dX5_passAll_10 : decode cX5_passAll 10 = .ok (.if_icmp .eq 8, 3) := by decide +kernel
theorem dX5_passAll_13 : decode cX5_passAll 13 = .ok (.bipush (-100), 2) := by decide +kernel
theorem dX5_passAll_15 : decode cX5_passAll 15 = .ok (.iload_n 1, 1) := by decide +kernel
theorem dX5_passAll_16 : decode cX5_passAll 16 = .ok (.isub, 1) := by decide +kernel
theorem dX5_passAll_17 : decode cX5_passAll 17 = .ok (.ireturn, 1) := by decide +kernel
theorem dX5_passAll_18 : decode cX5_passAll 18 = .ok (.aload_n 0, 1) := by decide +kernel
theorem dX5_passAll_19 : decode cX5_passAll 19 = .ok (.getfield 25, 3) := by decide +kernel
theorem dX5_passAll_22 : decode cX5_passAll 22 = .ok (.aload_n 0, 1) := by decide +kernel
theorem dX5_passAll_23 : decode cX5_passAll 23 = .ok (.getfield 12, 3) := by decide +kernel
theorem dX5_passAll_26 : decode cX5_passAll 26 = .ok (.invokevirtual 51, 3) := by decide +kernel
theorem dX5_passAll_29 : decode cX5_passAll 29 = .ok (.iconst 0, 1) := by decide +kernel
theorem dX5_passAll_30 : decode cX5_passAll 30 = .ok (.istore_n 2, 1) := by decide +kernel
theorem dX5_passAll_31 : decode cX5_passAll 31 = .ok (.iconst 0, 1) := by decide +kernel
theorem dX5_passAll_32 : decode cX5_passAll 32 = .ok (.istore_n 3, 1) := by decide +kernel
theorem dX5_passAll_33 : decode cX5_passAll 33 = .ok (.iload_n 3, 1) := by decide +kernel
theorem dX5_passAll_34 : decode cX5_passAll 34 = .ok (.aload_n 0, 1) := by decide +kernel
theorem dX5_passAll_35 : decode cX5_passAll 35 = .ok (.getfield 32, 3) := by decide +kernel
theorem dX5_passAll_38 : decode cX5_passAll 38 = .ok (.getfield 126, 3) := by decide +kernel
theorem dX5_passAll_41 : decode cX5_passAll 41 = .ok (.if_icmp .ge 47, 3) := by decide +kernel
theorem dX5_passAll_44 : decode cX5_passAll 44 = .ok (.aload_n 0, 1) := by decide +kernel
theorem dX5_passAll_45 : decode cX5_passAll 45 = .ok (.getfield 12, 3) := by decide +kernel
theorem dX5_passAll_48 : decode cX5_passAll 48 = .ok (.aload_n 0, 1) := by decide +kernel
theorem dX5_passAll_49 : decode cX5_passAll 49 = .ok (.getfield 32, 3) := by decide +kernel
theorem dX5_passAll_52 : decode cX5_passAll 52 = .ok (.getfield 129, 3) := by decide +kernel
theorem dX5_passAll_55 : decode cX5_passAll 55 = .ok (.iload_n 3, 1) := by decide +kernel
theorem dX5_passAll_56 : decode cX5_passAll 56 = .ok (.iaload, 1) := by decide +kernel
theorem dX5_passAll_57 : decode cX5_passAll 57 = .ok (.aload_n 0, 1) := by decide +kernel
theorem dX5_passAll_58 : decode cX5_passAll 58 = .ok (.getfield 32, 3) := by decide +kernel
theorem dX5_passAll_61 : decode cX5_passAll 61 = .ok (.getfield 132, 3) := by decide +kernel
theorem dX5_passAll_64 : decode cX5_passAll 64 = .ok (.iload_n 3, 1) := by decide +kernel
theorem dX5_passAll_65 : decode cX5_passAll 65 = .ok (.iaload, 1) := by decide +kernel
theorem dX5_passAll_66 : decode cX5_passAll 66 = .ok (.invokevirtual 119, 3) := by decide +kernel
theorem dX5_passAll_69 : decode cX5_passAll 69 = .ok (.pop, 1) := by decide +kernel
theorem dX5_passAll_70 : decode cX5_passAll 70 = .ok (.iload_n 2, 1) := by decide +kernel
theorem dX5_passAll_71 : decode cX5_passAll 71 = .ok (.aload_n 0, 1) := by decide +kernel
theorem dX5_passAll_72 : decode cX5_passAll 72 = .ok (.getfield 32, 3) := by decide +kernel
theorem dX5_passAll_75 : decode cX5_passAll 75 = .ok (.getfield 129, 3) := by decide +kernel
theorem dX5_passAll_78 : decode cX5_passAll 78 = .ok (.iload_n 3, 1) := by decide +kernel
theorem dX5_passAll_79 : decode cX5_passAll 79 = .ok (.iaload, 1) := by decide +kernel
theorem dX5_passAll_80 : decode cX5_passAll 80 = .ok (.iadd, 1) := by decide +kernel
theorem dX5_passAll_81 : decode cX5_passAll 81 = .ok (.istore_n 2, 1) := by decide +kernel
theorem dX5_passAll_82 : decode cX5_passAll 82 = .ok (.iinc 3 1, 3) := by decide +kernel
theorem dX5_passAll_85 : decode cX5_passAll 85 = .ok (.goto (-52), 3) := by decide +kernel
theorem dX5_passAll_88 : decode cX5_passAll 88 = .ok (.iload_n 2, 1) := by decide +kernel
theorem dX5_passAll_89 : decode cX5_passAll 89 = .ok (.ireturn, 1) := by decide +kernel
theorem dX5_settle_0 : decode cX5_settle 0 = .ok (.aload_n 0, 1) := by decide +kernel
theorem dX5_settle_1 : decode cX5_settle 1 = .ok (.getfield 12, 3) := by decide +kernel
theorem dX5_settle_4 : decode cX5_settle 4 = .ok (.getfield 135, 3) := by decide +kernel
theorem dX5_settle_7 : decode cX5_settle 7 = .ok (.invokevirtual 139, 3) := by decide +kernel
theorem dX5_settle_10 : decode cX5_settle 10 = .ok (.ifCond .ne 6, 3) := by decide +kernel
theorem dX5_settle_13 : decode cX5_settle 13 = .ok (.bipush (-5), 2) := by decide +kernel
theorem dX5_settle_15 : decode cX5_settle 15 = .ok (.ireturn, 1) := by decide +kernel
theorem dX5_settle_16 : decode cX5_settle 16 = .ok (.aload_n 0, 1) := by decide +kernel
theorem dX5_settle_17 : decode cX5_settle 17 = .ok (.getfield 25, 3) := by decide +kernel
theorem dX5_settle_20 : decode cX5_settle 20 = .ok (.aload_n 0, 1) := by decide +kernel
theorem dX5_settle_21 : decode cX5_settle 21 = .ok (.getfield 12, 3) := by decide +kernel
theorem dX5_settle_24 : decode cX5_settle 24 = .ok (.invokevirtual 51, 3) := by decide +kernel
theorem dX5_settle_27 : decode cX5_settle 27 = .ok (.aload_n 0, 1) := by decide +kernel
theorem dX5_settle_28 : decode cX5_settle 28 = .ok (.getfield 12, 3) := by decide +kernel
theorem dX5_settle_31 : decode cX5_settle 31 = .ok (.invokevirtual 144, 3) := by decide +kernel
theorem dX5_settle_34 : decode cX5_settle 34 = .ok (.ireturn, 1) := by decide +kernel
theorem dX5_endYear_0 : decode cX5_endYear 0 = .ok (.aload_n 0, 1) := by decide +kernel
theorem dX5_endYear_1 : decode cX5_endYear 1 = .ok (.getfield 25, 3) := by decide +kernel
theorem dX5_endYear_4 : decode cX5_endYear 4 = .ok (.aload_n 0, 1) := by decide +kernel
theorem dX5_endYear_5 : decode cX5_endYear 5 = .ok (.getfield 12, 3) := by decide +kernel
theorem dX5_endYear_8 : decode cX5_endYear 8 = .ok (.invokevirtual 51, 3) := by decide +kernel
theorem dX5_endYear_11 : decode cX5_endYear 11 = .ok (.aload_n 0, 1) := by decide +kernel
theorem dX5_endYear_12 : decode cX5_endYear 12 = .ok (.getfield 12, 3) := by decide +kernel
theorem dX5_endYear_15 : decode cX5_endYear 15 = .ok (.invokevirtual 147, 3) := by decide +kernel
theorem dX5_endYear_18 : decode cX5_endYear 18 = .ok (.ireturn, 1) := by decide +kernel
theorem dX5_type_0 : decode cX5_type 0 = .ok (.aload_n 0, 1) := by decide +kernel
theorem dX5_type_1 : decode cX5_type 1 = .ok (.getfield 32, 3) := by decide +kernel
theorem dX5_type_4 : decode cX5_type 4 = .ok (.iload_n 1, 1) := by decide +kernel
theorem dX5_type_5 : decode cX5_type 5 = .ok (.invokevirtual 150, 3) := by decide +kernel
theorem dX5_type_8 : decode cX5_type 8 = .ok (.ifCond .eq 13, 3) := by decide +kernel
theorem dX5_type_11 : decode cX5_type 11 = .ok (.aload_n 0, 1) := by decide +kernel
theorem dX5_type_12 : decode cX5_type 12 = .ok (.getfield 32, 3) := by decide +kernel
theorem dX5_type_15 : decode cX5_type 15 = .ok (.getfield 154, 3) := by decide +kernel
theorem dX5_type_18 : decode cX5_type 18 = .ok (.goto 5, 3) := by decide +kernel
theorem dX5_type_21 : decode cX5_type 21 = .ok (.bipush (-3), 2) := by decide +kernel
theorem dX5_type_23 : decode cX5_type 23 = .ok (.ireturn, 1) := by decide +kernel
theorem dX5_clearText_0 : decode cX5_clearText 0 = .ok (.aload_n 0, 1) := by decide +kernel
theorem dX5_clearText_1 : decode cX5_clearText 1 = .ok (.getfield 32, 3) := by decide +kernel
theorem dX5_clearText_4 : decode cX5_clearText 4 = .ok (.getfield 154, 3) := by decide +kernel
theorem dX5_clearText_7 : decode cX5_clearText 7 = .ok (.istore_n 1, 1) := by decide +kernel
theorem dX5_clearText_8 : decode cX5_clearText 8 = .ok (.aload_n 0, 1) := by decide +kernel
theorem dX5_clearText_9 : decode cX5_clearText 9 = .ok (.getfield 32, 3) := by decide +kernel
theorem dX5_clearText_12 : decode cX5_clearText 12 = .ok (.iconst 0, 1) := by decide +kernel
theorem dX5_clearText_13 : decode cX5_clearText 13 = .ok (.putfield 154, 3) := by decide +kernel
theorem dX5_clearText_16 : decode cX5_clearText 16 = .ok (.iload_n 1, 1) := by decide +kernel
theorem dX5_clearText_17 : decode cX5_clearText 17 = .ok (.ireturn, 1) := by decide +kernel
theorem dX5_undo_0 : decode cX5_undo 0 = .ok (.aload_n 0, 1) := by decide +kernel
theorem dX5_undo_1 : decode cX5_undo 1 = .ok (.getfield 25, 3) := by decide +kernel
theorem dX5_undo_4 : decode cX5_undo 4 = .ok (.getfield 157, 3) := by decide +kernel
theorem dX5_undo_7 : decode cX5_undo 7 = .ok (.ifCond .ne 6, 3) := by decide +kernel
theorem dX5_undo_10 : decode cX5_undo 10 = .ok (.bipush (-5), 2) := by decide +kernel
theorem dX5_undo_12 : decode cX5_undo 12 = .ok (.ireturn, 1) := by decide +kernel
theorem dX5_undo_13 : decode cX5_undo 13 = .ok (.aload_n 0, 1) := by decide +kernel
theorem dX5_undo_14 : decode cX5_undo 14 = .ok (.getfield 25, 3) := by decide +kernel
theorem dX5_undo_17 : decode cX5_undo 17 = .ok (.aload_n 0, 1) := by decide +kernel
theorem dX5_undo_18 : decode cX5_undo 18 = .ok (.getfield 12, 3) := by decide +kernel
theorem dX5_undo_21 : decode cX5_undo 21 = .ok (.invokevirtual 160, 3) := by decide +kernel
theorem dX5_undo_24 : decode cX5_undo 24 = .ok (.aload_n 0, 1) := by decide +kernel
theorem dX5_undo_25 : decode cX5_undo 25 = .ok (.getfield 25, 3) := by decide +kernel
theorem dX5_undo_28 : decode cX5_undo 28 = .ok (.getfield 157, 3) := by decide +kernel
theorem dX5_undo_31 : decode cX5_undo 31 = .ok (.ireturn, 1) := by decide +kernel
theorem dX5_keep_0 : decode cX5_keep 0 = .ok (.aload_n 0, 1) := by decide +kernel
theorem dX5_keep_1 : decode cX5_keep 1 = .ok (.getfield 16, 3) := by decide +kernel
theorem dX5_keep_4 : decode cX5_keep 4 = .ok (.aload_n 0, 1) := by decide +kernel
theorem dX5_keep_5 : decode cX5_keep 5 = .ok (.getfield 12, 3) := by decide +kernel
theorem dX5_keep_8 : decode cX5_keep 8 = .ok (.invokevirtual 163, 3) := by decide +kernel
theorem dX5_keep_11 : decode cX5_keep 11 = .ok (.aload_n 0, 1) := by decide +kernel
theorem dX5_keep_12 : decode cX5_keep 12 = .ok (.iconst 1, 1) := by decide +kernel
theorem dX5_keep_13 : decode cX5_keep 13 = .ok (.putfield 36, 3) := by decide +kernel
theorem dX5_keep_16 : decode cX5_keep 16 = .ok (.aload_n 0, 1) := by decide +kernel
theorem dX5_keep_17 : decode cX5_keep 17 = .ok (.getfield 12, 3) := by decide +kernel
theorem dX5_keep_20 : decode cX5_keep 20 = .ok (.getfield 80, 3) := by decide +kernel
theorem dX5_keep_23 : decode cX5_keep 23 = .ok (.invokevirtual 166, 3) := by decide +kernel
theorem dX5_keep_26 : decode cX5_keep 26 = .ok (.ireturn, 1) := by decide +kernel
theorem dX5_restore_0 : decode cX5_restore 0 = .ok (.aload_n 0, 1) := by decide +kernel
theorem dX5_restore_1 : decode cX5_restore 1 = .ok (.getfield 36, 3) := by decide +kernel
theorem dX5_restore_4 : decode cX5_restore 4 = .ok (.ifCond .ne 6, 3) := by decide +kernel
theorem dX5_restore_7 : decode cX5_restore 7 = .ok (.bipush (-5), 2) := by decide +kernel
theorem dX5_restore_9 : decode cX5_restore 9 = .ok (.ireturn, 1) := by decide +kernel
theorem dX5_restore_10 : decode cX5_restore 10 = .ok (.aload_n 0, 1) := by decide +kernel
theorem dX5_restore_11 : decode cX5_restore 11 = .ok (.getfield 25, 3) := by decide +kernel
theorem dX5_restore_14 : decode cX5_restore 14 = .ok (.aload_n 0, 1) := by decide +kernel
theorem dX5_restore_15 : decode cX5_restore 15 = .ok (.getfield 12, 3) := by decide +kernel
theorem dX5_restore_18 : decode cX5_restore 18 = .ok (.invokevirtual 51, 3) := by decide +kernel
theorem dX5_restore_21 : decode cX5_restore 21 = .ok (.aload_n 0, 1) := by decide +kernel
theorem dX5_restore_22 : decode cX5_restore 22 = .ok (.getfield 12, 3) := by decide +kernel
theorem dX5_restore_25 : decode cX5_restore 25 = .ok (.aload_n 0, 1) := by decide +kernel
theorem dX5_restore_26 : decode cX5_restore 26 = .ok (.getfield 16, 3) := by decide +kernel
theorem dX5_restore_29 : decode cX5_restore 29 = .ok (.invokevirtual 163, 3) := by decide +kernel
theorem dX5_restore_32 : decode cX5_restore 32 = .ok (.aload_n 0, 1) := by decide +kernel
theorem dX5_restore_33 : decode cX5_restore 33 = .ok (.getfield 12, 3) := by decide +kernel
theorem dX5_restore_36 : decode cX5_restore 36 = .ok (.getfield 80, 3) := by decide +kernel
theorem dX5_restore_39 : decode cX5_restore 39 = .ok (.invokevirtual 166, 3) := by decide +kernel
theorem dX5_restore_42 : decode cX5_restore 42 = .ok (.ireturn, 1) := by decide +kernel
theorem dX5_commoner_0 : decode cX5_commoner 0 = .ok (.iload_n 1, 1) := by decide +kernel
theorem dX5_commoner_1 : decode cX5_commoner 1 = .ok (.invokestatic 44, 3) := by decide +kernel
theorem dX5_commoner_4 : decode cX5_commoner 4 = .ok (.ifCond .ne 5, 3) := by decide +kernel
theorem dX5_commoner_7 : decode cX5_commoner 7 = .ok (.iconst (-1), 1) := by decide +kernel
theorem dX5_commoner_8 : decode cX5_commoner 8 = .ok (.ireturn, 1) := by decide +kernel
theorem dX5_commoner_9 : decode cX5_commoner 9 = .ok (.iload_n 2, 1) := by decide +kernel
theorem dX5_commoner_10 : decode cX5_commoner 10 = .ok (.tableswitch 136 0 7 #[46, 56, 66, 76, 88, 100, 112, 124], 46) := by decide +kernel
theorem dX5_commoner_56 : decode cX5_commoner 56 = .ok (.aload_n 0, 1) := by decide +kernel
theorem dX5_commoner_57 : decode cX5_commoner 57 = .ok (.getfield 12, 3) := by decide +kernel
theorem dX5_commoner_60 : decode cX5_commoner 60 = .ok (.getfield 62, 3) := by decide +kernel
theorem dX5_commoner_63 : decode cX5_commoner 63 = .ok (.iload_n 1, 1) := by decide +kernel
theorem dX5_commoner_64 : decode cX5_commoner 64 = .ok (.iaload, 1) := by decide +kernel
theorem dX5_commoner_65 : decode cX5_commoner 65 = .ok (.ireturn, 1) := by decide +kernel
theorem dX5_commoner_66 : decode cX5_commoner 66 = .ok (.aload_n 0, 1) := by decide +kernel
theorem dX5_commoner_67 : decode cX5_commoner 67 = .ok (.getfield 12, 3) := by decide +kernel
theorem dX5_commoner_70 : decode cX5_commoner 70 = .ok (.getfield 169, 3) := by decide +kernel
theorem dX5_commoner_73 : decode cX5_commoner 73 = .ok (.iload_n 1, 1) := by decide +kernel
theorem dX5_commoner_74 : decode cX5_commoner 74 = .ok (.iaload, 1) := by decide +kernel
theorem dX5_commoner_75 : decode cX5_commoner 75 = .ok (.ireturn, 1) := by decide +kernel
theorem dX5_commoner_76 : decode cX5_commoner 76 = .ok (.aload_n 0, 1) := by decide +kernel
theorem dX5_commoner_77 : decode cX5_commoner 77 = .ok (.getfield 12, 3) := by decide +kernel
theorem dX5_commoner_80 : decode cX5_commoner 80 = .ok (.getfield 172, 3) := by decide +kernel
theorem dX5_commoner_83 : decode cX5_commoner 83 = .ok (.iload_n 1, 1) := by decide +kernel
theorem dX5_commoner_84 : decode cX5_commoner 84 = .ok (.iaload, 1) := by decide +kernel
theorem dX5_commoner_85 : decode cX5_commoner 85 = .ok (.ireturn, 1) := by decide +kernel
theorem dX5_commoner_86 : decode cX5_commoner 86 = .ok (.aload_n 0, 1) := by decide +kernel
theorem dX5_commoner_87 : decode cX5_commoner 87 = .ok (.getfield 12, 3) := by decide +kernel
theorem dX5_commoner_90 : decode cX5_commoner 90 = .ok (.getfield 80, 3) := by decide +kernel
theorem dX5_commoner_93 : decode cX5_commoner 93 = .ok (.iload_n 1, 1) := by decide +kernel
theorem dX5_commoner_94 : decode cX5_commoner 94 = .ok (.invokevirtual 175, 3) := by decide +kernel
theorem dX5_commoner_97 : decode cX5_commoner 97 = .ok (.ireturn, 1) := by decide +kernel
theorem dX5_commoner_98 : decode cX5_commoner 98 = .ok (.aload_n 0, 1) := by decide +kernel
theorem dX5_commoner_99 : decode cX5_commoner 99 = .ok (.getfield 12, 3) := by decide +kernel
theorem dX5_commoner_102 : decode cX5_commoner 102 = .ok (.getfield 80, 3) := by decide +kernel
theorem dX5_commoner_105 : decode cX5_commoner 105 = .ok (.iload_n 1, 1) := by decide +kernel
theorem dX5_commoner_106 : decode cX5_commoner 106 = .ok (.invokevirtual 112, 3) := by decide +kernel
theorem dX5_commoner_109 : decode cX5_commoner 109 = .ok (.ireturn, 1) := by decide +kernel
theorem dX5_commoner_110 : decode cX5_commoner 110 = .ok (.aload_n 0, 1) := by decide +kernel
theorem dX5_commoner_111 : decode cX5_commoner 111 = .ok (.getfield 12, 3) := by decide +kernel
theorem dX5_commoner_114 : decode cX5_commoner 114 = .ok (.getfield 55, 3) := by decide +kernel
theorem dX5_commoner_117 : decode cX5_commoner 117 = .ok (.iload_n 1, 1) := by decide +kernel
theorem dX5_commoner_118 : decode cX5_commoner 118 = .ok (.invokestatic 178, 3) := by decide +kernel
theorem dX5_commoner_121 : decode cX5_commoner 121 = .ok (.ireturn, 1) := by decide +kernel
theorem dX5_commoner_122 : decode cX5_commoner 122 = .ok (.aload_n 0, 1) := by decide +kernel
theorem dX5_commoner_123 : decode cX5_commoner 123 = .ok (.getfield 12, 3) := by decide +kernel
theorem dX5_commoner_126 : decode cX5_commoner 126 = .ok (.getfield 47, 3) := by decide +kernel
theorem dX5_commoner_129 : decode cX5_commoner 129 = .ok (.iload_n 1, 1) := by decide +kernel
theorem dX5_commoner_130 : decode cX5_commoner 130 = .ok (.invokestatic 178, 3) := by decide +kernel
theorem dX5_commoner_133 : decode cX5_commoner 133 = .ok (.ireturn, 1) := by decide +kernel
theorem dX5_commoner_134 : decode cX5_commoner 134 = .ok (.aload_n 0, 1) := by decide +kernel
theorem dX5_commoner_135 : decode cX5_commoner 135 = .ok (.getfield 12, 3) := by decide +kernel
theorem dX5_commoner_138 : decode cX5_commoner 138 = .ok (.getfield 135, 3) := by decide +kernel
theorem dX5_commoner_141 : decode cX5_commoner 141 = .ok (.iload_n 1, 1) := by decide +kernel
theorem dX5_commoner_142 : decode cX5_commoner 142 = .ok (.invokevirtual 182, 3) := by decide +kernel
theorem dX5_commoner_145 : decode cX5_commoner 145 = .ok (.ireturn, 1) := by decide +kernel
theorem dX5_commoner_146 : decode cX5_commoner 146 = .ok (.bipush (-2), 2) := by decide +kernel
theorem dX5_commoner_148 : decode cX5_commoner 148 = .ok (.ireturn, 1) := by decide +kernel
theorem dX5_plot_0 : decode cX5_plot 0 = .ok (.iload_n 1, 1) := by decide +kernel
theorem dX5_plot_1 : decode cX5_plot 1 = .ok (.invokestatic 40, 3) := by decide +kernel
theorem dX5_plot_4 : decode cX5_plot 4 = .ok (.ifCond .ne 5, 3) := by decide +kernel
theorem dX5_plot_7 : decode cX5_plot 7 = .ok (.iconst (-1), 1) := by decide +kernel
theorem dX5_plot_8 : decode cX5_plot 8 = .ok (.ireturn, 1) := by decide +kernel
theorem dX5_plot_9 : decode cX5_plot 9 = .ok (.iload_n 2, 1) := by decide +kernel
theorem dX5_plot_10 : decode cX5_plot 10 = .ok (.tableswitch 90 0 3 #[30, 40, 50, 60], 30) := by decide +kernel
theorem dX5_plot_40 : decode cX5_plot 40 = .ok (.aload_n 0, 1) := by decide +kernel
theorem dX5_plot_41 : decode cX5_plot 41 = .ok (.getfield 12, 3) := by decide +kernel
theorem dX5_plot_44 : decode cX5_plot 44 = .ok (.getfield 185, 3) := by decide +kernel
theorem dX5_plot_47 : decode cX5_plot 47 = .ok (.iload_n 1, 1) := by decide +kernel
theorem dX5_plot_48 : decode cX5_plot 48 = .ok (.iaload, 1) := by decide +kernel
theorem dX5_plot_49 : decode cX5_plot 49 = .ok (.ireturn, 1) := by decide +kernel
theorem dX5_plot_50 : decode cX5_plot 50 = .ok (.aload_n 0, 1) := by decide +kernel
theorem dX5_plot_51 : decode cX5_plot 51 = .ok (.getfield 12, 3) := by decide +kernel
theorem dX5_plot_54 : decode cX5_plot 54 = .ok (.getfield 55, 3) := by decide +kernel
theorem dX5_plot_57 : decode cX5_plot 57 = .ok (.iload_n 1, 1) := by decide +kernel
theorem dX5_plot_58 : decode cX5_plot 58 = .ok (.iaload, 1) := by decide +kernel
theorem dX5_plot_59 : decode cX5_plot 59 = .ok (.ireturn, 1) := by decide +kernel
theorem dX5_plot_60 : decode cX5_plot 60 = .ok (.aload_n 0, 1) := by decide +kernel
theorem dX5_plot_61 : decode cX5_plot 61 = .ok (.getfield 12, 3) := by decide +kernel
theorem dX5_plot_64 : decode cX5_plot 64 = .ok (.getfield 47, 3) := by decide +kernel
theorem dX5_plot_67 : decode cX5_plot 67 = .ok (.iload_n 1, 1) := by decide +kernel
theorem dX5_plot_68 : decode cX5_plot 68 = .ok (.iaload, 1) := by decide +kernel
theorem dX5_plot_69 : decode cX5_plot 69 = .ok (.ireturn, 1) := by decide +kernel
theorem dX5_plot_70 : decode cX5_plot 70 = .ok (.aload_n 0, 1) := by decide +kernel
theorem dX5_plot_71 : decode cX5_plot 71 = .ok (.getfield 12, 3) := by decide +kernel
theorem dX5_plot_74 : decode cX5_plot 74 = .ok (.getfield 47, 3) := by decide +kernel
theorem dX5_plot_77 : decode cX5_plot 77 = .ok (.iload_n 1, 1) := by decide +kernel
theorem dX5_plot_78 : decode cX5_plot 78 = .ok (.iaload, 1) := by decide +kernel
theorem dX5_plot_79 : decode cX5_plot 79 = .ok (.aload_n 0, 1) := by decide +kernel
theorem dX5_plot_80 : decode cX5_plot 80 = .ok (.getfield 12, 3) := by decide +kernel
theorem dX5_plot_83 : decode cX5_plot 83 = .ok (.getfield 55, 3) := by decide +kernel
theorem dX5_plot_86 : decode cX5_plot 86 = .ok (.iload_n 1, 1) := by decide +kernel
theorem dX5_plot_87 : decode cX5_plot 87 = .ok (.iaload, 1) := by decide +kernel
theorem dX5_plot_88 : decode cX5_plot 88 = .ok (.if_icmp .eq 7, 3) := by decide +kernel
theorem dX5_plot_91 : decode cX5_plot 91 = .ok (.iconst 1, 1) := by decide +kernel
theorem dX5_plot_92 : decode cX5_plot 92 = .ok (.goto 4, 3) := by decide +kernel
theorem dX5_plot_95 : decode cX5_plot 95 = .ok (.iconst 0, 1) := by decide +kernel
theorem dX5_plot_96 : decode cX5_plot 96 = .ok (.invokestatic 188, 3) := by decide +kernel
theorem dX5_plot_99 : decode cX5_plot 99 = .ok (.ireturn, 1) := by decide +kernel
theorem dX5_plot_100 : decode cX5_plot 100 = .ok (.bipush (-2), 2) := by decide +kernel
theorem dX5_plot_102 : decode cX5_plot 102 = .ok (.ireturn, 1) := by decide +kernel
theorem dX5_row_0 : decode cX5_row 0 = .ok (.aload_n 0, 1) := by decide +kernel
theorem dX5_row_1 : decode cX5_row 1 = .ok (.getfield 12, 3) := by decide +kernel
theorem dX5_row_4 : decode cX5_row 4 = .ok (.getfield 80, 3) := by decide +kernel
theorem dX5_row_7 : decode cX5_row 7 = .ok (.iload_n 1, 1) := by decide +kernel
theorem dX5_row_8 : decode cX5_row 8 = .ok (.invokevirtual 93, 3) := by decide +kernel
theorem dX5_row_11 : decode cX5_row 11 = .ok (.ifCond .ne 5, 3) := by decide +kernel
theorem dX5_row_14 : decode cX5_row 14 = .ok (.iconst (-1), 1) := by decide +kernel
theorem dX5_row_15 : decode cX5_row 15 = .ok (.ireturn, 1) := by decide +kernel
theorem dX5_row_16 : decode cX5_row 16 = .ok (.iload_n 2, 1) := by decide +kernel
theorem dX5_row_17 : decode cX5_row 17 = .ok (.tableswitch 141 0 6 #[43, 56, 69, 82, 98, 114, 129], 43) := by decide +kernel
theorem dX5_row_60 : decode cX5_row 60 = .ok (.aload_n 0, 1) := by decide +kernel
theorem dX5_row_61 : decode cX5_row 61 = .ok (.getfield 12, 3) := by decide +kernel
theorem dX5_row_64 : decode cX5_row 64 = .ok (.getfield 80, 3) := by decide +kernel
theorem dX5_row_67 : decode cX5_row 67 = .ok (.getfield 109, 3) := by decide +kernel
theorem dX5_row_70 : decode cX5_row 70 = .ok (.iload_n 1, 1) := by decide +kernel
theorem dX5_row_71 : decode cX5_row 71 = .ok (.iaload, 1) := by decide +kernel
theorem dX5_row_72 : decode cX5_row 72 = .ok (.ireturn, 1) := by decide +kernel
theorem dX5_row_73 : decode cX5_row 73 = .ok (.aload_n 0, 1) := by decide +kernel
theorem dX5_row_74 : decode cX5_row 74 = .ok (.getfield 12, 3) := by decide +kernel
theorem dX5_row_77 : decode cX5_row 77 = .ok (.getfield 80, 3) := by decide +kernel
theorem dX5_row_80 : decode cX5_row 80 = .ok (.getfield 192, 3) := by decide +kernel
theorem dX5_row_83 : decode cX5_row 83 = .ok (.iload_n 1, 1) := by decide +kernel
theorem dX5_row_84 : decode cX5_row 84 = .ok (.iaload, 1) := by decide +kernel
theorem dX5_row_85 : decode cX5_row 85 = .ok (.ireturn, 1) := by decide +kernel
theorem dX5_row_86 : decode cX5_row 86 = .ok (.aload_n 0, 1) := by decide +kernel
theorem dX5_row_87 : decode cX5_row 87 = .ok (.getfield 12, 3) := by decide +kernel
theorem dX5_row_90 : decode cX5_row 90 = .ok (.getfield 80, 3) := by decide +kernel
theorem dX5_row_93 : decode cX5_row 93 = .ok (.getfield 103, 3) := by decide +kernel
theorem dX5_row_96 : decode cX5_row 96 = .ok (.iload_n 1, 1) := by decide +kernel
theorem dX5_row_97 : decode cX5_row 97 = .ok (.iaload, 1) := by decide +kernel
theorem dX5_row_98 : decode cX5_row 98 = .ok (.ireturn, 1) := by decide +kernel
theorem dX5_row_99 : decode cX5_row 99 = .ok (.aload_n 0, 1) := by decide +kernel
theorem dX5_row_100 : decode cX5_row 100 = .ok (.getfield 12, 3) := by decide +kernel
theorem dX5_row_103 : decode cX5_row 103 = .ok (.getfield 80, 3) := by decide +kernel
theorem dX5_row_106 : decode cX5_row 106 = .ok (.getfield 100, 3) := by decide +kernel
theorem dX5_row_109 : decode cX5_row 109 = .ok (.iload_n 1, 1) := by decide +kernel
theorem dX5_row_110 : decode cX5_row 110 = .ok (.baload, 1) := by decide +kernel
theorem dX5_row_111 : decode cX5_row 111 = .ok (.invokestatic 188, 3) := by decide +kernel
theorem dX5_row_114 : decode cX5_row 114 = .ok (.ireturn, 1) := by decide +kernel
theorem dX5_row_115 : decode cX5_row 115 = .ok (.aload_n 0, 1) := by decide +kernel
theorem dX5_row_116 : decode cX5_row 116 = .ok (.getfield 12, 3) := by decide +kernel
theorem dX5_row_119 : decode cX5_row 119 = .ok (.getfield 80, 3) := by decide +kernel
theorem dX5_row_122 : decode cX5_row 122 = .ok (.getfield 96, 3) := by decide +kernel
theorem dX5_row_125 : decode cX5_row 125 = .ok (.iload_n 1, 1) := by decide +kernel
theorem dX5_row_126 : decode cX5_row 126 = .ok (.baload, 1) := by decide +kernel
theorem dX5_row_127 : decode cX5_row 127 = .ok (.invokestatic 188, 3) := by decide +kernel
theorem dX5_row_130 : decode cX5_row 130 = .ok (.ireturn, 1) := by decide +kernel
theorem dX5_row_131 : decode cX5_row 131 = .ok (.aload_n 0, 1) := by decide +kernel
theorem dX5_row_132 : decode cX5_row 132 = .ok (.getfield 12, 3) := by decide +kernel
theorem dX5_row_135 : decode cX5_row 135 = .ok (.getfield 80, 3) := by decide +kernel
theorem dX5_row_138 : decode cX5_row 138 = .ok (.iload_n 1, 1) := by decide +kernel
theorem dX5_row_139 : decode cX5_row 139 = .ok (.invokevirtual 106, 3) := by decide +kernel
theorem dX5_row_142 : decode cX5_row 142 = .ok (.invokestatic 188, 3) := by decide +kernel
theorem dX5_row_145 : decode cX5_row 145 = .ok (.ireturn, 1) := by decide +kernel
theorem dX5_row_146 : decode cX5_row 146 = .ok (.aload_n 0, 1) := by decide +kernel
theorem dX5_row_147 : decode cX5_row 147 = .ok (.getfield 12, 3) := by decide +kernel
theorem dX5_row_150 : decode cX5_row 150 = .ok (.getfield 80, 3) := by decide +kernel
theorem dX5_row_153 : decode cX5_row 153 = .ok (.iload_n 1, 1) := by decide +kernel
theorem dX5_row_154 : decode cX5_row 154 = .ok (.invokevirtual 195, 3) := by decide +kernel
theorem dX5_row_157 : decode cX5_row 157 = .ok (.ireturn, 1) := by decide +kernel
theorem dX5_row_158 : decode cX5_row 158 = .ok (.bipush (-2), 2) := by decide +kernel
theorem dX5_row_160 : decode cX5_row 160 = .ok (.ireturn, 1) := by decide +kernel
theorem dX5_driest_0 : decode cX5_driest 0 = .ok (.iload_n 1, 1) := by decide +kernel
theorem dX5_driest_1 : decode cX5_driest 1 = .ok (.invokestatic 44, 3) := by decide +kernel
theorem dX5_driest_4 : decode cX5_driest 4 = .ok (.ifCond .ne 5, 3) := by decide +kernel
theorem dX5_driest_7 : decode cX5_driest 7 = .ok (.iconst (-1), 1) := by decide +kernel
theorem dX5_driest_8 : decode cX5_driest 8 = .ok (.ireturn, 1) := by decide +kernel
theorem dX5_driest_9 : decode cX5_driest 9 = .ok (.iload_n 2, 1) := by decide +kernel
theorem dX5_driest_10 : decode cX5_driest 10 = .ok (.ifCond .ge 6, 3) := by decide +kernel
theorem dX5_driest_13 : decode cX5_driest 13 = .ok (.bipush (-2), 2) := by decide +kernel
theorem dX5_driest_15 : decode cX5_driest 15 = .ok (.ireturn, 1) := by decide +kernel
theorem dX5_driest_16 : decode cX5_driest 16 = .ok (.aload_n 0, 1) := by decide +kernel
theorem dX5_driest_17 : decode cX5_driest 17 = .ok (.getfield 12, 3) := by decide +kernel
theorem dX5_driest_20 : decode cX5_driest 20 = .ok (.getfield 80, 3) := by decide +kernel
theorem dX5_driest_23 : decode cX5_driest 23 = .ok (.iload_n 1, 1) := by decide +kernel
theorem dX5_driest_24 : decode cX5_driest 24 = .ok (.iload_n 2, 1) := by decide +kernel
theorem dX5_driest_25 : decode cX5_driest 25 = .ok (.invokevirtual 198, 3) := by decide +kernel
theorem dX5_driest_28 : decode cX5_driest 28 = .ok (.ireturn, 1) := by decide +kernel
theorem dX5_why_0 : decode cX5_why 0 = .ok (.iload_n 1, 1) := by decide +kernel
theorem dX5_why_1 : decode cX5_why 1 = .ok (.invokestatic 44, 3) := by decide +kernel
theorem dX5_why_4 : decode cX5_why 4 = .ok (.ifCond .eq 10, 3) := by decide +kernel
theorem dX5_why_7 : decode cX5_why 7 = .ok (.iload_n 2, 1) := by decide +kernel
theorem dX5_why_8 : decode cX5_why 8 = .ok (.invokestatic 40, 3) := by decide +kernel
theorem dX5_why_11 : decode cX5_why 11 = .ok (.ifCond .ne 5, 3) := by decide +kernel
theorem dX5_why_14 : decode cX5_why 14 = .ok (.iconst (-1), 1) := by decide +kernel
theorem dX5_why_15 : decode cX5_why 15 = .ok (.ireturn, 1) := by decide +kernel
theorem dX5_why_16 : decode cX5_why 16 = .ok (.aload_n 0, 1) := by decide +kernel
theorem dX5_why_17 : decode cX5_why 17 = .ok (.getfield 12, 3) := by decide +kernel
theorem dX5_why_20 : decode cX5_why 20 = .ok (.iload_n 1, 1) := by decide +kernel
theorem dX5_why_21 : decode cX5_why 21 = .ok (.iload_n 2, 1) := by decide +kernel
theorem dX5_why_22 : decode cX5_why 22 = .ok (.invokevirtual 76, 3) := by decide +kernel
theorem dX5_why_25 : decode cX5_why 25 = .ok (.ireturn, 1) := by decide +kernel
theorem dX5_dispute_0 : decode cX5_dispute 0 = .ok (.iload_n 1, 1) := by decide +kernel
theorem dX5_dispute_1 : decode cX5_dispute 1 = .ok (.ifCond .lt 12, 3) := by decide +kernel
theorem dX5_dispute_4 : decode cX5_dispute 4 = .ok (.iload_n 2, 1) := by decide +kernel
theorem dX5_dispute_5 : decode cX5_dispute 5 = .ok (.iconst 0, 1) := by decide +kernel
theorem dX5_dispute_6 : decode cX5_dispute 6 = .ok (.iconst 3, 1) := by decide +kernel
theorem dX5_dispute_7 : decode cX5_dispute 7 = .ok (.invokestatic 58, 3) := by decide +kernel
theorem dX5_dispute_10 : decode cX5_dispute 10 = .ok (.ifCond .ne 6, 3) := by decide +kernel
theorem dX5_dispute_13 : decode cX5_dispute 13 = .ok (.bipush (-2), 2) := by decide +kernel
theorem dX5_dispute_15 : decode cX5_dispute 15 = .ok (.ireturn, 1) := by decide +kernel
theorem dX5_dispute_16 : decode cX5_dispute 16 = .ok (.iload_n 1, 1) := by decide +kernel
theorem dX5_dispute_17 : decode cX5_dispute 17 = .ok (.aload_n 0, 1) := by decide +kernel
theorem dX5_dispute_18 : decode cX5_dispute 18 = .ok (.getfield 12, 3) := by decide +kernel
theorem dX5_dispute_21 : decode cX5_dispute 21 = .ok (.getfield 135, 3) := by decide +kernel
theorem dX5_dispute_24 : decode cX5_dispute 24 = .ok (.invokevirtual 139, 3) := by decide +kernel
theorem dX5_dispute_27 : decode cX5_dispute 27 = .ok (.if_icmp .lt 6, 3) := by decide +kernel
theorem dX5_dispute_30 : decode cX5_dispute 30 = .ok (.bipush (-5), 2) := by decide +kernel
theorem dX5_dispute_32 : decode cX5_dispute 32 = .ok (.ireturn, 1) := by decide +kernel
theorem dX5_dispute_33 : decode cX5_dispute 33 = .ok (.aload_n 0, 1) := by decide +kernel
theorem dX5_dispute_34 : decode cX5_dispute 34 = .ok (.getfield 12, 3) := by decide +kernel
theorem dX5_dispute_37 : decode cX5_dispute 37 = .ok (.getfield 135, 3) := by decide +kernel
theorem dX5_dispute_40 : decode cX5_dispute 40 = .ok (.getfield 201, 3) := by decide +kernel
theorem dX5_dispute_43 : decode cX5_dispute 43 = .ok (.iload_n 1, 1) := by decide +kernel
theorem dX5_dispute_44 : decode cX5_dispute 44 = .ok (.iadd, 1) := by decide +kernel
theorem dX5_dispute_45 : decode cX5_dispute 45 = .ok (.istore_n 3, 1) := by decide +kernel
theorem dX5_dispute_46 : decode cX5_dispute 46 = .ok (.iload_n 2, 1) := by decide +kernel
theorem dX5_dispute_47 : decode cX5_dispute 47 = .ok (.tableswitch 64 0 2 #[25, 38, 51], 25) := by decide +kernel
theorem dX5_dispute_72 : decode cX5_dispute 72 = .ok (.aload_n 0, 1) := by decide +kernel
theorem dX5_dispute_73 : decode cX5_dispute 73 = .ok (.getfield 12, 3) := by decide +kernel
theorem dX5_dispute_76 : decode cX5_dispute 76 = .ok (.getfield 135, 3) := by decide +kernel
theorem dX5_dispute_79 : decode cX5_dispute 79 = .ok (.getfield 204, 3) := by decide +kernel
theorem dX5_dispute_82 : decode cX5_dispute 82 = .ok (.iload_n 3, 1) := by decide +kernel
theorem dX5_dispute_83 : decode cX5_dispute 83 = .ok (.iaload, 1) := by decide +kernel
theorem dX5_dispute_84 : decode cX5_dispute 84 = .ok (.ireturn, 1) := by decide +kernel
theorem dX5_dispute_85 : decode cX5_dispute 85 = .ok (.aload_n 0, 1) := by decide +kernel
theorem dX5_dispute_86 : decode cX5_dispute 86 = .ok (.getfield 12, 3) := by decide +kernel
theorem dX5_dispute_89 : decode cX5_dispute 89 = .ok (.getfield 135, 3) := by decide +kernel
theorem dX5_dispute_92 : decode cX5_dispute 92 = .ok (.getfield 207, 3) := by decide +kernel
theorem dX5_dispute_95 : decode cX5_dispute 95 = .ok (.iload_n 3, 1) := by decide +kernel
theorem dX5_dispute_96 : decode cX5_dispute 96 = .ok (.iaload, 1) := by decide +kernel
theorem dX5_dispute_97 : decode cX5_dispute 97 = .ok (.ireturn, 1) := by decide +kernel
theorem dX5_dispute_98 : decode cX5_dispute 98 = .ok (.aload_n 0, 1) := by decide +kernel
theorem dX5_dispute_99 : decode cX5_dispute 99 = .ok (.getfield 12, 3) := by decide +kernel
theorem dX5_dispute_102 : decode cX5_dispute 102 = .ok (.getfield 135, 3) := by decide +kernel
theorem dX5_dispute_105 : decode cX5_dispute 105 = .ok (.getfield 210, 3) := by decide +kernel
theorem dX5_dispute_108 : decode cX5_dispute 108 = .ok (.iload_n 3, 1) := by decide +kernel
theorem dX5_dispute_109 : decode cX5_dispute 109 = .ok (.iaload, 1) := by decide +kernel
theorem dX5_dispute_110 : decode cX5_dispute 110 = .ok (.ireturn, 1) := by decide +kernel
theorem dX5_dispute_111 : decode cX5_dispute 111 = .ok (.aload_n 0, 1) := by decide +kernel
theorem dX5_dispute_112 : decode cX5_dispute 112 = .ok (.getfield 12, 3) := by decide +kernel
theorem dX5_dispute_115 : decode cX5_dispute 115 = .ok (.getfield 135, 3) := by decide +kernel
theorem dX5_dispute_118 : decode cX5_dispute 118 = .ok (.getfield 213, 3) := by decide +kernel
theorem dX5_dispute_121 : decode cX5_dispute 121 = .ok (.iload_n 3, 1) := by decide +kernel
theorem dX5_dispute_122 : decode cX5_dispute 122 = .ok (.iaload, 1) := by decide +kernel
theorem dX5_dispute_123 : decode cX5_dispute 123 = .ok (.ireturn, 1) := by decide +kernel
theorem dX5_cart_0 : decode cX5_cart 0 = .ok (.iload_n 1, 1) := by decide +kernel
theorem dX5_cart_1 : decode cX5_cart 1 = .ok (.iconst 0, 1) := by decide +kernel
theorem dX5_cart_2 : decode cX5_cart 2 = .ok (.iconst 1, 1) := by decide +kernel
theorem dX5_cart_3 : decode cX5_cart 3 = .ok (.invokestatic 58, 3) := by decide +kernel
theorem dX5_cart_6 : decode cX5_cart 6 = .ok (.ifCond .ne 5, 3) := by decide +kernel
theorem dX5_cart_9 : decode cX5_cart 9 = .ok (.iconst (-1), 1) := by decide +kernel
theorem dX5_cart_10 : decode cX5_cart 10 = .ok (.ireturn, 1) := by decide +kernel
theorem dX5_cart_11 : decode cX5_cart 11 = .ok (.aload_n 0, 1) := by decide +kernel
theorem dX5_cart_12 : decode cX5_cart 12 = .ok (.getfield 12, 3) := by decide +kernel
theorem dX5_cart_15 : decode cX5_cart 15 = .ok (.iload_n 1, 1) := by decide +kernel
theorem dX5_cart_16 : decode cX5_cart 16 = .ok (.invokevirtual 214, 3) := by decide +kernel
theorem dX5_cart_19 : decode cX5_cart 19 = .ok (.ireturn, 1) := by decide +kernel
theorem dX5_would_0 : decode cX5_would 0 = .ok (.iload_n 1, 1) := by decide +kernel
theorem dX5_would_1 : decode cX5_would 1 = .ok (.iconst 1, 1) := by decide +kernel
theorem dX5_would_2 : decode cX5_would 2 = .ok (.bipush 60, 2) := by decide +kernel
theorem dX5_would_4 : decode cX5_would 4 = .ok (.invokestatic 58, 3) := by decide +kernel
theorem dX5_would_7 : decode cX5_would 7 = .ok (.ifCond .eq 10, 3) := by decide +kernel
theorem dX5_would_10 : decode cX5_would 10 = .ok (.iload_n 2, 1) := by decide +kernel
theorem dX5_would_11 : decode cX5_would 11 = .ok (.invokestatic 116, 3) := by decide +kernel
theorem dX5_would_14 : decode cX5_would 14 = .ok (.ifCond .ne 6, 3) := by decide +kernel
theorem dX5_would_17 : decode cX5_would 17 = .ok (.bipush (-2), 2) := by decide +kernel
theorem dX5_would_19 : decode cX5_would 19 = .ok (.ireturn, 1) := by decide +kernel
theorem dX5_would_20 : decode cX5_would 20 = .ok (.aload_n 0, 1) := by decide +kernel
theorem dX5_would_21 : decode cX5_would 21 = .ok (.getfield 19, 3) := by decide +kernel
theorem dX5_would_24 : decode cX5_would 24 = .ok (.aload_n 0, 1) := by decide +kernel
theorem dX5_would_25 : decode cX5_would 25 = .ok (.getfield 12, 3) := by decide +kernel
theorem dX5_would_28 : decode cX5_would 28 = .ok (.invokevirtual 163, 3) := by decide +kernel
theorem dX5_would_31 : decode cX5_would 31 = .ok (.aload_n 0, 1) := by decide +kernel
theorem dX5_would_32 : decode cX5_would 32 = .ok (.getfield 19, 3) := by decide +kernel
theorem dX5_would_35 : decode cX5_would 35 = .ok (.iload_n 1, 1) := by decide +kernel
theorem dX5_would_36 : decode cX5_would 36 = .ok (.iload_n 2, 1) := by decide +kernel
theorem dX5_would_37 : decode cX5_would 37 = .ok (.invokevirtual 119, 3) := by decide +kernel
theorem dX5_would_40 : decode cX5_would 40 = .ok (.ireturn, 1) := by decide +kernel
theorem dX5_count_0 : decode cX5_count 0 = .ok (.iload_n 1, 1) := by decide +kernel
theorem dX5_count_1 : decode cX5_count 1 = .ok (.tableswitch 219 0 14 #[75, 83, 91, 102, 113, 124, 135, 143, 154, 165, 176, 187, 195, 203, 211], 75) := by decide +kernel
theorem dX5_count_76 : decode cX5_count 76 = .ok (.aload_n 0, 1) := by decide +kernel
theorem dX5_count_77 : decode cX5_count 77 = .ok (.getfield 12, 3) := by decide +kernel
theorem dX5_count_80 : decode cX5_count 80 = .ok (.getfield 217, 3) := by decide +kernel
theorem dX5_count_83 : decode cX5_count 83 = .ok (.ireturn, 1) := by decide +kernel
theorem dX5_count_84 : decode cX5_count 84 = .ok (.aload_n 0, 1) := by decide +kernel
theorem dX5_count_85 : decode cX5_count 85 = .ok (.getfield 12, 3) := by decide +kernel
theorem dX5_count_88 : decode cX5_count 88 = .ok (.getfield 220, 3) := by decide +kernel
theorem dX5_count_91 : decode cX5_count 91 = .ok (.ireturn, 1) := by decide +kernel
theorem dX5_count_92 : decode cX5_count 92 = .ok (.aload_n 0, 1) := by decide +kernel
theorem dX5_count_93 : decode cX5_count 93 = .ok (.getfield 12, 3) := by decide +kernel
theorem dX5_count_96 : decode cX5_count 96 = .ok (.getfield 80, 3) := by decide +kernel
theorem dX5_count_99 : decode cX5_count 99 = .ok (.invokevirtual 166, 3) := by decide +kernel
theorem dX5_count_102 : decode cX5_count 102 = .ok (.ireturn, 1) := by decide +kernel
theorem dX5_count_103 : decode cX5_count 103 = .ok (.aload_n 0, 1) := by decide +kernel
theorem dX5_count_104 : decode cX5_count 104 = .ok (.getfield 12, 3) := by decide +kernel
theorem dX5_count_107 : decode cX5_count 107 = .ok (.getfield 80, 3) := by decide +kernel
theorem dX5_count_110 : decode cX5_count 110 = .ok (.getfield 223, 3) := by decide +kernel
theorem dX5_count_113 : decode cX5_count 113 = .ok (.ireturn, 1) := by decide +kernel
theorem dX5_count_114 : decode cX5_count 114 = .ok (.aload_n 0, 1) := by decide +kernel
theorem dX5_count_115 : decode cX5_count 115 = .ok (.getfield 12, 3) := by decide +kernel
theorem dX5_count_118 : decode cX5_count 118 = .ok (.getfield 80, 3) := by decide +kernel
theorem dX5_count_121 : decode cX5_count 121 = .ok (.invokevirtual 226, 3) := by decide +kernel
theorem dX5_count_124 : decode cX5_count 124 = .ok (.ireturn, 1) := by decide +kernel
theorem dX5_count_125 : decode cX5_count 125 = .ok (.aload_n 0, 1) := by decide +kernel
theorem dX5_count_126 : decode cX5_count 126 = .ok (.getfield 12, 3) := by decide +kernel
theorem dX5_count_129 : decode cX5_count 129 = .ok (.getfield 80, 3) := by decide +kernel
theorem dX5_count_132 : decode cX5_count 132 = .ok (.invokevirtual 229, 3) := by decide +kernel
theorem dX5_count_135 : decode cX5_count 135 = .ok (.ireturn, 1) := by decide +kernel
theorem dX5_count_136 : decode cX5_count 136 = .ok (.aload_n 0, 1) := by decide +kernel
theorem dX5_count_137 : decode cX5_count 137 = .ok (.getfield 12, 3) := by decide +kernel
theorem dX5_count_140 : decode cX5_count 140 = .ok (.getfield 232, 3) := by decide +kernel
theorem dX5_count_143 : decode cX5_count 143 = .ok (.ireturn, 1) := by decide +kernel
theorem dX5_count_144 : decode cX5_count 144 = .ok (.aload_n 0, 1) := by decide +kernel
theorem dX5_count_145 : decode cX5_count 145 = .ok (.getfield 12, 3) := by decide +kernel
theorem dX5_count_148 : decode cX5_count 148 = .ok (.getfield 172, 3) := by decide +kernel
theorem dX5_count_151 : decode cX5_count 151 = .ok (.invokestatic 235, 3) := by decide +kernel
theorem dX5_count_154 : decode cX5_count 154 = .ok (.ireturn, 1) := by decide +kernel
theorem dX5_count_155 : decode cX5_count 155 = .ok (.aload_n 0, 1) := by decide +kernel
theorem dX5_count_156 : decode cX5_count 156 = .ok (.getfield 12, 3) := by decide +kernel
theorem dX5_count_159 : decode cX5_count 159 = .ok (.getfield 185, 3) := by decide +kernel
theorem dX5_count_162 : decode cX5_count 162 = .ok (.invokestatic 235, 3) := by decide +kernel
theorem dX5_count_165 : decode cX5_count 165 = .ok (.ireturn, 1) := by decide +kernel
theorem dX5_count_166 : decode cX5_count 166 = .ok (.aload_n 0, 1) := by decide +kernel
theorem dX5_count_167 : decode cX5_count 167 = .ok (.getfield 12, 3) := by decide +kernel
theorem dX5_count_170 : decode cX5_count 170 = .ok (.getfield 135, 3) := by decide +kernel
theorem dX5_count_173 : decode cX5_count 173 = .ok (.invokevirtual 139, 3) := by decide +kernel
theorem dX5_count_176 : decode cX5_count 176 = .ok (.ireturn, 1) := by decide +kernel
theorem dX5_count_177 : decode cX5_count 177 = .ok (.aload_n 0, 1) := by decide +kernel
theorem dX5_count_178 : decode cX5_count 178 = .ok (.getfield 12, 3) := by decide +kernel
theorem dX5_count_181 : decode cX5_count 181 = .ok (.getfield 135, 3) := by decide +kernel
theorem dX5_count_184 : decode cX5_count 184 = .ok (.getfield 239, 3) := by decide +kernel
theorem dX5_count_187 : decode cX5_count 187 = .ok (.ireturn, 1) := by decide +kernel
theorem dX5_count_188 : decode cX5_count 188 = .ok (.aload_n 0, 1) := by decide +kernel
theorem dX5_count_189 : decode cX5_count 189 = .ok (.getfield 12, 3) := by decide +kernel
theorem dX5_count_192 : decode cX5_count 192 = .ok (.getfield 69, 3) := by decide +kernel
theorem dX5_count_195 : decode cX5_count 195 = .ok (.ireturn, 1) := by decide +kernel
theorem dX5_count_196 : decode cX5_count 196 = .ok (.aload_n 0, 1) := by decide +kernel
theorem dX5_count_197 : decode cX5_count 197 = .ok (.getfield 12, 3) := by decide +kernel
theorem dX5_count_200 : decode cX5_count 200 = .ok (.getfield 73, 3) := by decide +kernel
theorem dX5_count_203 : decode cX5_count 203 = .ok (.ireturn, 1) := by decide +kernel
theorem dX5_count_204 : decode cX5_count 204 = .ok (.aload_n 0, 1) := by decide +kernel
theorem dX5_count_205 : decode cX5_count 205 = .ok (.getfield 25, 3) := by decide +kernel
theorem dX5_count_208 : decode cX5_count 208 = .ok (.getfield 157, 3) := by decide +kernel
theorem dX5_count_211 : decode cX5_count 211 = .ok (.ireturn, 1) := by decide +kernel
theorem dX5_count_212 : decode cX5_count 212 = .ok (.aload_n 0, 1) := by decide +kernel
theorem dX5_count_213 : decode cX5_count 213 = .ok (.getfield 32, 3) := by decide +kernel
theorem dX5_count_216 : decode cX5_count 216 = .ok (.getfield 154, 3) := by decide +kernel
theorem dX5_count_219 : decode cX5_count 219 = .ok (.ireturn, 1) := by decide +kernel
theorem dX5_count_220 : decode cX5_count 220 = .ok (.bipush (-2), 2) := by decide +kernel
theorem dX5_count_222 : decode cX5_count 222 = .ok (.ireturn, 1) := by decide +kernel
theorem dX5_isWithin_0 : decode cX5_isWithin 0 = .ok (.iload_n 0, 1) := by decide +kernel
theorem dX5_isWithin_1 : decode cX5_isWithin 1 = .ok (.iload_n 1, 1) := by decide +kernel
theorem dX5_isWithin_2 : decode cX5_isWithin 2 = .ok (.if_icmp .lt 12, 3) := by decide +kernel
theorem dX5_isWithin_5 : decode cX5_isWithin 5 = .ok (.iload_n 0, 1) := by decide +kernel
theorem dX5_isWithin_6 : decode cX5_isWithin 6 = .ok (.iload_n 2, 1) := by decide +kernel
theorem dX5_isWithin_7 : decode cX5_isWithin 7 = .ok (.if_icmp .gt 7, 3) := by decide +kernel
theorem dX5_isWithin_10 : decode cX5_isWithin 10 = .ok (.iconst 1, 1) := by decide +kernel
theorem dX5_isWithin_11 : decode cX5_isWithin 11 = .ok (.goto 4, 3) := by decide +kernel
theorem dX5_isWithin_14 : decode cX5_isWithin 14 = .ok (.iconst 0, 1) := by decide +kernel
theorem dX5_isWithin_15 : decode cX5_isWithin 15 = .ok (.ireturn, 1) := by decide +kernel
theorem dX5_isCommoner_0 : decode cX5_isCommoner 0 = .ok (.iload_n 0, 1) := by decide +kernel
theorem dX5_isCommoner_1 : decode cX5_isCommoner 1 = .ok (.iconst 0, 1) := by decide +kernel
theorem dX5_isCommoner_2 : decode cX5_isCommoner 2 = .ok (.bipush 9, 2) := by decide +kernel
theorem dX5_isCommoner_4 : decode cX5_isCommoner 4 = .ok (.invokestatic 58, 3) := by decide +kernel
theorem dX5_isCommoner_7 : decode cX5_isCommoner 7 = .ok (.ireturn, 1) := by decide +kernel
theorem dX5_isPlot_0 : decode cX5_isPlot 0 = .ok (.iload_n 0, 1) := by decide +kernel
theorem dX5_isPlot_1 : decode cX5_isPlot 1 = .ok (.iconst 0, 1) := by decide +kernel
theorem dX5_isPlot_2 : decode cX5_isPlot 2 = .ok (.bipush 19, 2) := by decide +kernel
theorem dX5_isPlot_4 : decode cX5_isPlot 4 = .ok (.invokestatic 58, 3) := by decide +kernel
theorem dX5_isPlot_7 : decode cX5_isPlot 7 = .ok (.ireturn, 1) := by decide +kernel
theorem dX5_isWeather_0 : decode cX5_isWeather 0 = .ok (.iload_n 0, 1) := by decide +kernel
theorem dX5_isWeather_1 : decode cX5_isWeather 1 = .ok (.iconst 0, 1) := by decide +kernel
theorem dX5_isWeather_2 : decode cX5_isWeather 2 = .ok (.iconst 2, 1) := by decide +kernel
theorem dX5_isWeather_3 : decode cX5_isWeather 3 = .ok (.invokestatic 58, 3) := by decide +kernel
theorem dX5_isWeather_6 : decode cX5_isWeather 6 = .ok (.ireturn, 1) := by decide +kernel
theorem dX5_isSettingValue_0 : decode cX5_isSettingValue 0 = .ok (.iload_n 0, 1) := by decide +kernel
theorem dX5_isSettingValue_1 : decode cX5_isSettingValue 1 = .ok (.ifCond .ne 11, 3) := by decide +kernel
theorem dX5_isSettingValue_4 : decode cX5_isSettingValue 4 = .ok (.iload_n 1, 1) := by decide +kernel
theorem dX5_isSettingValue_5 : decode cX5_isSettingValue 5 = .ok (.iconst 1, 1) := by decide +kernel
theorem dX5_isSettingValue_6 : decode cX5_isSettingValue 6 = .ok (.bipush 6, 2) := by decide +kernel
theorem dX5_isSettingValue_8 : decode cX5_isSettingValue 8 = .ok (.invokestatic 58, 3) := by decide +kernel
theorem dX5_isSettingValue_11 : decode cX5_isSettingValue 11 = .ok (.ireturn, 1) := by decide +kernel
theorem dX5_isSettingValue_12 : decode cX5_isSettingValue 12 = .ok (.iload_n 0, 1) := by decide +kernel
theorem dX5_isSettingValue_13 : decode cX5_isSettingValue 13 = .ok (.iconst 1, 1) := by decide +kernel
theorem dX5_isSettingValue_14 : decode cX5_isSettingValue 14 = .ok (.if_icmp .ne 16, 3) := by decide +kernel
theorem dX5_isSettingValue_17 : decode cX5_isSettingValue 17 = .ok (.iload_n 1, 1) := by decide +kernel
theorem dX5_isSettingValue_18 : decode cX5_isSettingValue 18 = .ok (.iconst 0, 1) := by decide +kernel
theorem dX5_isSettingValue_19 : decode cX5_isSettingValue 19 = .ok (.iconst 1, 1) := by decide +kernel
theorem dX5_isSettingValue_20 : decode cX5_isSettingValue 20 = .ok (.invokestatic 58, 3) := by decide +kernel
theorem dX5_isSettingValue_23 : decode cX5_isSettingValue 23 = .ok (.ifCond .eq 7, 3) := by decide +kernel
theorem dX5_isSettingValue_26 : decode cX5_isSettingValue 26 = .ok (.iconst 1, 1) := by decide +kernel
theorem dX5_isSettingValue_27 : decode cX5_isSettingValue 27 = .ok (.goto 4, 3) := by decide +kernel
theorem dX5_isSettingValue_30 : decode cX5_isSettingValue 30 = .ok (.iconst 0, 1) := by decide +kernel
theorem dX5_isSettingValue_31 : decode cX5_isSettingValue 31 = .ok (.ireturn, 1) := by decide +kernel
theorem dX5_oneIf_0 : decode cX5_oneIf 0 = .ok (.iload_n 0, 1) := by decide +kernel
theorem dX5_oneIf_1 : decode cX5_oneIf 1 = .ok (.ifCond .eq 7, 3) := by decide +kernel
theorem dX5_oneIf_4 : decode cX5_oneIf 4 = .ok (.iconst 1, 1) := by decide +kernel
theorem dX5_oneIf_5 : decode cX5_oneIf 5 = .ok (.goto 4, 3) := by decide +kernel
theorem dX5_oneIf_8 : decode cX5_oneIf 8 = .ok (.iconst 0, 1) := by decide +kernel
theorem dX5_oneIf_9 : decode cX5_oneIf 9 = .ok (.ireturn, 1) := by decide +kernel
theorem dX5_countEqual_0 : decode cX5_countEqual 0 = .ok (.iconst 0, 1) := by decide +kernel
theorem dX5_countEqual_1 : decode cX5_countEqual 1 = .ok (.istore_n 2, 1) := by decide +kernel
theorem dX5_countEqual_2 : decode cX5_countEqual 2 = .ok (.aload_n 0, 1) := by decide +kernel
theorem dX5_countEqual_3 : decode cX5_countEqual 3 = .ok (.astore_n 3, 1) := by decide +kernel
theorem dX5_countEqual_4 : decode cX5_countEqual 4 = .ok (.aload_n 3, 1) := by decide +kernel
theorem dX5_countEqual_5 : decode cX5_countEqual 5 = .ok (.arraylength, 1) := by decide +kernel
theorem dX5_countEqual_6 : decode cX5_countEqual 6 = .ok (.istore 4, 2) := by decide +kernel
theorem dX5_countEqual_8 : decode cX5_countEqual 8 = .ok (.iconst 0, 1) := by decide +kernel
theorem dX5_countEqual_9 : decode cX5_countEqual 9 = .ok (.istore 5, 2) := by decide +kernel
theorem dX5_countEqual_11 : decode cX5_countEqual 11 = .ok (.iload 5, 2) := by decide +kernel
theorem dX5_countEqual_13 : decode cX5_countEqual 13 = .ok (.iload 4, 2) := by decide +kernel
theorem dX5_countEqual_15 : decode cX5_countEqual 15 = .ok (.if_icmp .ge 32, 3) := by decide +kernel
theorem dX5_countEqual_18 : decode cX5_countEqual 18 = .ok (.aload_n 3, 1) := by decide +kernel
theorem dX5_countEqual_19 : decode cX5_countEqual 19 = .ok (.iload 5, 2) := by decide +kernel
theorem dX5_countEqual_21 : decode cX5_countEqual 21 = .ok (.iaload, 1) := by decide +kernel
theorem dX5_countEqual_22 : decode cX5_countEqual 22 = .ok (.istore 6, 2) := by decide +kernel
theorem dX5_countEqual_24 : decode cX5_countEqual 24 = .ok (.iload_n 2, 1) := by decide +kernel
theorem dX5_countEqual_25 : decode cX5_countEqual 25 = .ok (.iload 6, 2) := by decide +kernel
theorem dX5_countEqual_27 : decode cX5_countEqual 27 = .ok (.iload_n 1, 1) := by decide +kernel
theorem dX5_countEqual_28 : decode cX5_countEqual 28 = .ok (.if_icmp .ne 7, 3) := by decide +kernel
theorem dX5_countEqual_31 : decode cX5_countEqual 31 = .ok (.iconst 1, 1) := by decide +kernel
theorem dX5_countEqual_32 : decode cX5_countEqual 32 = .ok (.goto 4, 3) := by decide +kernel
theorem dX5_countEqual_35 : decode cX5_countEqual 35 = .ok (.iconst 0, 1) := by decide +kernel
theorem dX5_countEqual_36 : decode cX5_countEqual 36 = .ok (.invokestatic 188, 3) := by decide +kernel
theorem dX5_countEqual_39 : decode cX5_countEqual 39 = .ok (.iadd, 1) := by decide +kernel
theorem dX5_countEqual_40 : decode cX5_countEqual 40 = .ok (.istore_n 2, 1) := by decide +kernel
theorem dX5_countEqual_41 : decode cX5_countEqual 41 = .ok (.iinc 5 1, 3) := by decide +kernel
theorem dX5_countEqual_44 : decode cX5_countEqual 44 = .ok (.goto (-33), 3) := by decide +kernel
theorem dX5_countEqual_47 : decode cX5_countEqual 47 = .ok (.iload_n 2, 1) := by decide +kernel
theorem dX5_countEqual_48 : decode cX5_countEqual 48 = .ok (.ireturn, 1) := by decide +kernel
theorem dX5_sumOf_0 : decode cX5_sumOf 0 = .ok (.iconst 0, 1) := by decide +kernel
theorem dX5_sumOf_1 : decode cX5_sumOf 1 = .ok (.istore_n 1, 1) := by decide +kernel
theorem dX5_sumOf_2 : decode cX5_sumOf 2 = .ok (.aload_n 0, 1) := by decide +kernel
theorem dX5_sumOf_3 : decode cX5_sumOf 3 = .ok (.astore_n 2, 1) := by decide +kernel
theorem dX5_sumOf_4 : decode cX5_sumOf 4 = .ok (.aload_n 2, 1) := by decide +kernel
theorem dX5_sumOf_5 : decode cX5_sumOf 5 = .ok (.arraylength, 1) := by decide +kernel
theorem dX5_sumOf_6 : decode cX5_sumOf 6 = .ok (.istore_n 3, 1) := by decide +kernel
theorem dX5_sumOf_7 : decode cX5_sumOf 7 = .ok (.iconst 0, 1) := by decide +kernel
theorem dX5_sumOf_8 : decode cX5_sumOf 8 = .ok (.istore 4, 2) := by decide +kernel
theorem dX5_sumOf_10 : decode cX5_sumOf 10 = .ok (.iload 4, 2) := by decide +kernel
theorem dX5_sumOf_12 : decode cX5_sumOf 12 = .ok (.iload_n 3, 1) := by decide +kernel
theorem dX5_sumOf_13 : decode cX5_sumOf 13 = .ok (.if_icmp .ge 20, 3) := by decide +kernel
theorem dX5_sumOf_16 : decode cX5_sumOf 16 = .ok (.aload_n 2, 1) := by decide +kernel
theorem dX5_sumOf_17 : decode cX5_sumOf 17 = .ok (.iload 4, 2) := by decide +kernel
theorem dX5_sumOf_19 : decode cX5_sumOf 19 = .ok (.iaload, 1) := by decide +kernel
theorem dX5_sumOf_20 : decode cX5_sumOf 20 = .ok (.istore 5, 2) := by decide +kernel
theorem dX5_sumOf_22 : decode cX5_sumOf 22 = .ok (.iload_n 1, 1) := by decide +kernel
theorem dX5_sumOf_23 : decode cX5_sumOf 23 = .ok (.iload 5, 2) := by decide +kernel
theorem dX5_sumOf_25 : decode cX5_sumOf 25 = .ok (.iadd, 1) := by decide +kernel
theorem dX5_sumOf_26 : decode cX5_sumOf 26 = .ok (.istore_n 1, 1) := by decide +kernel
theorem dX5_sumOf_27 : decode cX5_sumOf 27 = .ok (.iinc 4 1, 3) := by decide +kernel
theorem dX5_sumOf_30 : decode cX5_sumOf 30 = .ok (.goto (-20), 3) := by decide +kernel
theorem dX5_sumOf_33 : decode cX5_sumOf 33 = .ok (.iload_n 1, 1) := by decide +kernel
theorem dX5_sumOf_34 : decode cX5_sumOf 34 = .ok (.ireturn, 1) := by decide +kernel
theorem dX5_copyNumbers_0 : decode cX5_copyNumbers 0 = .ok (.aload_n 0, 1) := by decide +kernel
theorem dX5_copyNumbers_1 : decode cX5_copyNumbers 1 = .ok (.iconst 0, 1) := by decide +kernel
theorem dX5_copyNumbers_2 : decode cX5_copyNumbers 2 = .ok (.aload_n 1, 1) := by decide +kernel
theorem dX5_copyNumbers_3 : decode cX5_copyNumbers 3 = .ok (.iconst 0, 1) := by decide +kernel
theorem dX5_copyNumbers_4 : decode cX5_copyNumbers 4 = .ok (.aload_n 0, 1) := by decide +kernel
theorem dX5_copyNumbers_5 : decode cX5_copyNumbers 5 = .ok (.arraylength, 1) := by decide +kernel
theorem dX5_copyNumbers_6 : decode cX5_copyNumbers 6 = .ok (.aload_n 1, 1) := by decide +kernel
theorem dX5_copyNumbers_7 : decode cX5_copyNumbers 7 = .ok (.arraylength, 1) := by decide +kernel
theorem dX5_copyNumbers_8 : decode cX5_copyNumbers 8 = .ok (.invokestatic 240, 3) := by decide +kernel
theorem dX5_copyNumbers_11 : decode cX5_copyNumbers 11 = .ok (.invokestatic 245, 3) := by decide +kernel
theorem dX5_copyNumbers_14 : decode cX5_copyNumbers 14 = .ok (.return_, 1) := by decide +kernel
theorem dX5_copyFlags_0 : decode cX5_copyFlags 0 = .ok (.aload_n 0, 1) := by decide +kernel
theorem dX5_copyFlags_1 : decode cX5_copyFlags 1 = .ok (.iconst 0, 1) := by decide +kernel
theorem dX5_copyFlags_2 : decode cX5_copyFlags 2 = .ok (.aload_n 1, 1) := by decide +kernel
theorem dX5_copyFlags_3 : decode cX5_copyFlags 3 = .ok (.iconst 0, 1) := by decide +kernel
theorem dX5_copyFlags_4 : decode cX5_copyFlags 4 = .ok (.aload_n 0, 1) := by decide +kernel
theorem dX5_copyFlags_5 : decode cX5_copyFlags 5 = .ok (.arraylength, 1) := by decide +kernel
theorem dX5_copyFlags_6 : decode cX5_copyFlags 6 = .ok (.aload_n 1, 1) := by decide +kernel
theorem dX5_copyFlags_7 : decode cX5_copyFlags 7 = .ok (.arraylength, 1) := by decide +kernel
theorem dX5_copyFlags_8 : decode cX5_copyFlags 8 = .ok (.invokestatic 240, 3) := by decide +kernel
theorem dX5_copyFlags_11 : decode cX5_copyFlags 11 = .ok (.invokestatic 245, 3) := by decide +kernel
theorem dX5_copyFlags_14 : decode cX5_copyFlags 14 = .ok (.return_, 1) := by decide +kernel
end
section
theorem dX6_init_0 : decode cX6_init 0 = .ok (.aload_n 0, 1) := by decide +kernel
theorem dX6_init_1 : decode cX6_init 1 = .ok (.invokespecial 1, 3) := by decide +kernel
theorem dX6_init_4 : decode cX6_init 4 = .ok (.aload_n 0, 1) := by decide +kernel
theorem dX6_init_5 : decode cX6_init 5 = .ok (.sipush 941, 3) := by decide +kernel
theorem dX6_init_8 : decode cX6_init 8 = .ok (.newarray .int, 2) := by decide +kernel
theorem dX6_init_10 : decode cX6_init 10 = .ok (.putfield 7, 3) := by decide +kernel
theorem dX6_init_13 : decode cX6_init 13 = .ok (.aload_n 0, 1) := by decide +kernel
theorem dX6_init_14 : decode cX6_init 14 = .ok (.sipush 941, 3) := by decide +kernel
theorem dX6_init_17 : decode cX6_init 17 = .ok (.newarray .int, 2) := by decide +kernel
theorem dX6_init_19 : decode cX6_init 19 = .ok (.putfield 13, 3) := by decide +kernel
theorem dX6_init_22 : decode cX6_init 22 = .ok (.aload_n 0, 1) := by decide +kernel
theorem dX6_init_23 : decode cX6_init 23 = .ok (.sipush 3764, 3) := by decide +kernel
theorem dX6_init_26 : decode cX6_init 26 = .ok (.newarray .int, 2) := by decide +kernel
theorem dX6_init_28 : decode cX6_init 28 = .ok (.putfield 16, 3) := by decide +kernel
theorem dX6_init_31 : decode cX6_init 31 = .ok (.aload_n 0, 1) := by decide +kernel
theorem dX6_init_32 : decode cX6_init 32 = .ok (.sipush 941, 3) := by decide +kernel
theorem dX6_init_35 : decode cX6_init 35 = .ok (.newarray .int, 2) := by decide +kernel
theorem dX6_init_37 : decode cX6_init 37 = .ok (.putfield 19, 3) := by decide +kernel
theorem dX6_init_40 : decode cX6_init 40 = .ok (.aload_n 0, 1) := by decide +kernel
theorem dX6_init_41 : decode cX6_init 41 = .ok (.bipush 60, 2) := by decide +kernel
theorem dX6_init_43 : decode cX6_init 43 = .ok (.newarray .int, 2) := by decide +kernel
theorem dX6_init_45 : decode cX6_init 45 = .ok (.putfield 22, 3) := by decide +kernel
theorem dX6_init_48 : decode cX6_init 48 = .ok (.aload_n 0, 1) := by decide +kernel
theorem dX6_init_49 : decode cX6_init 49 = .ok (.bipush 120, 2) := by decide +kernel
theorem dX6_init_51 : decode cX6_init 51 = .ok (.newarray .int, 2) := by decide +kernel
theorem dX6_init_53 : decode cX6_init 53 = .ok (.putfield 25, 3) := by decide +kernel
theorem dX6_init_56 : decode cX6_init 56 = .ok (.aload_n 0, 1) := by decide +kernel
theorem dX6_init_57 : decode cX6_init 57 = .ok (.iconst 0, 1) := by decide +kernel
theorem dX6_init_58 : decode cX6_init 58 = .ok (.putfield 28, 3) := by decide +kernel
theorem dX6_init_61 : decode cX6_init 61 = .ok (.aload_n 0, 1) := by decide +kernel
theorem dX6_init_62 : decode cX6_init 62 = .ok (.getfield 7, 3) := by decide +kernel
theorem dX6_init_65 : decode cX6_init 65 = .ok (.iconst 0, 1) := by decide +kernel
theorem dX6_init_66 : decode cX6_init 66 = .ok (.iconst 3, 1) := by decide +kernel
theorem dX6_init_67 : decode cX6_init 67 = .ok (.iastore, 1) := by decide +kernel
theorem dX6_init_68 : decode cX6_init 68 = .ok (.aload_n 0, 1) := by decide +kernel
theorem dX6_init_69 : decode cX6_init 69 = .ok (.getfield 7, 3) := by decide +kernel
theorem dX6_init_72 : decode cX6_init 72 = .ok (.bipush 10, 2) := by decide +kernel
theorem dX6_init_74 : decode cX6_init 74 = .ok (.iconst 5, 1) := by decide +kernel
theorem dX6_init_75 : decode cX6_init 75 = .ok (.iastore, 1) := by decide +kernel
theorem dX6_init_76 : decode cX6_init 76 = .ok (.iconst 0, 1) := by decide +kernel
theorem dX6_init_77 : decode cX6_init 77 = .ok (.istore_n 1, 1) := by decide +kernel
theorem dX6_init_78 : decode cX6_init 78 = .ok (.iload_n 1, 1) := by decide +kernel
theorem dX6_init_79 : decode cX6_init 79 = .ok (.bipush 10, 2) := by decide +kernel
theorem dX6_init_81 : decode cX6_init 81 = .ok (.if_icmp .ge 24, 3) := by decide +kernel
theorem dX6_init_84 : decode cX6_init 84 = .ok (.aload_n 0, 1) := by decide +kernel
theorem dX6_init_85 : decode cX6_init 85 = .ok (.getfield 7, 3) := by decide +kernel
theorem dX6_init_88 : decode cX6_init 88 = .ok (.bipush 11, 2) := by decide +kernel
theorem dX6_init_90 : decode cX6_init 90 = .ok (.iconst 3, 1) := by decide +kernel
theorem dX6_init_91 : decode cX6_init 91 = .ok (.iload_n 1, 1) := by decide +kernel
theorem dX6_init_92 : decode cX6_init 92 = .ok (.imul, 1) := by decide +kernel
theorem dX6_init_93 : decode cX6_init 93 = .ok (.iadd, 1) := by decide +kernel
theorem dX6_init_94 : decode cX6_init 94 = .ok (.iconst 0, 1) := by decide +kernel
theorem dX6_init_95 : decode cX6_init 95 = .ok (.iadd, 1) := by decide +kernel
theorem dX6_init_96 : decode cX6_init 96 = .ok (.bipush 6, 2) := by decide +kernel
theorem dX6_init_98 : decode cX6_init 98 = .ok (.iastore, 1) := by decide +kernel
theorem dX6_init_99 : decode cX6_init 99 = .ok (.iinc 1 1, 3) := by decide +kernel
theorem dX6_init_102 : decode cX6_init 102 = .ok (.goto (-24), 3) := by decide +kernel
theorem dX6_init_105 : decode cX6_init 105 = .ok (.iconst 0, 1) := by decide +kernel
theorem dX6_init_106 : decode cX6_init 106 = .ok (.istore_n 1, 1) := by decide +kernel
theorem dX6_init_107 : decode cX6_init 107 = .ok (.iload_n 1, 1) := by decide +kernel
theorem dX6_init_108 : decode cX6_init 108 = .ok (.bipush 20, 2) := by decide +kernel
theorem dX6_init_110 : decode cX6_init 110 = .ok (.if_icmp .ge 56, 3) := by decide +kernel
theorem dX6_init_113 : decode cX6_init 113 = .ok (.aload_n 0, 1) := by decide +kernel
theorem dX6_init_114 : decode cX6_init 114 = .ok (.getfield 7, 3) := by decide +kernel
theorem dX6_init_117 : decode cX6_init 117 = .ok (.bipush 41, 2) := by decide +kernel
theorem dX6_init_119 : decode cX6_init 119 = .ok (.iconst 3, 1) := by decide +kernel
theorem dX6_init_120 : decode cX6_init 120 = .ok (.iload_n 1, 1) := by decide +kernel
theorem dX6_init_121 : decode cX6_init 121 = .ok (.imul, 1) := by decide +kernel
theorem dX6_init_122 : decode cX6_init 122 = .ok (.iadd, 1) := by decide +kernel
theorem dX6_init_123 : decode cX6_init 123 = .ok (.iconst 0, 1) := by decide +kernel
theorem dX6_init_124 : decode cX6_init 124 = .ok (.iadd, 1) := by decide +kernel
theorem dX6_init_125 : decode cX6_init 125 = .ok (.bipush 6, 2) := by decide +kernel
theorem dX6_init_127 : decode cX6_init 127 = .ok (.iastore, 1) := by decide +kernel
theorem dX6_init_128 : decode cX6_init 128 = .ok (.aload_n 0, 1) := by decide +kernel
theorem dX6_init_129 : decode cX6_init 129 = .ok (.getfield 7, 3) := by decide +kernel
theorem dX6_init_132 : decode cX6_init 132 = .ok (.bipush 41, 2) := by decide +kernel
theorem dX6_init_134 : decode cX6_init 134 = .ok (.iconst 3, 1) := by decide +kernel
theorem dX6_init_135 : decode cX6_init 135 = .ok (.iload_n 1, 1) := by decide +kernel
theorem dX6_init_136 : decode cX6_init 136 = .ok (.imul, 1) := by decide +kernel
theorem dX6_init_137 : decode cX6_init 137 = .ok (.iadd, 1) := by decide +kernel
theorem dX6_init_138 : decode cX6_init 138 = .ok (.iconst 1, 1) := by decide +kernel
theorem dX6_init_139 : decode cX6_init 139 = .ok (.iadd, 1) := by decide +kernel
theorem dX6_init_140 : decode cX6_init 140 = .ok (.iload_n 1, 1) := by decide +kernel
theorem dX6_init_141 : decode cX6_init 141 = .ok (.iconst 2, 1) := by decide +kernel
theorem dX6_init_142 : decode cX6_init 142 = .ok (.idiv, 1) := by decide +kernel
theorem dX6_init_143 : decode cX6_init 143 = .ok (.iastore, 1) := by decide +kernel
theorem dX6_init_144 : decode cX6_init 144 = .ok (.aload_n 0, 1) := by decide +kernel
theorem dX6_init_145 : decode cX6_init 145 = .ok (.getfield 7, 3) := by decide +kernel
theorem dX6_init_148 : decode cX6_init 148 = .ok (.bipush 41, 2) := by decide +kernel
theorem dX6_init_150 : decode cX6_init 150 = .ok (.iconst 3, 1) := by decide +kernel
theorem dX6_init_151 : decode cX6_init 151 = .ok (.iload_n 1, 1) := by decide +kernel
theorem dX6_init_152 : decode cX6_init 152 = .ok (.imul, 1) := by decide +kernel
theorem dX6_init_153 : decode cX6_init 153 = .ok (.iadd, 1) := by decide +kernel
theorem dX6_init_154 : decode cX6_init 154 = .ok (.iconst 2, 1) := by decide +kernel
theorem dX6_init_155 : decode cX6_init 155 = .ok (.iadd, 1) := by decide +kernel
theorem dX6_init_156 : decode cX6_init 156 = .ok (.iload_n 1, 1) := by decide +kernel
theorem dX6_init_157 : decode cX6_init 157 = .ok (.iconst 2, 1) := by decide +kernel
theorem dX6_init_158 : decode cX6_init 158 = .ok (.idiv, 1) := by decide +kernel
theorem dX6_init_159 : decode cX6_init 159 = .ok (.iastore, 1) := by decide +kernel
theorem dX6_init_160 : decode cX6_init 160 = .ok (.iinc 1 1, 3) := by decide +kernel
theorem dX6_init_163 : decode cX6_init 163 = .ok (.goto (-56), 3) := by decide +kernel
theorem dX6_init_166 : decode cX6_init 166 = .ok (.return_, 1) := by decide +kernel
theorem dX6_in_0 : decode cX6_in 0 = .ok (.iload_n 0, 1) := by decide +kernel
theorem dX6_in_1 : decode cX6_in 1 = .ok (.iload_n 1, 1) := by decide +kernel
theorem dX6_in_2 : decode cX6_in 2 = .ok (.if_icmp .lt 12, 3) := by decide +kernel
theorem dX6_in_5 : decode cX6_in 5 = .ok (.iload_n 0, 1) := by decide +kernel
theorem dX6_in_6 : decode cX6_in 6 = .ok (.iload_n 2, 1) := by decide +kernel
theorem dX6_in_7 : decode cX6_in 7 = .ok (.if_icmp .gt 7, 3) := by decide +kernel
theorem dX6_in_10 : decode cX6_in 10 = .ok (.iconst 1, 1) := by decide +kernel
theorem dX6_in_11 : decode cX6_in 11 = .ok (.goto 4, 3) := by decide +kernel
theorem dX6_in_14 : decode cX6_in 14 = .ok (.iconst 0, 1) := by decide +kernel
theorem dX6_in_15 : decode cX6_in 15 = .ok (.ireturn, 1) := by decide +kernel
theorem dX6_isCommoner_0 : decode cX6_isCommoner 0 = .ok (.iload_n 0, 1) := by decide +kernel
theorem dX6_isCommoner_1 : decode cX6_isCommoner 1 = .ok (.iconst 0, 1) := by decide +kernel
theorem dX6_isCommoner_2 : decode cX6_isCommoner 2 = .ok (.bipush 9, 2) := by decide +kernel
theorem dX6_isCommoner_4 : decode cX6_isCommoner 4 = .ok (.invokestatic 32, 3) := by decide +kernel
theorem dX6_isCommoner_7 : decode cX6_isCommoner 7 = .ok (.ireturn, 1) := by decide +kernel
theorem dX6_isPlot_0 : decode cX6_isPlot 0 = .ok (.iload_n 0, 1) := by decide +kernel
theorem dX6_isPlot_1 : decode cX6_isPlot 1 = .ok (.iconst 0, 1) := by decide +kernel
theorem dX6_isPlot_2 : decode cX6_isPlot 2 = .ok (.bipush 19, 2) := by decide +kernel
theorem dX6_isPlot_4 : decode cX6_isPlot 4 = .ok (.invokestatic 32, 3) := by decide +kernel
theorem dX6_isPlot_7 : decode cX6_isPlot 7 = .ok (.ireturn, 1) := by decide +kernel
theorem dX6_ofCommoner_0 : decode cX6_ofCommoner 0 = .ok (.aload_n 0, 1) := by decide +kernel
theorem dX6_ofCommoner_1 : decode cX6_ofCommoner 1 = .ok (.getfield 7, 3) := by decide +kernel
theorem dX6_ofCommoner_4 : decode cX6_ofCommoner 4 = .ok (.bipush 11, 2) := by decide +kernel
theorem dX6_ofCommoner_6 : decode cX6_ofCommoner 6 = .ok (.iconst 3, 1) := by decide +kernel
theorem dX6_ofCommoner_7 : decode cX6_ofCommoner 7 = .ok (.iload_n 1, 1) := by decide +kernel
theorem dX6_ofCommoner_8 : decode cX6_ofCommoner 8 = .ok (.imul, 1) := by decide +kernel
theorem dX6_ofCommoner_9 : decode cX6_ofCommoner 9 = .ok (.iadd, 1) := by decide +kernel
theorem dX6_ofCommoner_10 : decode cX6_ofCommoner 10 = .ok (.iload_n 2, 1) := by decide +kernel
theorem dX6_ofCommoner_11 : decode cX6_ofCommoner 11 = .ok (.iadd, 1) := by decide +kernel
theorem dX6_ofCommoner_12 : decode cX6_ofCommoner 12 = .ok (.iaload, 1) := by decide +kernel
theorem dX6_ofCommoner_13 : decode cX6_ofCommoner 13 = .ok (.ireturn, 1) := by decide +kernel
theorem dX6_addCommoner_0 : decode cX6_addCommoner 0 = .ok (.aload_n 0, 1) := by decide +kernel
theorem dX6_addCommoner_1 : decode cX6_addCommoner 1 = .ok (.getfield 7, 3) := by decide +kernel
theorem dX6_addCommoner_4 : decode cX6_addCommoner 4 = .ok (.bipush 11, 2) := by decide +kernel
theorem dX6_addCommoner_6 : decode cX6_addCommoner 6 = .ok (.iconst 3, 1) := by decide +kernel
theorem dX6_addCommoner_7 : decode cX6_addCommoner 7 = .ok (.iload_n 1, 1) := by decide +kernel
theorem dX6_addCommoner_8 : decode cX6_addCommoner 8 = .ok (.imul, 1) := by decide +kernel
theorem dX6_addCommoner_9 : decode cX6_addCommoner 9 = .ok (.iadd, 1) := by decide +kernel
theorem dX6_addCommoner_10 : decode cX6_addCommoner 10 = .ok (.iload_n 2, 1) := by decide +kernel
theorem dX6_addCommoner_11 : decode cX6_addCommoner 11 = .ok (.iadd, 1) := by decide +kernel
theorem dX6_addCommoner_12 : decode cX6_addCommoner 12 = .ok (.dup2, 1) := by decide +kernel
theorem dX6_addCommoner_13 : decode cX6_addCommoner 13 = .ok (.iaload, 1) := by decide +kernel
theorem dX6_addCommoner_14 : decode cX6_addCommoner 14 = .ok (.iload_n 3, 1) := by decide +kernel
theorem dX6_addCommoner_15 : decode cX6_addCommoner 15 = .ok (.iadd, 1) := by decide +kernel
theorem dX6_addCommoner_16 : decode cX6_addCommoner 16 = .ok (.iastore, 1) := by decide +kernel
theorem dX6_addCommoner_17 : decode cX6_addCommoner 17 = .ok (.return_, 1) := by decide +kernel
theorem dX6_ofPlot_0 : decode cX6_ofPlot 0 = .ok (.aload_n 0, 1) := by decide +kernel
theorem dX6_ofPlot_1 : decode cX6_ofPlot 1 = .ok (.getfield 7, 3) := by decide +kernel
theorem dX6_ofPlot_4 : decode cX6_ofPlot 4 = .ok (.bipush 41, 2) := by decide +kernel
theorem dX6_ofPlot_6 : decode cX6_ofPlot 6 = .ok (.iconst 3, 1) := by decide +kernel
theorem dX6_ofPlot_7 : decode cX6_ofPlot 7 = .ok (.iload_n 1, 1) := by decide +kernel
theorem dX6_ofPlot_8 : decode cX6_ofPlot 8 = .ok (.imul, 1) := by decide +kernel
theorem dX6_ofPlot_9 : decode cX6_ofPlot 9 = .ok (.iadd, 1) := by decide +kernel
theorem dX6_ofPlot_10 : decode cX6_ofPlot 10 = .ok (.iload_n 2, 1) := by decide +kernel
theorem dX6_ofPlot_11 : decode cX6_ofPlot 11 = .ok (.iadd, 1) := by decide +kernel
theorem dX6_ofPlot_12 : decode cX6_ofPlot 12 = .ok (.iaload, 1) := by decide +kernel
theorem dX6_ofPlot_13 : decode cX6_ofPlot 13 = .ok (.ireturn, 1) := by decide +kernel
theorem dX6_ofRow_0 : decode cX6_ofRow 0 = .ok (.aload_n 0, 1) := by decide +kernel
theorem dX6_ofRow_1 : decode cX6_ofRow 1 = .ok (.getfield 7, 3) := by decide +kernel
theorem dX6_ofRow_4 : decode cX6_ofRow 4 = .ok (.bipush 101, 2) := by decide +kernel
theorem dX6_ofRow_6 : decode cX6_ofRow 6 = .ok (.bipush 6, 2) := by decide +kernel
theorem dX6_ofRow_8 : decode cX6_ofRow 8 = .ok (.iload_n 1, 1) := by decide +kernel
theorem dX6_ofRow_9 : decode cX6_ofRow 9 = .ok (.imul, 1) := by decide +kernel
theorem dX6_ofRow_10 : decode cX6_ofRow 10 = .ok (.iadd, 1) := by decide +kernel
theorem dX6_ofRow_11 : decode cX6_ofRow 11 = .ok (.iload_n 2, 1) := by decide +kernel
theorem dX6_ofRow_12 : decode cX6_ofRow 12 = .ok (.iadd, 1) := by decide +kernel
theorem dX6_ofRow_13 : decode cX6_ofRow 13 = .ok (.iaload, 1) := by decide +kernel
theorem dX6_ofRow_14 : decode cX6_ofRow 14 = .ok (.ireturn, 1) := by decide +kernel
theorem dX6_layRow_0 : decode cX6_layRow 0 = .ok (.aload_n 0, 1) := by decide +kernel
theorem dX6_layRow_1 : decode cX6_layRow 1 = .ok (.getfield 7, 3) := by decide +kernel
theorem dX6_layRow_4 : decode cX6_layRow 4 = .ok (.bipush 101, 2) := by decide +kernel
theorem dX6_layRow_6 : decode cX6_layRow 6 = .ok (.bipush 6, 2) := by decide +kernel
theorem dX6_layRow_8 : decode cX6_layRow 8 = .ok (.iload_n 1, 1) := by decide +kernel
theorem dX6_layRow_9 : decode cX6_layRow 9 = .ok (.imul, 1) := by decide +kernel
theorem dX6_layRow_10 : decode cX6_layRow 10 = .ok (.iadd, 1) := by decide +kernel
theorem dX6_layRow_11 : decode cX6_layRow 11 = .ok (.iload_n 2, 1) := by decide +kernel
theorem dX6_layRow_12 : decode cX6_layRow 12 = .ok (.iadd, 1) := by decide +kernel
theorem dX6_layRow_13 : decode cX6_layRow 13 = .ok (.iload_n 3, 1) := by decide +kernel
theorem dX6_layRow_14 : decode cX6_layRow 14 = .ok (.iastore, 1) := by decide +kernel
theorem dX6_layRow_15 : decode cX6_layRow 15 = .ok (.return_, 1) := by decide +kernel
theorem dX6_ofDispute_0 : decode cX6_ofDispute 0 = .ok (.aload_n 0, 1) := by decide +kernel
theorem dX6_ofDispute_1 : decode cX6_ofDispute 1 = .ok (.getfield 7, 3) := by decide +kernel
theorem dX6_ofDispute_4 : decode cX6_ofDispute 4 = .ok (.sipush 461, 3) := by decide +kernel
theorem dX6_ofDispute_7 : decode cX6_ofDispute 7 = .ok (.iconst 4, 1) := by decide +kernel
theorem dX6_ofDispute_8 : decode cX6_ofDispute 8 = .ok (.iload_n 1, 1) := by decide +kernel
theorem dX6_ofDispute_9 : decode cX6_ofDispute 9 = .ok (.imul, 1) := by decide +kernel
theorem dX6_ofDispute_10 : decode cX6_ofDispute 10 = .ok (.iadd, 1) := by decide +kernel
theorem dX6_ofDispute_11 : decode cX6_ofDispute 11 = .ok (.iload_n 2, 1) := by decide +kernel
theorem dX6_ofDispute_12 : decode cX6_ofDispute 12 = .ok (.iadd, 1) := by decide +kernel
theorem dX6_ofDispute_13 : decode cX6_ofDispute 13 = .ok (.iaload, 1) := by decide +kernel
theorem dX6_ofDispute_14 : decode cX6_ofDispute 14 = .ok (.ireturn, 1) := by decide +kernel
theorem dX6_placeOf_0 : decode cX6_placeOf 0 = .ok (.iconst 0, 1) := by decide +kernel
theorem dX6_placeOf_1 : decode cX6_placeOf 1 = .ok (.istore_n 2, 1) := by decide +kernel
theorem dX6_placeOf_2 : decode cX6_placeOf 2 = .ok (.iload_n 2, 1) := by decide +kernel
theorem dX6_placeOf_3 : decode cX6_placeOf 3 = .ok (.aload_n 0, 1) := by decide +kernel
theorem dX6_placeOf_4 : decode cX6_placeOf 4 = .ok (.getfield 7, 3) := by decide +kernel
theorem dX6_placeOf_7 : decode cX6_placeOf 7 = .ok (.iconst 4, 1) := by decide +kernel
theorem dX6_placeOf_8 : decode cX6_placeOf 8 = .ok (.iaload, 1) := by decide +kernel
theorem dX6_placeOf_9 : decode cX6_placeOf 9 = .ok (.if_icmp .ge 21, 3) := by decide +kernel
theorem dX6_placeOf_12 : decode cX6_placeOf 12 = .ok (.aload_n 0, 1) := by decide +kernel
theorem dX6_placeOf_13 : decode cX6_placeOf 13 = .ok (.iload_n 2, 1) := by decide +kernel
theorem dX6_placeOf_14 : decode cX6_placeOf 14 = .ok (.iconst 0, 1) := by decide +kernel
theorem dX6_placeOf_15 : decode cX6_placeOf 15 = .ok (.invokevirtual 36, 3) := by decide +kernel
theorem dX6_placeOf_18 : decode cX6_placeOf 18 = .ok (.iload_n 1, 1) := by decide +kernel
theorem dX6_placeOf_19 : decode cX6_placeOf 19 = .ok (.if_icmp .ne 5, 3) := by decide +kernel
theorem dX6_placeOf_22 : decode cX6_placeOf 22 = .ok (.iload_n 2, 1) := by decide +kernel
theorem dX6_placeOf_23 : decode cX6_placeOf 23 = .ok (.ireturn, 1) := by decide +kernel
theorem dX6_placeOf_24 : decode cX6_placeOf 24 = .ok (.iinc 2 1, 3) := by decide +kernel
theorem dX6_placeOf_27 : decode cX6_placeOf 27 = .ok (.goto (-25), 3) := by decide +kernel
theorem dX6_placeOf_30 : decode cX6_placeOf 30 = .ok (.bipush (-5), 2) := by decide +kernel
theorem dX6_placeOf_32 : decode cX6_placeOf 32 = .ok (.ireturn, 1) := by decide +kernel
theorem dX6_records_0 : decode cX6_records 0 = .ok (.aload_n 0, 1) := by decide +kernel
theorem dX6_records_1 : decode cX6_records 1 = .ok (.getfield 40, 3) := by decide +kernel
theorem dX6_records_4 : decode cX6_records 4 = .ok (.iconst 4, 1) := by decide +kernel
theorem dX6_records_5 : decode cX6_records 5 = .ok (.if_icmp .ne 44, 3) := by decide +kernel
theorem dX6_records_8 : decode cX6_records 8 = .ok (.iconst 0, 1) := by decide +kernel
theorem dX6_records_9 : decode cX6_records 9 = .ok (.istore_n 1, 1) := by decide +kernel
theorem dX6_records_10 : decode cX6_records 10 = .ok (.iload_n 1, 1) := by decide +kernel
theorem dX6_records_11 : decode cX6_records 11 = .ok (.sipush 2823, 3) := by decide +kernel
theorem dX6_records_14 : decode cX6_records 14 = .ok (.if_icmp .ge 25, 3) := by decide +kernel
theorem dX6_records_17 : decode cX6_records 17 = .ok (.aload_n 0, 1) := by decide +kernel
theorem dX6_records_18 : decode cX6_records 18 = .ok (.getfield 16, 3) := by decide +kernel
theorem dX6_records_21 : decode cX6_records 21 = .ok (.iload_n 1, 1) := by decide +kernel
theorem dX6_records_22 : decode cX6_records 22 = .ok (.aload_n 0, 1) := by decide +kernel
theorem dX6_records_23 : decode cX6_records 23 = .ok (.getfield 16, 3) := by decide +kernel
theorem dX6_records_26 : decode cX6_records 26 = .ok (.iload_n 1, 1) := by decide +kernel
theorem dX6_records_27 : decode cX6_records 27 = .ok (.sipush 941, 3) := by decide +kernel
theorem dX6_records_30 : decode cX6_records 30 = .ok (.iadd, 1) := by decide +kernel
theorem dX6_records_31 : decode cX6_records 31 = .ok (.iaload, 1) := by decide +kernel
theorem dX6_records_32 : decode cX6_records 32 = .ok (.iastore, 1) := by decide +kernel
theorem dX6_records_33 : decode cX6_records 33 = .ok (.iinc 1 1, 3) := by decide +kernel
theorem dX6_records_36 : decode cX6_records 36 = .ok (.goto (-26), 3) := by decide +kernel
theorem dX6_records_39 : decode cX6_records 39 = .ok (.aload_n 0, 1) := by decide +kernel
theorem dX6_records_40 : decode cX6_records 40 = .ok (.dup, 1) := by decide +kernel
theorem dX6_records_41 : decode cX6_records 41 = .ok (.getfield 40, 3) := by decide +kernel
theorem dX6_records_44 : decode cX6_records 44 = .ok (.iconst 1, 1) := by decide +kernel
theorem dX6_records_45 : decode cX6_records 45 = .ok (.isub, 1) := by decide +kernel
theorem dX6_records_46 : decode cX6_records 46 = .ok (.putfield 40, 3) := by decide +kernel
theorem dX6_records_49 : decode cX6_records 49 = .ok (.iconst 0, 1) := by decide +kernel
theorem dX6_records_50 : decode cX6_records 50 = .ok (.istore_n 1, 1) := by decide +kernel
theorem dX6_records_51 : decode cX6_records 51 = .ok (.iload_n 1, 1) := by decide +kernel
theorem dX6_records_52 : decode cX6_records 52 = .ok (.sipush 941, 3) := by decide +kernel
theorem dX6_records_55 : decode cX6_records 55 = .ok (.if_icmp .ge 30, 3) := by decide +kernel
theorem dX6_records_58 : decode cX6_records 58 = .ok (.aload_n 0, 1) := by decide +kernel
theorem dX6_records_59 : decode cX6_records 59 = .ok (.getfield 16, 3) := by decide +kernel
theorem dX6_records_62 : decode cX6_records 62 = .ok (.sipush 941, 3) := by decide +kernel
theorem dX6_records_65 : decode cX6_records 65 = .ok (.aload_n 0, 1) := by decide +kernel
theorem dX6_records_66 : decode cX6_records 66 = .ok (.getfield 40, 3) := by decide +kernel
theorem dX6_records_69 : decode cX6_records 69 = .ok (.imul, 1) := by decide +kernel
theorem dX6_records_70 : decode cX6_records 70 = .ok (.iload_n 1, 1) := by decide +kernel
theorem dX6_records_71 : decode cX6_records 71 = .ok (.iadd, 1) := by decide +kernel
theorem dX6_records_72 : decode cX6_records 72 = .ok (.aload_n 0, 1) := by decide +kernel
theorem dX6_records_73 : decode cX6_records 73 = .ok (.getfield 7, 3) := by decide +kernel
theorem dX6_records_76 : decode cX6_records 76 = .ok (.iload_n 1, 1) := by decide +kernel
theorem dX6_records_77 : decode cX6_records 77 = .ok (.iaload, 1) := by decide +kernel
theorem dX6_records_78 : decode cX6_records 78 = .ok (.iastore, 1) := by decide +kernel
theorem dX6_records_79 : decode cX6_records 79 = .ok (.iinc 1 1, 3) := by decide +kernel
theorem dX6_records_82 : decode cX6_records 82 = .ok (.goto (-31), 3) := by decide +kernel
theorem dX6_records_85 : decode cX6_records 85 = .ok (.aload_n 0, 1) := by decide +kernel
theorem dX6_records_86 : decode cX6_records 86 = .ok (.dup, 1) := by decide +kernel
theorem dX6_records_87 : decode cX6_records 87 = .ok (.getfield 40, 3) := by decide +kernel
theorem dX6_records_90 : decode cX6_records 90 = .ok (.iconst 1, 1) := by decide +kernel
theorem dX6_records_91 : decode cX6_records 91 = .ok (.iadd, 1) := by decide +kernel
theorem dX6_records_92 : decode cX6_records 92 = .ok (.putfield 40, 3) := by decide +kernel
theorem dX6_records_95 : decode cX6_records 95 = .ok (.return_, 1) := by decide +kernel
theorem dX6_drier_0 : decode cX6_drier 0 = .ok (.iload_n 0, 1) := by decide +kernel
theorem dX6_drier_1 : decode cX6_drier 1 = .ok (.iconst 2, 1) := by decide +kernel
theorem dX6_drier_2 : decode cX6_drier 2 = .ok (.if_icmp .ne 8, 3) := by decide +kernel
theorem dX6_drier_5 : decode cX6_drier 5 = .ok (.bipush (-4), 2) := by decide +kernel
theorem dX6_drier_7 : decode cX6_drier 7 = .ok (.goto 17, 3) := by decide +kernel
theorem dX6_drier_10 : decode cX6_drier 10 = .ok (.iload_n 0, 1) := by decide +kernel
theorem dX6_drier_11 : decode cX6_drier 11 = .ok (.ifCond .ne 8, 3) := by decide +kernel
theorem dX6_drier_14 : decode cX6_drier 14 = .ok (.bipush 6, 2) := by decide +kernel
theorem dX6_drier_16 : decode cX6_drier 16 = .ok (.goto 4, 3) := by decide +kernel
theorem dX6_drier_19 : decode cX6_drier 19 = .ok (.iconst 3, 1) := by decide +kernel
theorem dX6_drier_20 : decode cX6_drier 20 = .ok (.iconst 2, 1) := by decide +kernel
theorem dX6_drier_21 : decode cX6_drier 21 = .ok (.iload_n 1, 1) := by decide +kernel
theorem dX6_drier_22 : decode cX6_drier 22 = .ok (.imul, 1) := by decide +kernel
theorem dX6_drier_23 : decode cX6_drier 23 = .ok (.iadd, 1) := by decide +kernel
theorem dX6_drier_24 : decode cX6_drier 24 = .ok (.ireturn, 1) := by decide +kernel
theorem dX6_weathers_0 : decode cX6_weathers 0 = .ok (.iconst 0, 1) := by decide +kernel
theorem dX6_weathers_1 : decode cX6_weathers 1 = .ok (.istore_n 2, 1) := by decide +kernel
theorem dX6_weathers_2 : decode cX6_weathers 2 = .ok (.iload_n 2, 1) := by decide +kernel
theorem dX6_weathers_3 : decode cX6_weathers 3 = .ok (.aload_n 0, 1) := by decide +kernel
theorem dX6_weathers_4 : decode cX6_weathers 4 = .ok (.getfield 7, 3) := by decide +kernel
theorem dX6_weathers_7 : decode cX6_weathers 7 = .ok (.iconst 4, 1) := by decide +kernel
theorem dX6_weathers_8 : decode cX6_weathers 8 = .ok (.iaload, 1) := by decide +kernel
theorem dX6_weathers_9 : decode cX6_weathers 9 = .ok (.if_icmp .ge 62, 3) := by decide +kernel
theorem dX6_weathers_12 : decode cX6_weathers 12 = .ok (.aload_n 0, 1) := by decide +kernel
theorem dX6_weathers_13 : decode cX6_weathers 13 = .ok (.iload_n 2, 1) := by decide +kernel
theorem dX6_weathers_14 : decode cX6_weathers 14 = .ok (.iconst 5, 1) := by decide +kernel
theorem dX6_weathers_15 : decode cX6_weathers 15 = .ok (.invokevirtual 36, 3) := by decide +kernel
theorem dX6_weathers_18 : decode cX6_weathers 18 = .ok (.ifCond .ne 47, 3) := by decide +kernel
theorem dX6_weathers_21 : decode cX6_weathers 21 = .ok (.aload_n 0, 1) := by decide +kernel
theorem dX6_weathers_22 : decode cX6_weathers 22 = .ok (.iload_n 2, 1) := by decide +kernel
theorem dX6_weathers_23 : decode cX6_weathers 23 = .ok (.iconst 3, 1) := by decide +kernel
theorem dX6_weathers_24 : decode cX6_weathers 24 = .ok (.invokevirtual 36, 3) := by decide +kernel
theorem dX6_weathers_27 : decode cX6_weathers 27 = .ok (.iload_n 1, 1) := by decide +kernel
theorem dX6_weathers_28 : decode cX6_weathers 28 = .ok (.aload_n 0, 1) := by decide +kernel
theorem dX6_weathers_29 : decode cX6_weathers 29 = .ok (.iload_n 2, 1) := by decide +kernel
theorem dX6_weathers_30 : decode cX6_weathers 30 = .ok (.iconst 4, 1) := by decide +kernel
theorem dX6_weathers_31 : decode cX6_weathers 31 = .ok (.invokevirtual 36, 3) := by decide +kernel
theorem dX6_weathers_34 : decode cX6_weathers 34 = .ok (.invokestatic 43, 3) := by decide +kernel
theorem dX6_weathers_37 : decode cX6_weathers 37 = .ok (.isub, 1) := by decide +kernel
theorem dX6_weathers_38 : decode cX6_weathers 38 = .ok (.istore_n 3, 1) := by decide +kernel
theorem dX6_weathers_39 : decode cX6_weathers 39 = .ok (.aload_n 0, 1) := by decide +kernel
theorem dX6_weathers_40 : decode cX6_weathers 40 = .ok (.iload_n 2, 1) := by decide +kernel
theorem dX6_weathers_41 : decode cX6_weathers 41 = .ok (.iconst 3, 1) := by decide +kernel
theorem dX6_weathers_42 : decode cX6_weathers 42 = .ok (.iload_n 3, 1) := by decide +kernel
theorem dX6_weathers_43 : decode cX6_weathers 43 = .ok (.ifCond .ge 7, 3) := by decide +kernel
theorem dX6_weathers_46 : decode cX6_weathers 46 = .ok (.iconst 0, 1) := by decide +kernel
theorem dX6_weathers_47 : decode cX6_weathers 47 = .ok (.goto 15, 3) := by decide +kernel
theorem dX6_weathers_50 : decode cX6_weathers 50 = .ok (.iload_n 3, 1) := by decide +kernel
theorem dX6_weathers_51 : decode cX6_weathers 51 = .ok (.bipush 60, 2) := by decide +kernel
theorem dX6_weathers_53 : decode cX6_weathers 53 = .ok (.if_icmp .le 8, 3) := by decide +kernel
theorem dX6_weathers_56 : decode cX6_weathers 56 = .ok (.bipush 60, 2) := by decide +kernel
theorem dX6_weathers_58 : decode cX6_weathers 58 = .ok (.goto 4, 3) := by decide +kernel
theorem dX6_weathers_61 : decode cX6_weathers 61 = .ok (.iload_n 3, 1) := by decide +kernel
theorem dX6_weathers_62 : decode cX6_weathers 62 = .ok (.invokevirtual 46, 3) := by decide +kernel
theorem dX6_weathers_65 : decode cX6_weathers 65 = .ok (.iinc 2 1, 3) := by decide +kernel
theorem dX6_weathers_68 : decode cX6_weathers 68 = .ok (.goto (-66), 3) := by decide +kernel
theorem dX6_weathers_71 : decode cX6_weathers 71 = .ok (.return_, 1) := by decide +kernel
theorem dX6_brings_0 : decode cX6_brings 0 = .ok (.bipush 40, 2) := by decide +kernel
theorem dX6_brings_2 : decode cX6_brings 2 = .ok (.aload_n 0, 1) := by decide +kernel
theorem dX6_brings_3 : decode cX6_brings 3 = .ok (.iload_n 1, 1) := by decide +kernel
theorem dX6_brings_4 : decode cX6_brings 4 = .ok (.iconst 3, 1) := by decide +kernel
theorem dX6_brings_5 : decode cX6_brings 5 = .ok (.invokevirtual 36, 3) := by decide +kernel
theorem dX6_brings_8 : decode cX6_brings 8 = .ok (.isub, 1) := by decide +kernel
theorem dX6_brings_9 : decode cX6_brings 9 = .ok (.istore_n 2, 1) := by decide +kernel
theorem dX6_brings_10 : decode cX6_brings 10 = .ok (.iload_n 2, 1) := by decide +kernel
theorem dX6_brings_11 : decode cX6_brings 11 = .ok (.ifCond .ge 7, 3) := by decide +kernel
theorem dX6_brings_14 : decode cX6_brings 14 = .ok (.iconst 0, 1) := by decide +kernel
theorem dX6_brings_15 : decode cX6_brings 15 = .ok (.goto 4, 3) := by decide +kernel
theorem dX6_brings_18 : decode cX6_brings 18 = .ok (.iload_n 2, 1) := by decide +kernel
theorem dX6_brings_19 : decode cX6_brings 19 = .ok (.ireturn, 1) := by decide +kernel
theorem dX6_leaves_0 : decode cX6_leaves 0 = .ok (.aload_n 0, 1) := by decide +kernel
theorem dX6_leaves_1 : decode cX6_leaves 1 = .ok (.getfield 7, 3) := by decide +kernel
theorem dX6_leaves_4 : decode cX6_leaves 4 = .ok (.iconst 4, 1) := by decide +kernel
theorem dX6_leaves_5 : decode cX6_leaves 5 = .ok (.dup2, 1) := by decide +kernel
theorem dX6_leaves_6 : decode cX6_leaves 6 = .ok (.iaload, 1) := by decide +kernel
theorem dX6_leaves_7 : decode cX6_leaves 7 = .ok (.iconst 1, 1) := by decide +kernel
theorem dX6_leaves_8 : decode cX6_leaves 8 = .ok (.isub, 1) := by decide +kernel
theorem dX6_leaves_9 : decode cX6_leaves 9 = .ok (.iastore, 1) := by decide +kernel
theorem dX6_leaves_10 : decode cX6_leaves 10 = .ok (.bipush 6, 2) := by decide +kernel
theorem dX6_leaves_12 : decode cX6_leaves 12 = .ok (.iload_n 1, 1) := by decide +kernel
theorem dX6_leaves_13 : decode cX6_leaves 13 = .ok (.imul, 1) := by decide +kernel
theorem dX6_leaves_14 : decode cX6_leaves 14 = .ok (.istore_n 2, 1) := by decide +kernel
theorem dX6_leaves_15 : decode cX6_leaves 15 = .ok (.iload_n 2, 1) := by decide +kernel
theorem dX6_leaves_16 : decode cX6_leaves 16 = .ok (.bipush 6, 2) := by decide +kernel
theorem dX6_leaves_18 : decode cX6_leaves 18 = .ok (.aload_n 0, 1) := by decide +kernel
theorem dX6_leaves_19 : decode cX6_leaves 19 = .ok (.getfield 7, 3) := by decide +kernel
theorem dX6_leaves_22 : decode cX6_leaves 22 = .ok (.iconst 4, 1) := by decide +kernel
theorem dX6_leaves_23 : decode cX6_leaves 23 = .ok (.iaload, 1) := by decide +kernel
theorem dX6_leaves_24 : decode cX6_leaves 24 = .ok (.imul, 1) := by decide +kernel
theorem dX6_leaves_25 : decode cX6_leaves 25 = .ok (.if_icmp .ge 30, 3) := by decide +kernel
theorem dX6_leaves_28 : decode cX6_leaves 28 = .ok (.aload_n 0, 1) := by decide +kernel
theorem dX6_leaves_29 : decode cX6_leaves 29 = .ok (.getfield 7, 3) := by decide +kernel
theorem dX6_leaves_32 : decode cX6_leaves 32 = .ok (.bipush 101, 2) := by decide +kernel
theorem dX6_leaves_34 : decode cX6_leaves 34 = .ok (.iload_n 2, 1) := by decide +kernel
theorem dX6_leaves_35 : decode cX6_leaves 35 = .ok (.iadd, 1) := by decide +kernel
theorem dX6_leaves_36 : decode cX6_leaves 36 = .ok (.aload_n 0, 1) := by decide +kernel
theorem dX6_leaves_37 : decode cX6_leaves 37 = .ok (.getfield 7, 3) := by decide +kernel
theorem dX6_leaves_40 : decode cX6_leaves 40 = .ok (.bipush 101, 2) := by decide +kernel
theorem dX6_leaves_42 : decode cX6_leaves 42 = .ok (.iload_n 2, 1) := by decide +kernel
theorem dX6_leaves_43 : decode cX6_leaves 43 = .ok (.iadd, 1) := by decide +kernel
theorem dX6_leaves_44 : decode cX6_leaves 44 = .ok (.bipush 6, 2) := by decide +kernel
theorem dX6_leaves_46 : decode cX6_leaves 46 = .ok (.iadd, 1) := by decide +kernel
theorem dX6_leaves_47 : decode cX6_leaves 47 = .ok (.iaload, 1) := by decide +kernel
theorem dX6_leaves_48 : decode cX6_leaves 48 = .ok (.iastore, 1) := by decide +kernel
theorem dX6_leaves_49 : decode cX6_leaves 49 = .ok (.iinc 2 1, 3) := by decide +kernel
theorem dX6_leaves_52 : decode cX6_leaves 52 = .ok (.goto (-37), 3) := by decide +kernel
theorem dX6_leaves_55 : decode cX6_leaves 55 = .ok (.iconst 0, 1) := by decide +kernel
theorem dX6_leaves_56 : decode cX6_leaves 56 = .ok (.istore_n 2, 1) := by decide +kernel
theorem dX6_leaves_57 : decode cX6_leaves 57 = .ok (.iload_n 2, 1) := by decide +kernel
theorem dX6_leaves_58 : decode cX6_leaves 58 = .ok (.bipush 6, 2) := by decide +kernel
theorem dX6_leaves_60 : decode cX6_leaves 60 = .ok (.if_icmp .ge 21, 3) := by decide +kernel
theorem dX6_leaves_63 : decode cX6_leaves 63 = .ok (.aload_n 0, 1) := by decide +kernel
theorem dX6_leaves_64 : decode cX6_leaves 64 = .ok (.aload_n 0, 1) := by decide +kernel
theorem dX6_leaves_65 : decode cX6_leaves 65 = .ok (.getfield 7, 3) := by decide +kernel
theorem dX6_leaves_68 : decode cX6_leaves 68 = .ok (.iconst 4, 1) := by decide +kernel
theorem dX6_leaves_69 : decode cX6_leaves 69 = .ok (.iaload, 1) := by decide +kernel
theorem dX6_leaves_70 : decode cX6_leaves 70 = .ok (.iload_n 2, 1) := by decide +kernel
theorem dX6_leaves_71 : decode cX6_leaves 71 = .ok (.iconst 0, 1) := by decide +kernel
theorem dX6_leaves_72 : decode cX6_leaves 72 = .ok (.invokevirtual 46, 3) := by decide +kernel
theorem dX6_leaves_75 : decode cX6_leaves 75 = .ok (.iinc 2 1, 3) := by decide +kernel
theorem dX6_leaves_78 : decode cX6_leaves 78 = .ok (.goto (-21), 3) := by decide +kernel
theorem dX6_leaves_81 : decode cX6_leaves 81 = .ok (.return_, 1) := by decide +kernel
theorem dX6_nextFor_0 : decode cX6_nextFor 0 = .ok (.bipush (-5), 2) := by decide +kernel
theorem dX6_nextFor_2 : decode cX6_nextFor 2 = .ok (.istore_n 2, 1) := by decide +kernel
theorem dX6_nextFor_3 : decode cX6_nextFor 3 = .ok (.iconst 0, 1) := by decide +kernel
theorem dX6_nextFor_4 : decode cX6_nextFor 4 = .ok (.istore_n 3, 1) := by decide +kernel
theorem dX6_nextFor_5 : decode cX6_nextFor 5 = .ok (.iload_n 3, 1) := by decide +kernel
theorem dX6_nextFor_6 : decode cX6_nextFor 6 = .ok (.aload_n 0, 1) := by decide +kernel
theorem dX6_nextFor_7 : decode cX6_nextFor 7 = .ok (.getfield 7, 3) := by decide +kernel
theorem dX6_nextFor_10 : decode cX6_nextFor 10 = .ok (.iconst 4, 1) := by decide +kernel
theorem dX6_nextFor_11 : decode cX6_nextFor 11 = .ok (.iaload, 1) := by decide +kernel
theorem dX6_nextFor_12 : decode cX6_nextFor 12 = .ok (.if_icmp .ge 68, 3) := by decide +kernel
theorem dX6_nextFor_15 : decode cX6_nextFor 15 = .ok (.aload_n 0, 1) := by decide +kernel
theorem dX6_nextFor_16 : decode cX6_nextFor 16 = .ok (.iload_n 3, 1) := by decide +kernel
theorem dX6_nextFor_17 : decode cX6_nextFor 17 = .ok (.iconst 1, 1) := by decide +kernel
theorem dX6_nextFor_18 : decode cX6_nextFor 18 = .ok (.invokevirtual 36, 3) := by decide +kernel
theorem dX6_nextFor_21 : decode cX6_nextFor 21 = .ok (.iload_n 1, 1) := by decide +kernel
theorem dX6_nextFor_22 : decode cX6_nextFor 22 = .ok (.if_icmp .ne 17, 3) := by decide +kernel
theorem dX6_nextFor_25 : decode cX6_nextFor 25 = .ok (.aload_n 0, 1) := by decide +kernel
theorem dX6_nextFor_26 : decode cX6_nextFor 26 = .ok (.iload_n 3, 1) := by decide +kernel
theorem dX6_nextFor_27 : decode cX6_nextFor 27 = .ok (.iconst 5, 1) := by decide +kernel
theorem dX6_nextFor_28 : decode cX6_nextFor 28 = .ok (.invokevirtual 36, 3) := by decide +kernel
theorem dX6_nextFor_31 : decode cX6_nextFor 31 = .ok (.iconst 1, 1) := by decide +kernel
theorem dX6_nextFor_32 : decode cX6_nextFor 32 = .ok (.if_icmp .ne 7, 3) := by decide +kernel
theorem dX6_nextFor_35 : decode cX6_nextFor 35 = .ok (.iconst 1, 1) := by decide +kernel
theorem dX6_nextFor_36 : decode cX6_nextFor 36 = .ok (.goto 4, 3) := by decide +kernel
theorem dX6_nextFor_39 : decode cX6_nextFor 39 = .ok (.iconst 0, 1) := by decide +kernel
theorem dX6_nextFor_40 : decode cX6_nextFor 40 = .ok (.istore 4, 2) := by decide +kernel
theorem dX6_nextFor_42 : decode cX6_nextFor 42 = .ok (.iload 4, 2) := by decide +kernel
theorem dX6_nextFor_44 : decode cX6_nextFor 44 = .ok (.ifCond .eq 28, 3) := by decide +kernel
theorem dX6_nextFor_47 : decode cX6_nextFor 47 = .ok (.iload_n 2, 1) := by decide +kernel
theorem dX6_nextFor_48 : decode cX6_nextFor 48 = .ok (.bipush (-5), 2) := by decide +kernel
theorem dX6_nextFor_50 : decode cX6_nextFor 50 = .ok (.if_icmp .eq 18, 3) := by decide +kernel
theorem dX6_nextFor_53 : decode cX6_nextFor 53 = .ok (.aload_n 0, 1) := by decide +kernel
theorem dX6_nextFor_54 : decode cX6_nextFor 54 = .ok (.iload_n 3, 1) := by decide +kernel
theorem dX6_nextFor_55 : decode cX6_nextFor 55 = .ok (.iconst 3, 1) := by decide +kernel
theorem dX6_nextFor_56 : decode cX6_nextFor 56 = .ok (.invokevirtual 36, 3) := by decide +kernel
theorem dX6_nextFor_59 : decode cX6_nextFor 59 = .ok (.aload_n 0, 1) := by decide +kernel
theorem dX6_nextFor_60 : decode cX6_nextFor 60 = .ok (.iload_n 2, 1) := by decide +kernel
theorem dX6_nextFor_61 : decode cX6_nextFor 61 = .ok (.iconst 3, 1) := by decide +kernel
theorem dX6_nextFor_62 : decode cX6_nextFor 62 = .ok (.invokevirtual 36, 3) := by decide +kernel
theorem dX6_nextFor_65 : decode cX6_nextFor 65 = .ok (.if_icmp .ge 7, 3) := by decide +kernel
theorem dX6_nextFor_68 : decode cX6_nextFor 68 = .ok (.iload_n 3, 1) := by decide +kernel
theorem dX6_nextFor_69 : decode cX6_nextFor 69 = .ok (.goto 4, 3) := by decide +kernel
theorem dX6_nextFor_72 : decode cX6_nextFor 72 = .ok (.iload_n 2, 1) := by decide +kernel
theorem dX6_nextFor_73 : decode cX6_nextFor 73 = .ok (.istore_n 2, 1) := by decide +kernel
theorem dX6_nextFor_74 : decode cX6_nextFor 74 = .ok (.iinc 3 1, 3) := by decide +kernel
theorem dX6_nextFor_77 : decode cX6_nextFor 77 = .ok (.goto (-72), 3) := by decide +kernel
theorem dX6_nextFor_80 : decode cX6_nextFor 80 = .ok (.iload_n 2, 1) := by decide +kernel
theorem dX6_nextFor_81 : decode cX6_nextFor 81 = .ok (.ireturn, 1) := by decide +kernel
theorem dX6_serves_0 : decode cX6_serves 0 = .ok (.aload_n 0, 1) := by decide +kernel
theorem dX6_serves_1 : decode cX6_serves 1 = .ok (.getfield 7, 3) := by decide +kernel
theorem dX6_serves_4 : decode cX6_serves 4 = .ok (.bipush 9, 2) := by decide +kernel
theorem dX6_serves_6 : decode cX6_serves 6 = .ok (.iload_n 1, 1) := by decide +kernel
theorem dX6_serves_7 : decode cX6_serves 7 = .ok (.iadd, 1) := by decide +kernel
theorem dX6_serves_8 : decode cX6_serves 8 = .ok (.iaload, 1) := by decide +kernel
theorem dX6_serves_9 : decode cX6_serves 9 = .ok (.istore_n 2, 1) := by decide +kernel
theorem dX6_serves_10 : decode cX6_serves 10 = .ok (.iconst 0, 1) := by decide +kernel
theorem dX6_serves_11 : decode cX6_serves 11 = .ok (.istore_n 3, 1) := by decide +kernel
theorem dX6_serves_12 : decode cX6_serves 12 = .ok (.aload_n 0, 1) := by decide +kernel
theorem dX6_serves_13 : decode cX6_serves 13 = .ok (.iload_n 2, 1) := by decide +kernel
theorem dX6_serves_14 : decode cX6_serves 14 = .ok (.invokevirtual 50, 3) := by decide +kernel
theorem dX6_serves_17 : decode cX6_serves 17 = .ok (.istore 4, 2) := by decide +kernel
theorem dX6_serves_19 : decode cX6_serves 19 = .ok (.iload_n 3, 1) := by decide +kernel
theorem dX6_serves_20 : decode cX6_serves 20 = .ok (.aload_n 0, 1) := by decide +kernel
theorem dX6_serves_21 : decode cX6_serves 21 = .ok (.getfield 7, 3) := by decide +kernel
theorem dX6_serves_24 : decode cX6_serves 24 = .ok (.iconst 0, 1) := by decide +kernel
theorem dX6_serves_25 : decode cX6_serves 25 = .ok (.iaload, 1) := by decide +kernel
theorem dX6_serves_26 : decode cX6_serves 26 = .ok (.if_icmp .ge 41, 3) := by decide +kernel
theorem dX6_serves_29 : decode cX6_serves 29 = .ok (.iload 4, 2) := by decide +kernel
theorem dX6_serves_31 : decode cX6_serves 31 = .ok (.bipush (-5), 2) := by decide +kernel
theorem dX6_serves_33 : decode cX6_serves 33 = .ok (.if_icmp .eq 34, 3) := by decide +kernel
theorem dX6_serves_36 : decode cX6_serves 36 = .ok (.aload_n 0, 1) := by decide +kernel
theorem dX6_serves_37 : decode cX6_serves 37 = .ok (.iload_n 2, 1) := by decide +kernel
theorem dX6_serves_38 : decode cX6_serves 38 = .ok (.iconst 2, 1) := by decide +kernel
theorem dX6_serves_39 : decode cX6_serves 39 = .ok (.aload_n 0, 1) := by decide +kernel
theorem dX6_serves_40 : decode cX6_serves 40 = .ok (.iload 4, 2) := by decide +kernel
theorem dX6_serves_42 : decode cX6_serves 42 = .ok (.invokevirtual 54, 3) := by decide +kernel
theorem dX6_serves_45 : decode cX6_serves 45 = .ok (.invokevirtual 57, 3) := by decide +kernel
theorem dX6_serves_48 : decode cX6_serves 48 = .ok (.aload_n 0, 1) := by decide +kernel
theorem dX6_serves_49 : decode cX6_serves 49 = .ok (.iload 4, 2) := by decide +kernel
theorem dX6_serves_51 : decode cX6_serves 51 = .ok (.invokevirtual 60, 3) := by decide +kernel
theorem dX6_serves_54 : decode cX6_serves 54 = .ok (.iinc 3 1, 3) := by decide +kernel
theorem dX6_serves_57 : decode cX6_serves 57 = .ok (.aload_n 0, 1) := by decide +kernel
theorem dX6_serves_58 : decode cX6_serves 58 = .ok (.iload_n 2, 1) := by decide +kernel
theorem dX6_serves_59 : decode cX6_serves 59 = .ok (.invokevirtual 50, 3) := by decide +kernel
theorem dX6_serves_62 : decode cX6_serves 62 = .ok (.istore 4, 2) := by decide +kernel
theorem dX6_serves_64 : decode cX6_serves 64 = .ok (.goto (-45), 3) := by decide +kernel
theorem dX6_serves_67 : decode cX6_serves 67 = .ok (.aload_n 0, 1) := by decide +kernel
theorem dX6_serves_68 : decode cX6_serves 68 = .ok (.getfield 7, 3) := by decide +kernel
theorem dX6_serves_71 : decode cX6_serves 71 = .ok (.bipush 9, 2) := by decide +kernel
theorem dX6_serves_73 : decode cX6_serves 73 = .ok (.iload_n 1, 1) := by decide +kernel
theorem dX6_serves_74 : decode cX6_serves 74 = .ok (.iadd, 1) := by decide +kernel
theorem dX6_serves_75 : decode cX6_serves 75 = .ok (.iload_n 2, 1) := by decide +kernel
theorem dX6_serves_76 : decode cX6_serves 76 = .ok (.iconst 1, 1) := by decide +kernel
theorem dX6_serves_77 : decode cX6_serves 77 = .ok (.iadd, 1) := by decide +kernel
theorem dX6_serves_78 : decode cX6_serves 78 = .ok (.bipush 10, 2) := by decide +kernel
theorem dX6_serves_80 : decode cX6_serves 80 = .ok (.irem, 1) := by decide +kernel
theorem dX6_serves_81 : decode cX6_serves 81 = .ok (.iastore, 1) := by decide +kernel
theorem dX6_serves_82 : decode cX6_serves 82 = .ok (.aload_n 0, 1) := by decide +kernel
theorem dX6_serves_83 : decode cX6_serves 83 = .ok (.getfield 7, 3) := by decide +kernel
theorem dX6_serves_86 : decode cX6_serves 86 = .ok (.bipush 6, 2) := by decide +kernel
theorem dX6_serves_88 : decode cX6_serves 88 = .ok (.dup2, 1) := by decide +kernel
theorem dX6_serves_89 : decode cX6_serves 89 = .ok (.iaload, 1) := by decide +kernel
theorem dX6_serves_90 : decode cX6_serves 90 = .ok (.iload_n 3, 1) := by decide +kernel
theorem dX6_serves_91 : decode cX6_serves 91 = .ok (.iadd, 1) := by decide +kernel
theorem dX6_serves_92 : decode cX6_serves 92 = .ok (.iastore, 1) := by decide +kernel
theorem dX6_serves_93 : decode cX6_serves 93 = .ok (.iload_n 3, 1) := by decide +kernel
theorem dX6_serves_94 : decode cX6_serves 94 = .ok (.ireturn, 1) := by decide +kernel
theorem dX6_passes_0 : decode cX6_passes 0 = .ok (.aload_n 0, 1) := by decide +kernel
theorem dX6_passes_1 : decode cX6_passes 1 = .ok (.iload_n 1, 1) := by decide +kernel
theorem dX6_passes_2 : decode cX6_passes 2 = .ok (.invokevirtual 64, 3) := by decide +kernel
theorem dX6_passes_5 : decode cX6_passes 5 = .ok (.aload_n 0, 1) := by decide +kernel
theorem dX6_passes_6 : decode cX6_passes 6 = .ok (.iconst 0, 1) := by decide +kernel
theorem dX6_passes_7 : decode cX6_passes 7 = .ok (.invokevirtual 67, 3) := by decide +kernel
theorem dX6_passes_10 : decode cX6_passes 10 = .ok (.istore_n 2, 1) := by decide +kernel
theorem dX6_passes_11 : decode cX6_passes 11 = .ok (.iload_n 2, 1) := by decide +kernel
theorem dX6_passes_12 : decode cX6_passes 12 = .ok (.aload_n 0, 1) := by decide +kernel
theorem dX6_passes_13 : decode cX6_passes 13 = .ok (.iconst 1, 1) := by decide +kernel
theorem dX6_passes_14 : decode cX6_passes 14 = .ok (.invokevirtual 67, 3) := by decide +kernel
theorem dX6_passes_17 : decode cX6_passes 17 = .ok (.iadd, 1) := by decide +kernel
theorem dX6_passes_18 : decode cX6_passes 18 = .ok (.istore_n 2, 1) := by decide +kernel
theorem dX6_passes_19 : decode cX6_passes 19 = .ok (.aload_n 0, 1) := by decide +kernel
theorem dX6_passes_20 : decode cX6_passes 20 = .ok (.getfield 7, 3) := by decide +kernel
theorem dX6_passes_23 : decode cX6_passes 23 = .ok (.iconst 2, 1) := by decide +kernel
theorem dX6_passes_24 : decode cX6_passes 24 = .ok (.dup2, 1) := by decide +kernel
theorem dX6_passes_25 : decode cX6_passes 25 = .ok (.iaload, 1) := by decide +kernel
theorem dX6_passes_26 : decode cX6_passes 26 = .ok (.iconst 1, 1) := by decide +kernel
theorem dX6_passes_27 : decode cX6_passes 27 = .ok (.iadd, 1) := by decide +kernel
theorem dX6_passes_28 : decode cX6_passes 28 = .ok (.iastore, 1) := by decide +kernel
theorem dX6_passes_29 : decode cX6_passes 29 = .ok (.iload_n 2, 1) := by decide +kernel
theorem dX6_passes_30 : decode cX6_passes 30 = .ok (.ireturn, 1) := by decide +kernel
theorem dX6_lend_0 : decode cX6_lend 0 = .ok (.aload_n 0, 1) := by decide +kernel
theorem dX6_lend_1 : decode cX6_lend 1 = .ok (.iconst 0, 1) := by decide +kernel
theorem dX6_lend_2 : decode cX6_lend 2 = .ok (.putfield 28, 3) := by decide +kernel
theorem dX6_lend_5 : decode cX6_lend 5 = .ok (.iload_n 1, 1) := by decide +kernel
theorem dX6_lend_6 : decode cX6_lend 6 = .ok (.invokestatic 70, 3) := by decide +kernel
theorem dX6_lend_9 : decode cX6_lend 9 = .ok (.ifCond .eq 10, 3) := by decide +kernel
theorem dX6_lend_12 : decode cX6_lend 12 = .ok (.iload_n 2, 1) := by decide +kernel
theorem dX6_lend_13 : decode cX6_lend 13 = .ok (.invokestatic 74, 3) := by decide +kernel
theorem dX6_lend_16 : decode cX6_lend 16 = .ok (.ifCond .ne 5, 3) := by decide +kernel
theorem dX6_lend_19 : decode cX6_lend 19 = .ok (.iconst (-1), 1) := by decide +kernel
theorem dX6_lend_20 : decode cX6_lend 20 = .ok (.ireturn, 1) := by decide +kernel
theorem dX6_lend_21 : decode cX6_lend 21 = .ok (.aload_n 0, 1) := by decide +kernel
theorem dX6_lend_22 : decode cX6_lend 22 = .ok (.iload_n 1, 1) := by decide +kernel
theorem dX6_lend_23 : decode cX6_lend 23 = .ok (.iconst 2, 1) := by decide +kernel
theorem dX6_lend_24 : decode cX6_lend 24 = .ok (.invokevirtual 77, 3) := by decide +kernel
theorem dX6_lend_27 : decode cX6_lend 27 = .ok (.istore_n 3, 1) := by decide +kernel
theorem dX6_lend_28 : decode cX6_lend 28 = .ok (.iload_n 3, 1) := by decide +kernel
theorem dX6_lend_29 : decode cX6_lend 29 = .ok (.iload_n 2, 1) := by decide +kernel
theorem dX6_lend_30 : decode cX6_lend 30 = .ok (.if_icmp .ne 6, 3) := by decide +kernel
theorem dX6_lend_33 : decode cX6_lend 33 = .ok (.bipush (-5), 2) := by decide +kernel
theorem dX6_lend_35 : decode cX6_lend 35 = .ok (.ireturn, 1) := by decide +kernel
theorem dX6_lend_36 : decode cX6_lend 36 = .ok (.aload_n 0, 1) := by decide +kernel
theorem dX6_lend_37 : decode cX6_lend 37 = .ok (.invokevirtual 80, 3) := by decide +kernel
theorem dX6_lend_40 : decode cX6_lend 40 = .ok (.aload_n 0, 1) := by decide +kernel
theorem dX6_lend_41 : decode cX6_lend 41 = .ok (.getfield 7, 3) := by decide +kernel
theorem dX6_lend_44 : decode cX6_lend 44 = .ok (.bipush 41, 2) := by decide +kernel
theorem dX6_lend_46 : decode cX6_lend 46 = .ok (.iconst 3, 1) := by decide +kernel
theorem dX6_lend_47 : decode cX6_lend 47 = .ok (.iload_n 1, 1) := by decide +kernel
theorem dX6_lend_48 : decode cX6_lend 48 = .ok (.imul, 1) := by decide +kernel
theorem dX6_lend_49 : decode cX6_lend 49 = .ok (.iadd, 1) := by decide +kernel
theorem dX6_lend_50 : decode cX6_lend 50 = .ok (.iconst 2, 1) := by decide +kernel
theorem dX6_lend_51 : decode cX6_lend 51 = .ok (.iadd, 1) := by decide +kernel
theorem dX6_lend_52 : decode cX6_lend 52 = .ok (.iload_n 2, 1) := by decide +kernel
theorem dX6_lend_53 : decode cX6_lend 53 = .ok (.iastore, 1) := by decide +kernel
theorem dX6_lend_54 : decode cX6_lend 54 = .ok (.iload_n 3, 1) := by decide +kernel
theorem dX6_lend_55 : decode cX6_lend 55 = .ok (.ireturn, 1) := by decide +kernel
theorem dX6_handOver_0 : decode cX6_handOver 0 = .ok (.aload_n 0, 1) := by decide +kernel
theorem dX6_handOver_1 : decode cX6_handOver 1 = .ok (.iconst 0, 1) := by decide +kernel
theorem dX6_handOver_2 : decode cX6_handOver 2 = .ok (.putfield 28, 3) := by decide +kernel
theorem dX6_handOver_5 : decode cX6_handOver 5 = .ok (.iload_n 1, 1) := by decide +kernel
theorem dX6_handOver_6 : decode cX6_handOver 6 = .ok (.invokestatic 70, 3) := by decide +kernel
theorem dX6_handOver_9 : decode cX6_handOver 9 = .ok (.ifCond .eq 10, 3) := by decide +kernel
theorem dX6_handOver_12 : decode cX6_handOver 12 = .ok (.iload_n 2, 1) := by decide +kernel
theorem dX6_handOver_13 : decode cX6_handOver 13 = .ok (.invokestatic 74, 3) := by decide +kernel
theorem dX6_handOver_16 : decode cX6_handOver 16 = .ok (.ifCond .ne 5, 3) := by decide +kernel
theorem dX6_handOver_19 : decode cX6_handOver 19 = .ok (.iconst (-1), 1) := by decide +kernel
theorem dX6_handOver_20 : decode cX6_handOver 20 = .ok (.ireturn, 1) := by decide +kernel
theorem dX6_handOver_21 : decode cX6_handOver 21 = .ok (.aload_n 0, 1) := by decide +kernel
theorem dX6_handOver_22 : decode cX6_handOver 22 = .ok (.iload_n 1, 1) := by decide +kernel
theorem dX6_handOver_23 : decode cX6_handOver 23 = .ok (.iconst 1, 1) := by decide +kernel
theorem dX6_handOver_24 : decode cX6_handOver 24 = .ok (.invokevirtual 77, 3) := by decide +kernel
theorem dX6_handOver_27 : decode cX6_handOver 27 = .ok (.istore_n 3, 1) := by decide +kernel
theorem dX6_handOver_28 : decode cX6_handOver 28 = .ok (.iload_n 3, 1) := by decide +kernel
theorem dX6_handOver_29 : decode cX6_handOver 29 = .ok (.iload_n 2, 1) := by decide +kernel
theorem dX6_handOver_30 : decode cX6_handOver 30 = .ok (.if_icmp .ne 6, 3) := by decide +kernel
theorem dX6_handOver_33 : decode cX6_handOver 33 = .ok (.bipush (-5), 2) := by decide +kernel
theorem dX6_handOver_35 : decode cX6_handOver 35 = .ok (.ireturn, 1) := by decide +kernel
theorem dX6_handOver_36 : decode cX6_handOver 36 = .ok (.aload_n 0, 1) := by decide +kernel
theorem dX6_handOver_37 : decode cX6_handOver 37 = .ok (.invokevirtual 80, 3) := by decide +kernel
theorem dX6_handOver_40 : decode cX6_handOver 40 = .ok (.aload_n 0, 1) := by decide +kernel
theorem dX6_handOver_41 : decode cX6_handOver 41 = .ok (.getfield 7, 3) := by decide +kernel
theorem dX6_handOver_44 : decode cX6_handOver 44 = .ok (.bipush 41, 2) := by decide +kernel
theorem dX6_handOver_46 : decode cX6_handOver 46 = .ok (.iconst 3, 1) := by decide +kernel
theorem dX6_handOver_47 : decode cX6_handOver 47 = .ok (.iload_n 1, 1) := by decide +kernel
theorem dX6_handOver_48 : decode cX6_handOver 48 = .ok (.imul, 1) := by decide +kernel
theorem dX6_handOver_49 : decode cX6_handOver 49 = .ok (.iadd, 1) := by decide +kernel
theorem dX6_handOver_50 : decode cX6_handOver 50 = .ok (.iconst 1, 1) := by decide +kernel
theorem dX6_handOver_51 : decode cX6_handOver 51 = .ok (.iadd, 1) := by decide +kernel
theorem dX6_handOver_52 : decode cX6_handOver 52 = .ok (.iload_n 2, 1) := by decide +kernel
theorem dX6_handOver_53 : decode cX6_handOver 53 = .ok (.iastore, 1) := by decide +kernel
theorem dX6_handOver_54 : decode cX6_handOver 54 = .ok (.aload_n 0, 1) := by decide +kernel
theorem dX6_handOver_55 : decode cX6_handOver 55 = .ok (.getfield 7, 3) := by decide +kernel
theorem dX6_handOver_58 : decode cX6_handOver 58 = .ok (.bipush 41, 2) := by decide +kernel
theorem dX6_handOver_60 : decode cX6_handOver 60 = .ok (.iconst 3, 1) := by decide +kernel
theorem dX6_handOver_61 : decode cX6_handOver 61 = .ok (.iload_n 1, 1) := by decide +kernel
theorem dX6_handOver_62 : decode cX6_handOver 62 = .ok (.imul, 1) := by decide +kernel
theorem dX6_handOver_63 : decode cX6_handOver 63 = .ok (.iadd, 1) := by decide +kernel
theorem dX6_handOver_64 : decode cX6_handOver 64 = .ok (.iconst 2, 1) := by decide +kernel
theorem dX6_handOver_65 : decode cX6_handOver 65 = .ok (.iadd, 1) := by decide +kernel
theorem dX6_handOver_66 : decode cX6_handOver 66 = .ok (.iload_n 2, 1) := by decide +kernel
theorem dX6_handOver_67 : decode cX6_handOver 67 = .ok (.iastore, 1) := by decide +kernel
theorem dX6_handOver_68 : decode cX6_handOver 68 = .ok (.iload_n 3, 1) := by decide +kernel
theorem dX6_handOver_69 : decode cX6_handOver 69 = .ok (.ireturn, 1) := by decide +kernel
theorem dX6_setDays_0 : decode cX6_setDays 0 = .ok (.aload_n 0, 1) := by decide +kernel
theorem dX6_setDays_1 : decode cX6_setDays 1 = .ok (.iconst 0, 1) := by decide +kernel
theorem dX6_setDays_2 : decode cX6_setDays 2 = .ok (.putfield 28, 3) := by decide +kernel
theorem dX6_setDays_5 : decode cX6_setDays 5 = .ok (.iload_n 1, 1) := by decide +kernel
theorem dX6_setDays_6 : decode cX6_setDays 6 = .ok (.invokestatic 74, 3) := by decide +kernel
theorem dX6_setDays_9 : decode cX6_setDays 9 = .ok (.ifCond .ne 5, 3) := by decide +kernel
theorem dX6_setDays_12 : decode cX6_setDays 12 = .ok (.iconst (-1), 1) := by decide +kernel
theorem dX6_setDays_13 : decode cX6_setDays 13 = .ok (.ireturn, 1) := by decide +kernel
theorem dX6_setDays_14 : decode cX6_setDays 14 = .ok (.iload_n 2, 1) := by decide +kernel
theorem dX6_setDays_15 : decode cX6_setDays 15 = .ok (.iconst 0, 1) := by decide +kernel
theorem dX6_setDays_16 : decode cX6_setDays 16 = .ok (.bipush 20, 2) := by decide +kernel
theorem dX6_setDays_18 : decode cX6_setDays 18 = .ok (.invokestatic 32, 3) := by decide +kernel
theorem dX6_setDays_21 : decode cX6_setDays 21 = .ok (.ifCond .ne 6, 3) := by decide +kernel
theorem dX6_setDays_24 : decode cX6_setDays 24 = .ok (.bipush (-2), 2) := by decide +kernel
theorem dX6_setDays_26 : decode cX6_setDays 26 = .ok (.ireturn, 1) := by decide +kernel
theorem dX6_setDays_27 : decode cX6_setDays 27 = .ok (.aload_n 0, 1) := by decide +kernel
theorem dX6_setDays_28 : decode cX6_setDays 28 = .ok (.iload_n 1, 1) := by decide +kernel
theorem dX6_setDays_29 : decode cX6_setDays 29 = .ok (.iconst 0, 1) := by decide +kernel
theorem dX6_setDays_30 : decode cX6_setDays 30 = .ok (.invokevirtual 83, 3) := by decide +kernel
theorem dX6_setDays_33 : decode cX6_setDays 33 = .ok (.istore_n 3, 1) := by decide +kernel
theorem dX6_setDays_34 : decode cX6_setDays 34 = .ok (.iload_n 3, 1) := by decide +kernel
theorem dX6_setDays_35 : decode cX6_setDays 35 = .ok (.iload_n 2, 1) := by decide +kernel
theorem dX6_setDays_36 : decode cX6_setDays 36 = .ok (.if_icmp .ne 6, 3) := by decide +kernel
theorem dX6_setDays_39 : decode cX6_setDays 39 = .ok (.bipush (-5), 2) := by decide +kernel
theorem dX6_setDays_41 : decode cX6_setDays 41 = .ok (.ireturn, 1) := by decide +kernel
theorem dX6_setDays_42 : decode cX6_setDays 42 = .ok (.aload_n 0, 1) := by decide +kernel
theorem dX6_setDays_43 : decode cX6_setDays 43 = .ok (.invokevirtual 80, 3) := by decide +kernel
theorem dX6_setDays_46 : decode cX6_setDays 46 = .ok (.aload_n 0, 1) := by decide +kernel
theorem dX6_setDays_47 : decode cX6_setDays 47 = .ok (.iload_n 1, 1) := by decide +kernel
theorem dX6_setDays_48 : decode cX6_setDays 48 = .ok (.iconst 0, 1) := by decide +kernel
theorem dX6_setDays_49 : decode cX6_setDays 49 = .ok (.iload_n 2, 1) := by decide +kernel
theorem dX6_setDays_50 : decode cX6_setDays 50 = .ok (.iload_n 3, 1) := by decide +kernel
theorem dX6_setDays_51 : decode cX6_setDays 51 = .ok (.isub, 1) := by decide +kernel
theorem dX6_setDays_52 : decode cX6_setDays 52 = .ok (.invokevirtual 57, 3) := by decide +kernel
theorem dX6_setDays_55 : decode cX6_setDays 55 = .ok (.iload_n 3, 1) := by decide +kernel
theorem dX6_setDays_56 : decode cX6_setDays 56 = .ok (.ireturn, 1) := by decide +kernel
theorem dX6_set_0 : decode cX6_set 0 = .ok (.aload_n 0, 1) := by decide +kernel
theorem dX6_set_1 : decode cX6_set 1 = .ok (.iconst 0, 1) := by decide +kernel
theorem dX6_set_2 : decode cX6_set 2 = .ok (.putfield 28, 3) := by decide +kernel
theorem dX6_set_5 : decode cX6_set 5 = .ok (.iload_n 1, 1) := by decide +kernel
theorem dX6_set_6 : decode cX6_set 6 = .ok (.ifCond .ne 13, 3) := by decide +kernel
theorem dX6_set_9 : decode cX6_set 9 = .ok (.iload_n 2, 1) := by decide +kernel
theorem dX6_set_10 : decode cX6_set 10 = .ok (.iconst 1, 1) := by decide +kernel
theorem dX6_set_11 : decode cX6_set 11 = .ok (.bipush 6, 2) := by decide +kernel
theorem dX6_set_13 : decode cX6_set 13 = .ok (.invokestatic 32, 3) := by decide +kernel
theorem dX6_set_16 : decode cX6_set 16 = .ok (.goto 22, 3) := by decide +kernel
theorem dX6_set_19 : decode cX6_set 19 = .ok (.iload_n 1, 1) := by decide +kernel
theorem dX6_set_20 : decode cX6_set 20 = .ok (.iconst 1, 1) := by decide +kernel
theorem dX6_set_21 : decode cX6_set 21 = .ok (.if_icmp .ne 16, 3) := by decide +kernel
theorem dX6_set_24 : decode cX6_set 24 = .ok (.iload_n 2, 1) := by decide +kernel
theorem dX6_set_25 : decode cX6_set 25 = .ok (.iconst 0, 1) := by decide +kernel
theorem dX6_set_26 : decode cX6_set 26 = .ok (.iconst 1, 1) := by decide +kernel
theorem dX6_set_27 : decode cX6_set 27 = .ok (.invokestatic 32, 3) := by decide +kernel
theorem dX6_set_30 : decode cX6_set 30 = .ok (.ifCond .eq 7, 3) := by decide +kernel
theorem dX6_set_33 : decode cX6_set 33 = .ok (.iconst 1, 1) := by decide +kernel
theorem dX6_set_34 : decode cX6_set 34 = .ok (.goto 4, 3) := by decide +kernel
theorem dX6_set_37 : decode cX6_set 37 = .ok (.iconst 0, 1) := by decide +kernel
theorem dX6_set_38 : decode cX6_set 38 = .ok (.istore_n 3, 1) := by decide +kernel
theorem dX6_set_39 : decode cX6_set 39 = .ok (.iload_n 3, 1) := by decide +kernel
theorem dX6_set_40 : decode cX6_set 40 = .ok (.ifCond .ne 6, 3) := by decide +kernel
theorem dX6_set_43 : decode cX6_set 43 = .ok (.bipush (-2), 2) := by decide +kernel
theorem dX6_set_45 : decode cX6_set 45 = .ok (.ireturn, 1) := by decide +kernel
theorem dX6_set_46 : decode cX6_set 46 = .ok (.aload_n 0, 1) := by decide +kernel
theorem dX6_set_47 : decode cX6_set 47 = .ok (.getfield 7, 3) := by decide +kernel
theorem dX6_set_50 : decode cX6_set 50 = .ok (.iload_n 1, 1) := by decide +kernel
theorem dX6_set_51 : decode cX6_set 51 = .ok (.iaload, 1) := by decide +kernel
theorem dX6_set_52 : decode cX6_set 52 = .ok (.istore 4, 2) := by decide +kernel
theorem dX6_set_54 : decode cX6_set 54 = .ok (.iload 4, 2) := by decide +kernel
theorem dX6_set_56 : decode cX6_set 56 = .ok (.iload_n 2, 1) := by decide +kernel
theorem dX6_set_57 : decode cX6_set 57 = .ok (.if_icmp .ne 6, 3) := by decide +kernel
theorem dX6_set_60 : decode cX6_set 60 = .ok (.bipush (-5), 2) := by decide +kernel
theorem dX6_set_62 : decode cX6_set 62 = .ok (.ireturn, 1) := by decide +kernel
theorem dX6_set_63 : decode cX6_set 63 = .ok (.aload_n 0, 1) := by decide +kernel
theorem dX6_set_64 : decode cX6_set 64 = .ok (.invokevirtual 80, 3) := by decide +kernel
theorem dX6_set_67 : decode cX6_set 67 = .ok (.aload_n 0, 1) := by decide +kernel
theorem dX6_set_68 : decode cX6_set 68 = .ok (.getfield 7, 3) := by decide +kernel
theorem dX6_set_71 : decode cX6_set 71 = .ok (.iload_n 1, 1) := by decide +kernel
theorem dX6_set_72 : decode cX6_set 72 = .ok (.iload_n 2, 1) := by decide +kernel
theorem dX6_set_73 : decode cX6_set 73 = .ok (.iastore, 1) := by decide +kernel
theorem dX6_set_74 : decode cX6_set 74 = .ok (.iload 4, 2) := by decide +kernel
theorem dX6_set_76 : decode cX6_set 76 = .ok (.ireturn, 1) := by decide +kernel
theorem dX6_hasRight_0 : decode cX6_hasRight 0 = .ok (.iload_n 2, 1) := by decide +kernel
theorem dX6_hasRight_1 : decode cX6_hasRight 1 = .ok (.invokestatic 70, 3) := by decide +kernel
theorem dX6_hasRight_4 : decode cX6_hasRight 4 = .ok (.ifCond .eq 17, 3) := by decide +kernel
theorem dX6_hasRight_7 : decode cX6_hasRight 7 = .ok (.aload_n 0, 1) := by decide +kernel
theorem dX6_hasRight_8 : decode cX6_hasRight 8 = .ok (.iload_n 2, 1) := by decide +kernel
theorem dX6_hasRight_9 : decode cX6_hasRight 9 = .ok (.iconst 2, 1) := by decide +kernel
theorem dX6_hasRight_10 : decode cX6_hasRight 10 = .ok (.invokevirtual 77, 3) := by decide +kernel
theorem dX6_hasRight_13 : decode cX6_hasRight 13 = .ok (.iload_n 1, 1) := by decide +kernel
theorem dX6_hasRight_14 : decode cX6_hasRight 14 = .ok (.if_icmp .ne 7, 3) := by decide +kernel
theorem dX6_hasRight_17 : decode cX6_hasRight 17 = .ok (.iconst 1, 1) := by decide +kernel
theorem dX6_hasRight_18 : decode cX6_hasRight 18 = .ok (.goto 4, 3) := by decide +kernel
theorem dX6_hasRight_21 : decode cX6_hasRight 21 = .ok (.iconst 0, 1) := by decide +kernel
theorem dX6_hasRight_22 : decode cX6_hasRight 22 = .ok (.ireturn, 1) := by decide +kernel
theorem dX6_reason_0 : decode cX6_reason 0 = .ok (.aload_n 0, 1) := by decide +kernel
theorem dX6_reason_1 : decode cX6_reason 1 = .ok (.iload_n 1, 1) := by decide +kernel
theorem dX6_reason_2 : decode cX6_reason 2 = .ok (.iconst 1, 1) := by decide +kernel
theorem dX6_reason_3 : decode cX6_reason 3 = .ok (.invokevirtual 83, 3) := by decide +kernel
theorem dX6_reason_6 : decode cX6_reason 6 = .ok (.aload_n 0, 1) := by decide +kernel
theorem dX6_reason_7 : decode cX6_reason 7 = .ok (.iload_n 1, 1) := by decide +kernel
theorem dX6_reason_8 : decode cX6_reason 8 = .ok (.iconst 0, 1) := by decide +kernel
theorem dX6_reason_9 : decode cX6_reason 9 = .ok (.invokevirtual 83, 3) := by decide +kernel
theorem dX6_reason_12 : decode cX6_reason 12 = .ok (.if_icmp .lt 5, 3) := by decide +kernel
theorem dX6_reason_15 : decode cX6_reason 15 = .ok (.iconst 1, 1) := by decide +kernel
theorem dX6_reason_16 : decode cX6_reason 16 = .ok (.ireturn, 1) := by decide +kernel
theorem dX6_reason_17 : decode cX6_reason 17 = .ok (.aload_n 0, 1) := by decide +kernel
theorem dX6_reason_18 : decode cX6_reason 18 = .ok (.iload_n 2, 1) := by decide +kernel
theorem dX6_reason_19 : decode cX6_reason 19 = .ok (.iconst 0, 1) := by decide +kernel
theorem dX6_reason_20 : decode cX6_reason 20 = .ok (.invokevirtual 77, 3) := by decide +kernel
theorem dX6_reason_23 : decode cX6_reason 23 = .ok (.ifCond .eq 14, 3) := by decide +kernel
theorem dX6_reason_26 : decode cX6_reason 26 = .ok (.aload_n 0, 1) := by decide +kernel
theorem dX6_reason_27 : decode cX6_reason 27 = .ok (.getfield 7, 3) := by decide +kernel
theorem dX6_reason_30 : decode cX6_reason 30 = .ok (.iconst 4, 1) := by decide +kernel
theorem dX6_reason_31 : decode cX6_reason 31 = .ok (.iaload, 1) := by decide +kernel
theorem dX6_reason_32 : decode cX6_reason 32 = .ok (.bipush 60, 2) := by decide +kernel
theorem dX6_reason_34 : decode cX6_reason 34 = .ok (.if_icmp .ne 18, 3) := by decide +kernel
theorem dX6_reason_37 : decode cX6_reason 37 = .ok (.aload_n 0, 1) := by decide +kernel
theorem dX6_reason_38 : decode cX6_reason 38 = .ok (.iload_n 2, 1) := by decide +kernel
theorem dX6_reason_39 : decode cX6_reason 39 = .ok (.iconst 0, 1) := by decide +kernel
theorem dX6_reason_40 : decode cX6_reason 40 = .ok (.invokevirtual 77, 3) := by decide +kernel
theorem dX6_reason_43 : decode cX6_reason 43 = .ok (.ifCond .ne 7, 3) := by decide +kernel
theorem dX6_reason_46 : decode cX6_reason 46 = .ok (.iconst 2, 1) := by decide +kernel
theorem dX6_reason_47 : decode cX6_reason 47 = .ok (.goto 4, 3) := by decide +kernel
theorem dX6_reason_50 : decode cX6_reason 50 = .ok (.iconst 3, 1) := by decide +kernel
theorem dX6_reason_51 : decode cX6_reason 51 = .ok (.ireturn, 1) := by decide +kernel
theorem dX6_reason_52 : decode cX6_reason 52 = .ok (.aload_n 0, 1) := by decide +kernel
theorem dX6_reason_53 : decode cX6_reason 53 = .ok (.iload_n 1, 1) := by decide +kernel
theorem dX6_reason_54 : decode cX6_reason 54 = .ok (.iload_n 2, 1) := by decide +kernel
theorem dX6_reason_55 : decode cX6_reason 55 = .ok (.invokevirtual 86, 3) := by decide +kernel
theorem dX6_reason_58 : decode cX6_reason 58 = .ok (.ifCond .ne 25, 3) := by decide +kernel
theorem dX6_reason_61 : decode cX6_reason 61 = .ok (.aload_n 0, 1) := by decide +kernel
theorem dX6_reason_62 : decode cX6_reason 62 = .ok (.iload_n 1, 1) := by decide +kernel
theorem dX6_reason_63 : decode cX6_reason 63 = .ok (.iload_n 2, 1) := by decide +kernel
theorem dX6_reason_64 : decode cX6_reason 64 = .ok (.iconst 1, 1) := by decide +kernel
theorem dX6_reason_65 : decode cX6_reason 65 = .ok (.isub, 1) := by decide +kernel
theorem dX6_reason_66 : decode cX6_reason 66 = .ok (.invokevirtual 86, 3) := by decide +kernel
theorem dX6_reason_69 : decode cX6_reason 69 = .ok (.ifCond .ne 14, 3) := by decide +kernel
theorem dX6_reason_72 : decode cX6_reason 72 = .ok (.aload_n 0, 1) := by decide +kernel
theorem dX6_reason_73 : decode cX6_reason 73 = .ok (.iload_n 1, 1) := by decide +kernel
theorem dX6_reason_74 : decode cX6_reason 74 = .ok (.iload_n 2, 1) := by decide +kernel
theorem dX6_reason_75 : decode cX6_reason 75 = .ok (.iconst 1, 1) := by decide +kernel
theorem dX6_reason_76 : decode cX6_reason 76 = .ok (.iadd, 1) := by decide +kernel
theorem dX6_reason_77 : decode cX6_reason 77 = .ok (.invokevirtual 86, 3) := by decide +kernel
theorem dX6_reason_80 : decode cX6_reason 80 = .ok (.ifCond .eq 7, 3) := by decide +kernel
theorem dX6_reason_83 : decode cX6_reason 83 = .ok (.iconst 0, 1) := by decide +kernel
theorem dX6_reason_84 : decode cX6_reason 84 = .ok (.goto 4, 3) := by decide +kernel
theorem dX6_reason_87 : decode cX6_reason 87 = .ok (.iconst 4, 1) := by decide +kernel
theorem dX6_reason_88 : decode cX6_reason 88 = .ok (.ireturn, 1) := by decide +kernel
theorem dX6_opensDispute_0 : decode cX6_opensDispute 0 = .ok (.sipush 461, 3) := by decide +kernel
theorem dX6_opensDispute_3 : decode cX6_opensDispute 3 = .ok (.iconst 4, 1) := by decide +kernel
theorem dX6_opensDispute_4 : decode cX6_opensDispute 4 = .ok (.aload_n 0, 1) := by decide +kernel
theorem dX6_opensDispute_5 : decode cX6_opensDispute 5 = .ok (.getfield 7, 3) := by decide +kernel
theorem dX6_opensDispute_8 : decode cX6_opensDispute 8 = .ok (.bipush 7, 2) := by decide +kernel
theorem dX6_opensDispute_10 : decode cX6_opensDispute 10 = .ok (.iaload, 1) := by decide +kernel
theorem dX6_opensDispute_11 : decode cX6_opensDispute 11 = .ok (.imul, 1) := by decide +kernel
theorem dX6_opensDispute_12 : decode cX6_opensDispute 12 = .ok (.iadd, 1) := by decide +kernel
theorem dX6_opensDispute_13 : decode cX6_opensDispute 13 = .ok (.istore 4, 2) := by decide +kernel
theorem dX6_opensDispute_15 : decode cX6_opensDispute 15 = .ok (.aload_n 0, 1) := by decide +kernel
theorem dX6_opensDispute_16 : decode cX6_opensDispute 16 = .ok (.getfield 7, 3) := by decide +kernel
theorem dX6_opensDispute_19 : decode cX6_opensDispute 19 = .ok (.iload 4, 2) := by decide +kernel
theorem dX6_opensDispute_21 : decode cX6_opensDispute 21 = .ok (.iconst 0, 1) := by decide +kernel
theorem dX6_opensDispute_22 : decode cX6_opensDispute 22 = .ok (.iadd, 1) := by decide +kernel
theorem dX6_opensDispute_23 : decode cX6_opensDispute 23 = .ok (.iload_n 1, 1) := by decide +kernel
theorem dX6_opensDispute_24 : decode cX6_opensDispute 24 = .ok (.iastore, 1) := by decide +kernel
theorem dX6_opensDispute_25 : decode cX6_opensDispute 25 = .ok (.aload_n 0, 1) := by decide +kernel
theorem dX6_opensDispute_26 : decode cX6_opensDispute 26 = .ok (.getfield 7, 3) := by decide +kernel
theorem dX6_opensDispute_29 : decode cX6_opensDispute 29 = .ok (.iload 4, 2) := by decide +kernel
theorem dX6_opensDispute_31 : decode cX6_opensDispute 31 = .ok (.iconst 1, 1) := by decide +kernel
theorem dX6_opensDispute_32 : decode cX6_opensDispute 32 = .ok (.iadd, 1) := by decide +kernel
theorem dX6_opensDispute_33 : decode cX6_opensDispute 33 = .ok (.aload_n 0, 1) := by decide +kernel
theorem dX6_opensDispute_34 : decode cX6_opensDispute 34 = .ok (.iload_n 2, 1) := by decide +kernel
theorem dX6_opensDispute_35 : decode cX6_opensDispute 35 = .ok (.iconst 2, 1) := by decide +kernel
theorem dX6_opensDispute_36 : decode cX6_opensDispute 36 = .ok (.invokevirtual 77, 3) := by decide +kernel
theorem dX6_opensDispute_39 : decode cX6_opensDispute 39 = .ok (.iastore, 1) := by decide +kernel
theorem dX6_opensDispute_40 : decode cX6_opensDispute 40 = .ok (.aload_n 0, 1) := by decide +kernel
theorem dX6_opensDispute_41 : decode cX6_opensDispute 41 = .ok (.getfield 7, 3) := by decide +kernel
theorem dX6_opensDispute_44 : decode cX6_opensDispute 44 = .ok (.iload 4, 2) := by decide +kernel
theorem dX6_opensDispute_46 : decode cX6_opensDispute 46 = .ok (.iconst 2, 1) := by decide +kernel
theorem dX6_opensDispute_47 : decode cX6_opensDispute 47 = .ok (.iadd, 1) := by decide +kernel
theorem dX6_opensDispute_48 : decode cX6_opensDispute 48 = .ok (.iload_n 3, 1) := by decide +kernel
theorem dX6_opensDispute_49 : decode cX6_opensDispute 49 = .ok (.iastore, 1) := by decide +kernel
theorem dX6_opensDispute_50 : decode cX6_opensDispute 50 = .ok (.aload_n 0, 1) := by decide +kernel
theorem dX6_opensDispute_51 : decode cX6_opensDispute 51 = .ok (.getfield 7, 3) := by decide +kernel
theorem dX6_opensDispute_54 : decode cX6_opensDispute 54 = .ok (.iload 4, 2) := by decide +kernel
theorem dX6_opensDispute_56 : decode cX6_opensDispute 56 = .ok (.iconst 3, 1) := by decide +kernel
theorem dX6_opensDispute_57 : decode cX6_opensDispute 57 = .ok (.iadd, 1) := by decide +kernel
theorem dX6_opensDispute_58 : decode cX6_opensDispute 58 = .ok (.iload_n 2, 1) := by decide +kernel
theorem dX6_opensDispute_59 : decode cX6_opensDispute 59 = .ok (.iastore, 1) := by decide +kernel
theorem dX6_opensDispute_60 : decode cX6_opensDispute 60 = .ok (.aload_n 0, 1) := by decide +kernel
theorem dX6_opensDispute_61 : decode cX6_opensDispute 61 = .ok (.getfield 7, 3) := by decide +kernel
theorem dX6_opensDispute_64 : decode cX6_opensDispute 64 = .ok (.bipush 7, 2) := by decide +kernel
theorem dX6_opensDispute_66 : decode cX6_opensDispute 66 = .ok (.dup2, 1) := by decide +kernel
theorem dX6_opensDispute_67 : decode cX6_opensDispute 67 = .ok (.iaload, 1) := by decide +kernel
theorem dX6_opensDispute_68 : decode cX6_opensDispute 68 = .ok (.iconst 1, 1) := by decide +kernel
theorem dX6_opensDispute_69 : decode cX6_opensDispute 69 = .ok (.iadd, 1) := by decide +kernel
theorem dX6_opensDispute_70 : decode cX6_opensDispute 70 = .ok (.iastore, 1) := by decide +kernel
theorem dX6_opensDispute_71 : decode cX6_opensDispute 71 = .ok (.aload_n 0, 1) := by decide +kernel
theorem dX6_opensDispute_72 : decode cX6_opensDispute 72 = .ok (.getfield 7, 3) := by decide +kernel
theorem dX6_opensDispute_75 : decode cX6_opensDispute 75 = .ok (.bipush 8, 2) := by decide +kernel
theorem dX6_opensDispute_77 : decode cX6_opensDispute 77 = .ok (.dup2, 1) := by decide +kernel
theorem dX6_opensDispute_78 : decode cX6_opensDispute 78 = .ok (.iaload, 1) := by decide +kernel
theorem dX6_opensDispute_79 : decode cX6_opensDispute 79 = .ok (.iconst 1, 1) := by decide +kernel
theorem dX6_opensDispute_80 : decode cX6_opensDispute 80 = .ok (.iadd, 1) := by decide +kernel
theorem dX6_opensDispute_81 : decode cX6_opensDispute 81 = .ok (.iastore, 1) := by decide +kernel
theorem dX6_opensDispute_82 : decode cX6_opensDispute 82 = .ok (.return_, 1) := by decide +kernel
theorem dX6_cut_0 : decode cX6_cut 0 = .ok (.aload_n 0, 1) := by decide +kernel
theorem dX6_cut_1 : decode cX6_cut 1 = .ok (.iconst 0, 1) := by decide +kernel
theorem dX6_cut_2 : decode cX6_cut 2 = .ok (.putfield 28, 3) := by decide +kernel
theorem dX6_cut_5 : decode cX6_cut 5 = .ok (.iload_n 1, 1) := by decide +kernel
theorem dX6_cut_6 : decode cX6_cut 6 = .ok (.invokestatic 74, 3) := by decide +kernel
theorem dX6_cut_9 : decode cX6_cut 9 = .ok (.ifCond .eq 10, 3) := by decide +kernel
theorem dX6_cut_12 : decode cX6_cut 12 = .ok (.iload_n 2, 1) := by decide +kernel
theorem dX6_cut_13 : decode cX6_cut 13 = .ok (.invokestatic 70, 3) := by decide +kernel
theorem dX6_cut_16 : decode cX6_cut 16 = .ok (.ifCond .ne 5, 3) := by decide +kernel
theorem dX6_cut_19 : decode cX6_cut 19 = .ok (.iconst (-1), 1) := by decide +kernel
theorem dX6_cut_20 : decode cX6_cut 20 = .ok (.ireturn, 1) := by decide +kernel
theorem dX6_cut_21 : decode cX6_cut 21 = .ok (.aload_n 0, 1) := by decide +kernel
theorem dX6_cut_22 : decode cX6_cut 22 = .ok (.iload_n 1, 1) := by decide +kernel
theorem dX6_cut_23 : decode cX6_cut 23 = .ok (.iload_n 2, 1) := by decide +kernel
theorem dX6_cut_24 : decode cX6_cut 24 = .ok (.invokevirtual 90, 3) := by decide +kernel
theorem dX6_cut_27 : decode cX6_cut 27 = .ok (.ifCond .eq 6, 3) := by decide +kernel
theorem dX6_cut_30 : decode cX6_cut 30 = .ok (.bipush (-4), 2) := by decide +kernel
theorem dX6_cut_32 : decode cX6_cut 32 = .ok (.ireturn, 1) := by decide +kernel
theorem dX6_cut_33 : decode cX6_cut 33 = .ok (.aload_n 0, 1) := by decide +kernel
theorem dX6_cut_34 : decode cX6_cut 34 = .ok (.invokevirtual 80, 3) := by decide +kernel
theorem dX6_cut_37 : decode cX6_cut 37 = .ok (.aload_n 0, 1) := by decide +kernel
theorem dX6_cut_38 : decode cX6_cut 38 = .ok (.getfield 7, 3) := by decide +kernel
theorem dX6_cut_41 : decode cX6_cut 41 = .ok (.iconst 4, 1) := by decide +kernel
theorem dX6_cut_42 : decode cX6_cut 42 = .ok (.iaload, 1) := by decide +kernel
theorem dX6_cut_43 : decode cX6_cut 43 = .ok (.istore_n 3, 1) := by decide +kernel
theorem dX6_cut_44 : decode cX6_cut 44 = .ok (.aload_n 0, 1) := by decide +kernel
theorem dX6_cut_45 : decode cX6_cut 45 = .ok (.getfield 7, 3) := by decide +kernel
theorem dX6_cut_48 : decode cX6_cut 48 = .ok (.iconst 5, 1) := by decide +kernel
theorem dX6_cut_49 : decode cX6_cut 49 = .ok (.iaload, 1) := by decide +kernel
theorem dX6_cut_50 : decode cX6_cut 50 = .ok (.istore 4, 2) := by decide +kernel
theorem dX6_cut_52 : decode cX6_cut 52 = .ok (.aload_n 0, 1) := by decide +kernel
theorem dX6_cut_53 : decode cX6_cut 53 = .ok (.iload_n 1, 1) := by decide +kernel
theorem dX6_cut_54 : decode cX6_cut 54 = .ok (.iconst 1, 1) := by decide +kernel
theorem dX6_cut_55 : decode cX6_cut 55 = .ok (.iconst 1, 1) := by decide +kernel
theorem dX6_cut_56 : decode cX6_cut 56 = .ok (.invokevirtual 57, 3) := by decide +kernel
theorem dX6_cut_59 : decode cX6_cut 59 = .ok (.aload_n 0, 1) := by decide +kernel
theorem dX6_cut_60 : decode cX6_cut 60 = .ok (.getfield 7, 3) := by decide +kernel
theorem dX6_cut_63 : decode cX6_cut 63 = .ok (.bipush 41, 2) := by decide +kernel
theorem dX6_cut_65 : decode cX6_cut 65 = .ok (.iconst 3, 1) := by decide +kernel
theorem dX6_cut_66 : decode cX6_cut 66 = .ok (.iload_n 2, 1) := by decide +kernel
theorem dX6_cut_67 : decode cX6_cut 67 = .ok (.imul, 1) := by decide +kernel
theorem dX6_cut_68 : decode cX6_cut 68 = .ok (.iadd, 1) := by decide +kernel
theorem dX6_cut_69 : decode cX6_cut 69 = .ok (.iconst 0, 1) := by decide +kernel
theorem dX6_cut_70 : decode cX6_cut 70 = .ok (.iadd, 1) := by decide +kernel
theorem dX6_cut_71 : decode cX6_cut 71 = .ok (.dup2, 1) := by decide +kernel
theorem dX6_cut_72 : decode cX6_cut 72 = .ok (.iaload, 1) := by decide +kernel
theorem dX6_cut_73 : decode cX6_cut 73 = .ok (.iconst 1, 1) := by decide +kernel
theorem dX6_cut_74 : decode cX6_cut 74 = .ok (.isub, 1) := by decide +kernel
theorem dX6_cut_75 : decode cX6_cut 75 = .ok (.iastore, 1) := by decide +kernel
theorem dX6_cut_76 : decode cX6_cut 76 = .ok (.aload_n 0, 1) := by decide +kernel
theorem dX6_cut_77 : decode cX6_cut 77 = .ok (.iload_n 3, 1) := by decide +kernel
theorem dX6_cut_78 : decode cX6_cut 78 = .ok (.iconst 0, 1) := by decide +kernel
theorem dX6_cut_79 : decode cX6_cut 79 = .ok (.iload 4, 2) := by decide +kernel
theorem dX6_cut_81 : decode cX6_cut 81 = .ok (.invokevirtual 46, 3) := by decide +kernel
theorem dX6_cut_84 : decode cX6_cut 84 = .ok (.aload_n 0, 1) := by decide +kernel
theorem dX6_cut_85 : decode cX6_cut 85 = .ok (.iload_n 3, 1) := by decide +kernel
theorem dX6_cut_86 : decode cX6_cut 86 = .ok (.iconst 1, 1) := by decide +kernel
theorem dX6_cut_87 : decode cX6_cut 87 = .ok (.iload_n 1, 1) := by decide +kernel
theorem dX6_cut_88 : decode cX6_cut 88 = .ok (.invokevirtual 46, 3) := by decide +kernel
theorem dX6_cut_91 : decode cX6_cut 91 = .ok (.aload_n 0, 1) := by decide +kernel
theorem dX6_cut_92 : decode cX6_cut 92 = .ok (.iload_n 3, 1) := by decide +kernel
theorem dX6_cut_93 : decode cX6_cut 93 = .ok (.iconst 2, 1) := by decide +kernel
theorem dX6_cut_94 : decode cX6_cut 94 = .ok (.iload_n 2, 1) := by decide +kernel
theorem dX6_cut_95 : decode cX6_cut 95 = .ok (.invokevirtual 46, 3) := by decide +kernel
theorem dX6_cut_98 : decode cX6_cut 98 = .ok (.aload_n 0, 1) := by decide +kernel
theorem dX6_cut_99 : decode cX6_cut 99 = .ok (.iload_n 3, 1) := by decide +kernel
theorem dX6_cut_100 : decode cX6_cut 100 = .ok (.iconst 3, 1) := by decide +kernel
theorem dX6_cut_101 : decode cX6_cut 101 = .ok (.bipush 50, 2) := by decide +kernel
theorem dX6_cut_103 : decode cX6_cut 103 = .ok (.invokevirtual 46, 3) := by decide +kernel
theorem dX6_cut_106 : decode cX6_cut 106 = .ok (.aload_n 0, 1) := by decide +kernel
theorem dX6_cut_107 : decode cX6_cut 107 = .ok (.iload_n 3, 1) := by decide +kernel
theorem dX6_cut_108 : decode cX6_cut 108 = .ok (.iconst 4, 1) := by decide +kernel
theorem dX6_cut_109 : decode cX6_cut 109 = .ok (.iconst 0, 1) := by decide +kernel
theorem dX6_cut_110 : decode cX6_cut 110 = .ok (.invokevirtual 46, 3) := by decide +kernel
theorem dX6_cut_113 : decode cX6_cut 113 = .ok (.aload_n 0, 1) := by decide +kernel
theorem dX6_cut_114 : decode cX6_cut 114 = .ok (.iload_n 3, 1) := by decide +kernel
theorem dX6_cut_115 : decode cX6_cut 115 = .ok (.iconst 5, 1) := by decide +kernel
theorem dX6_cut_116 : decode cX6_cut 116 = .ok (.iconst 0, 1) := by decide +kernel
theorem dX6_cut_117 : decode cX6_cut 117 = .ok (.invokevirtual 46, 3) := by decide +kernel
theorem dX6_cut_120 : decode cX6_cut 120 = .ok (.aload_n 0, 1) := by decide +kernel
theorem dX6_cut_121 : decode cX6_cut 121 = .ok (.getfield 7, 3) := by decide +kernel
theorem dX6_cut_124 : decode cX6_cut 124 = .ok (.iconst 4, 1) := by decide +kernel
theorem dX6_cut_125 : decode cX6_cut 125 = .ok (.dup2, 1) := by decide +kernel
theorem dX6_cut_126 : decode cX6_cut 126 = .ok (.iaload, 1) := by decide +kernel
theorem dX6_cut_127 : decode cX6_cut 127 = .ok (.iconst 1, 1) := by decide +kernel
theorem dX6_cut_128 : decode cX6_cut 128 = .ok (.iadd, 1) := by decide +kernel
theorem dX6_cut_129 : decode cX6_cut 129 = .ok (.iastore, 1) := by decide +kernel
theorem dX6_cut_130 : decode cX6_cut 130 = .ok (.aload_n 0, 1) := by decide +kernel
theorem dX6_cut_131 : decode cX6_cut 131 = .ok (.getfield 7, 3) := by decide +kernel
theorem dX6_cut_134 : decode cX6_cut 134 = .ok (.iconst 5, 1) := by decide +kernel
theorem dX6_cut_135 : decode cX6_cut 135 = .ok (.dup2, 1) := by decide +kernel
theorem dX6_cut_136 : decode cX6_cut 136 = .ok (.iaload, 1) := by decide +kernel
theorem dX6_cut_137 : decode cX6_cut 137 = .ok (.iconst 1, 1) := by decide +kernel
theorem dX6_cut_138 : decode cX6_cut 138 = .ok (.iadd, 1) := by decide +kernel
theorem dX6_cut_139 : decode cX6_cut 139 = .ok (.iastore, 1) := by decide +kernel
theorem dX6_cut_140 : decode cX6_cut 140 = .ok (.aload_n 0, 1) := by decide +kernel
theorem dX6_cut_141 : decode cX6_cut 141 = .ok (.iload_n 1, 1) := by decide +kernel
theorem dX6_cut_142 : decode cX6_cut 142 = .ok (.iload_n 2, 1) := by decide +kernel
theorem dX6_cut_143 : decode cX6_cut 143 = .ok (.invokevirtual 86, 3) := by decide +kernel
theorem dX6_cut_146 : decode cX6_cut 146 = .ok (.ifCond .ne 11, 3) := by decide +kernel
theorem dX6_cut_149 : decode cX6_cut 149 = .ok (.aload_n 0, 1) := by decide +kernel
theorem dX6_cut_150 : decode cX6_cut 150 = .ok (.iload_n 1, 1) := by decide +kernel
theorem dX6_cut_151 : decode cX6_cut 151 = .ok (.iload_n 2, 1) := by decide +kernel
theorem dX6_cut_152 : decode cX6_cut 152 = .ok (.iload 4, 2) := by decide +kernel
theorem dX6_cut_154 : decode cX6_cut 154 = .ok (.invokevirtual 93, 3) := by decide +kernel
theorem dX6_cut_157 : decode cX6_cut 157 = .ok (.iload 4, 2) := by decide +kernel
theorem dX6_cut_159 : decode cX6_cut 159 = .ok (.ireturn, 1) := by decide +kernel
theorem dX6_turn_0 : decode cX6_turn 0 = .ok (.aload_n 0, 1) := by decide +kernel
theorem dX6_turn_1 : decode cX6_turn 1 = .ok (.iconst 0, 1) := by decide +kernel
theorem dX6_turn_2 : decode cX6_turn 2 = .ok (.putfield 28, 3) := by decide +kernel
theorem dX6_turn_5 : decode cX6_turn 5 = .ok (.aload_n 0, 1) := by decide +kernel
theorem dX6_turn_6 : decode cX6_turn 6 = .ok (.iload_n 1, 1) := by decide +kernel
theorem dX6_turn_7 : decode cX6_turn 7 = .ok (.invokevirtual 96, 3) := by decide +kernel
theorem dX6_turn_10 : decode cX6_turn 10 = .ok (.istore_n 2, 1) := by decide +kernel
theorem dX6_turn_11 : decode cX6_turn 11 = .ok (.iload_n 2, 1) := by decide +kernel
theorem dX6_turn_12 : decode cX6_turn 12 = .ok (.bipush (-5), 2) := by decide +kernel
theorem dX6_turn_14 : decode cX6_turn 14 = .ok (.if_icmp .ne 5, 3) := by decide +kernel
theorem dX6_turn_17 : decode cX6_turn 17 = .ok (.iconst (-1), 1) := by decide +kernel
theorem dX6_turn_18 : decode cX6_turn 18 = .ok (.ireturn, 1) := by decide +kernel
theorem dX6_turn_19 : decode cX6_turn 19 = .ok (.aload_n 0, 1) := by decide +kernel
theorem dX6_turn_20 : decode cX6_turn 20 = .ok (.iload_n 2, 1) := by decide +kernel
theorem dX6_turn_21 : decode cX6_turn 21 = .ok (.iconst 5, 1) := by decide +kernel
theorem dX6_turn_22 : decode cX6_turn 22 = .ok (.invokevirtual 36, 3) := by decide +kernel
theorem dX6_turn_25 : decode cX6_turn 25 = .ok (.iconst 1, 1) := by decide +kernel
theorem dX6_turn_26 : decode cX6_turn 26 = .ok (.if_icmp .eq 13, 3) := by decide +kernel
theorem dX6_turn_29 : decode cX6_turn 29 = .ok (.aload_n 0, 1) := by decide +kernel
theorem dX6_turn_30 : decode cX6_turn 30 = .ok (.iload_n 2, 1) := by decide +kernel
theorem dX6_turn_31 : decode cX6_turn 31 = .ok (.iconst 4, 1) := by decide +kernel
theorem dX6_turn_32 : decode cX6_turn 32 = .ok (.invokevirtual 36, 3) := by decide +kernel
theorem dX6_turn_35 : decode cX6_turn 35 = .ok (.iconst 1, 1) := by decide +kernel
theorem dX6_turn_36 : decode cX6_turn 36 = .ok (.if_icmp .ne 21, 3) := by decide +kernel
theorem dX6_turn_39 : decode cX6_turn 39 = .ok (.aload_n 0, 1) := by decide +kernel
theorem dX6_turn_40 : decode cX6_turn 40 = .ok (.iload_n 2, 1) := by decide +kernel
theorem dX6_turn_41 : decode cX6_turn 41 = .ok (.iconst 5, 1) := by decide +kernel
theorem dX6_turn_42 : decode cX6_turn 42 = .ok (.invokevirtual 36, 3) := by decide +kernel
theorem dX6_turn_45 : decode cX6_turn 45 = .ok (.iconst 1, 1) := by decide +kernel
theorem dX6_turn_46 : decode cX6_turn 46 = .ok (.if_icmp .ne 8, 3) := by decide +kernel
theorem dX6_turn_49 : decode cX6_turn 49 = .ok (.bipush (-4), 2) := by decide +kernel
theorem dX6_turn_51 : decode cX6_turn 51 = .ok (.goto 5, 3) := by decide +kernel
theorem dX6_turn_54 : decode cX6_turn 54 = .ok (.bipush (-5), 2) := by decide +kernel
theorem dX6_turn_56 : decode cX6_turn 56 = .ok (.ireturn, 1) := by decide +kernel
theorem dX6_turn_57 : decode cX6_turn 57 = .ok (.aload_n 0, 1) := by decide +kernel
theorem dX6_turn_58 : decode cX6_turn 58 = .ok (.invokevirtual 80, 3) := by decide +kernel
theorem dX6_turn_61 : decode cX6_turn 61 = .ok (.aload_n 0, 1) := by decide +kernel
theorem dX6_turn_62 : decode cX6_turn 62 = .ok (.iload_n 2, 1) := by decide +kernel
theorem dX6_turn_63 : decode cX6_turn 63 = .ok (.iconst 4, 1) := by decide +kernel
theorem dX6_turn_64 : decode cX6_turn 64 = .ok (.iconst 1, 1) := by decide +kernel
theorem dX6_turn_65 : decode cX6_turn 65 = .ok (.invokevirtual 46, 3) := by decide +kernel
theorem dX6_turn_68 : decode cX6_turn 68 = .ok (.aload_n 0, 1) := by decide +kernel
theorem dX6_turn_69 : decode cX6_turn 69 = .ok (.iload_n 2, 1) := by decide +kernel
theorem dX6_turn_70 : decode cX6_turn 70 = .ok (.iconst 3, 1) := by decide +kernel
theorem dX6_turn_71 : decode cX6_turn 71 = .ok (.invokevirtual 36, 3) := by decide +kernel
theorem dX6_turn_74 : decode cX6_turn 74 = .ok (.ireturn, 1) := by decide +kernel
theorem dX6_rowsOf_0 : decode cX6_rowsOf 0 = .ok (.iconst 0, 1) := by decide +kernel
theorem dX6_rowsOf_1 : decode cX6_rowsOf 1 = .ok (.istore_n 3, 1) := by decide +kernel
theorem dX6_rowsOf_2 : decode cX6_rowsOf 2 = .ok (.iconst 0, 1) := by decide +kernel
theorem dX6_rowsOf_3 : decode cX6_rowsOf 3 = .ok (.istore 4, 2) := by decide +kernel
theorem dX6_rowsOf_5 : decode cX6_rowsOf 5 = .ok (.iload 4, 2) := by decide +kernel
theorem dX6_rowsOf_7 : decode cX6_rowsOf 7 = .ok (.aload_n 0, 1) := by decide +kernel
theorem dX6_rowsOf_8 : decode cX6_rowsOf 8 = .ok (.getfield 7, 3) := by decide +kernel
theorem dX6_rowsOf_11 : decode cX6_rowsOf 11 = .ok (.iconst 4, 1) := by decide +kernel
theorem dX6_rowsOf_12 : decode cX6_rowsOf 12 = .ok (.iaload, 1) := by decide +kernel
theorem dX6_rowsOf_13 : decode cX6_rowsOf 13 = .ok (.if_icmp .ge 43, 3) := by decide +kernel
theorem dX6_rowsOf_16 : decode cX6_rowsOf 16 = .ok (.iload_n 3, 1) := by decide +kernel
theorem dX6_rowsOf_17 : decode cX6_rowsOf 17 = .ok (.aload_n 0, 1) := by decide +kernel
theorem dX6_rowsOf_18 : decode cX6_rowsOf 18 = .ok (.iload 4, 2) := by decide +kernel
theorem dX6_rowsOf_20 : decode cX6_rowsOf 20 = .ok (.iconst 1, 1) := by decide +kernel
theorem dX6_rowsOf_21 : decode cX6_rowsOf 21 = .ok (.invokevirtual 36, 3) := by decide +kernel
theorem dX6_rowsOf_24 : decode cX6_rowsOf 24 = .ok (.iload_n 1, 1) := by decide +kernel
theorem dX6_rowsOf_25 : decode cX6_rowsOf 25 = .ok (.if_icmp .ne 22, 3) := by decide +kernel
theorem dX6_rowsOf_28 : decode cX6_rowsOf 28 = .ok (.iload_n 2, 1) := by decide +kernel
theorem dX6_rowsOf_29 : decode cX6_rowsOf 29 = .ok (.ifCond .eq 14, 3) := by decide +kernel
theorem dX6_rowsOf_32 : decode cX6_rowsOf 32 = .ok (.aload_n 0, 1) := by decide +kernel
theorem dX6_rowsOf_33 : decode cX6_rowsOf 33 = .ok (.iload 4, 2) := by decide +kernel
theorem dX6_rowsOf_35 : decode cX6_rowsOf 35 = .ok (.iconst 5, 1) := by decide +kernel
theorem dX6_rowsOf_36 : decode cX6_rowsOf 36 = .ok (.invokevirtual 36, 3) := by decide +kernel
theorem dX6_rowsOf_39 : decode cX6_rowsOf 39 = .ok (.iconst 1, 1) := by decide +kernel
theorem dX6_rowsOf_40 : decode cX6_rowsOf 40 = .ok (.if_icmp .ne 7, 3) := by decide +kernel
theorem dX6_rowsOf_43 : decode cX6_rowsOf 43 = .ok (.iconst 1, 1) := by decide +kernel
theorem dX6_rowsOf_44 : decode cX6_rowsOf 44 = .ok (.goto 4, 3) := by decide +kernel
theorem dX6_rowsOf_47 : decode cX6_rowsOf 47 = .ok (.iconst 0, 1) := by decide +kernel
theorem dX6_rowsOf_48 : decode cX6_rowsOf 48 = .ok (.iadd, 1) := by decide +kernel
theorem dX6_rowsOf_49 : decode cX6_rowsOf 49 = .ok (.istore_n 3, 1) := by decide +kernel
theorem dX6_rowsOf_50 : decode cX6_rowsOf 50 = .ok (.iinc 4 1, 3) := by decide +kernel
theorem dX6_rowsOf_53 : decode cX6_rowsOf 53 = .ok (.goto (-48), 3) := by decide +kernel
theorem dX6_rowsOf_56 : decode cX6_rowsOf 56 = .ok (.iload_n 3, 1) := by decide +kernel
theorem dX6_rowsOf_57 : decode cX6_rowsOf 57 = .ok (.ireturn, 1) := by decide +kernel
theorem dX6_stack_0 : decode cX6_stack 0 = .ok (.aload_n 0, 1) := by decide +kernel
theorem dX6_stack_1 : decode cX6_stack 1 = .ok (.iconst 0, 1) := by decide +kernel
theorem dX6_stack_2 : decode cX6_stack 2 = .ok (.putfield 28, 3) := by decide +kernel
theorem dX6_stack_5 : decode cX6_stack 5 = .ok (.aload_n 0, 1) := by decide +kernel
theorem dX6_stack_6 : decode cX6_stack 6 = .ok (.iload_n 1, 1) := by decide +kernel
theorem dX6_stack_7 : decode cX6_stack 7 = .ok (.invokevirtual 96, 3) := by decide +kernel
theorem dX6_stack_10 : decode cX6_stack 10 = .ok (.istore_n 2, 1) := by decide +kernel
theorem dX6_stack_11 : decode cX6_stack 11 = .ok (.iload_n 2, 1) := by decide +kernel
theorem dX6_stack_12 : decode cX6_stack 12 = .ok (.bipush (-5), 2) := by decide +kernel
theorem dX6_stack_14 : decode cX6_stack 14 = .ok (.if_icmp .ne 5, 3) := by decide +kernel
theorem dX6_stack_17 : decode cX6_stack 17 = .ok (.iconst (-1), 1) := by decide +kernel
theorem dX6_stack_18 : decode cX6_stack 18 = .ok (.ireturn, 1) := by decide +kernel
theorem dX6_stack_19 : decode cX6_stack 19 = .ok (.aload_n 0, 1) := by decide +kernel
theorem dX6_stack_20 : decode cX6_stack 20 = .ok (.iload_n 2, 1) := by decide +kernel
theorem dX6_stack_21 : decode cX6_stack 21 = .ok (.iconst 3, 1) := by decide +kernel
theorem dX6_stack_22 : decode cX6_stack 22 = .ok (.invokevirtual 36, 3) := by decide +kernel
theorem dX6_stack_25 : decode cX6_stack 25 = .ok (.bipush 20, 2) := by decide +kernel
theorem dX6_stack_27 : decode cX6_stack 27 = .ok (.if_icmp .gt 13, 3) := by decide +kernel
theorem dX6_stack_30 : decode cX6_stack 30 = .ok (.aload_n 0, 1) := by decide +kernel
theorem dX6_stack_31 : decode cX6_stack 31 = .ok (.iload_n 2, 1) := by decide +kernel
theorem dX6_stack_32 : decode cX6_stack 32 = .ok (.iconst 5, 1) := by decide +kernel
theorem dX6_stack_33 : decode cX6_stack 33 = .ok (.invokevirtual 36, 3) := by decide +kernel
theorem dX6_stack_36 : decode cX6_stack 36 = .ok (.iconst 1, 1) := by decide +kernel
theorem dX6_stack_37 : decode cX6_stack 37 = .ok (.if_icmp .ne 22, 3) := by decide +kernel
theorem dX6_stack_40 : decode cX6_stack 40 = .ok (.aload_n 0, 1) := by decide +kernel
theorem dX6_stack_41 : decode cX6_stack 41 = .ok (.iload_n 2, 1) := by decide +kernel
theorem dX6_stack_42 : decode cX6_stack 42 = .ok (.iconst 3, 1) := by decide +kernel
theorem dX6_stack_43 : decode cX6_stack 43 = .ok (.invokevirtual 36, 3) := by decide +kernel
theorem dX6_stack_46 : decode cX6_stack 46 = .ok (.bipush 20, 2) := by decide +kernel
theorem dX6_stack_48 : decode cX6_stack 48 = .ok (.if_icmp .le 8, 3) := by decide +kernel
theorem dX6_stack_51 : decode cX6_stack 51 = .ok (.bipush (-4), 2) := by decide +kernel
theorem dX6_stack_53 : decode cX6_stack 53 = .ok (.goto 5, 3) := by decide +kernel
theorem dX6_stack_56 : decode cX6_stack 56 = .ok (.bipush (-5), 2) := by decide +kernel
theorem dX6_stack_58 : decode cX6_stack 58 = .ok (.ireturn, 1) := by decide +kernel
theorem dX6_stack_59 : decode cX6_stack 59 = .ok (.aload_n 0, 1) := by decide +kernel
theorem dX6_stack_60 : decode cX6_stack 60 = .ok (.invokevirtual 80, 3) := by decide +kernel
theorem dX6_stack_63 : decode cX6_stack 63 = .ok (.aload_n 0, 1) := by decide +kernel
theorem dX6_stack_64 : decode cX6_stack 64 = .ok (.iload_n 2, 1) := by decide +kernel
theorem dX6_stack_65 : decode cX6_stack 65 = .ok (.iconst 5, 1) := by decide +kernel
theorem dX6_stack_66 : decode cX6_stack 66 = .ok (.iconst 1, 1) := by decide +kernel
theorem dX6_stack_67 : decode cX6_stack 67 = .ok (.invokevirtual 46, 3) := by decide +kernel
theorem dX6_stack_70 : decode cX6_stack 70 = .ok (.aload_n 0, 1) := by decide +kernel
theorem dX6_stack_71 : decode cX6_stack 71 = .ok (.aload_n 0, 1) := by decide +kernel
theorem dX6_stack_72 : decode cX6_stack 72 = .ok (.iload_n 2, 1) := by decide +kernel
theorem dX6_stack_73 : decode cX6_stack 73 = .ok (.iconst 1, 1) := by decide +kernel
theorem dX6_stack_74 : decode cX6_stack 74 = .ok (.invokevirtual 36, 3) := by decide +kernel
theorem dX6_stack_77 : decode cX6_stack 77 = .ok (.iconst 1, 1) := by decide +kernel
theorem dX6_stack_78 : decode cX6_stack 78 = .ok (.invokevirtual 99, 3) := by decide +kernel
theorem dX6_stack_81 : decode cX6_stack 81 = .ok (.ireturn, 1) := by decide +kernel
theorem dX6_pass_0 : decode cX6_pass 0 = .ok (.aload_n 0, 1) := by decide +kernel
theorem dX6_pass_1 : decode cX6_pass 1 = .ok (.iconst 0, 1) := by decide +kernel
theorem dX6_pass_2 : decode cX6_pass 2 = .ok (.putfield 28, 3) := by decide +kernel
theorem dX6_pass_5 : decode cX6_pass 5 = .ok (.iload_n 1, 1) := by decide +kernel
theorem dX6_pass_6 : decode cX6_pass 6 = .ok (.iconst 0, 1) := by decide +kernel
theorem dX6_pass_7 : decode cX6_pass 7 = .ok (.iconst 2, 1) := by decide +kernel
theorem dX6_pass_8 : decode cX6_pass 8 = .ok (.invokestatic 32, 3) := by decide +kernel
theorem dX6_pass_11 : decode cX6_pass 11 = .ok (.ifCond .ne 6, 3) := by decide +kernel
theorem dX6_pass_14 : decode cX6_pass 14 = .ok (.bipush (-2), 2) := by decide +kernel
theorem dX6_pass_16 : decode cX6_pass 16 = .ok (.ireturn, 1) := by decide +kernel
theorem dX6_pass_17 : decode cX6_pass 17 = .ok (.aload_n 0, 1) := by decide +kernel
theorem dX6_pass_18 : decode cX6_pass 18 = .ok (.invokevirtual 80, 3) := by decide +kernel
theorem dX6_pass_21 : decode cX6_pass 21 = .ok (.aload_n 0, 1) := by decide +kernel
theorem dX6_pass_22 : decode cX6_pass 22 = .ok (.iload_n 1, 1) := by decide +kernel
theorem dX6_pass_23 : decode cX6_pass 23 = .ok (.invokevirtual 103, 3) := by decide +kernel
theorem dX6_pass_26 : decode cX6_pass 26 = .ok (.ireturn, 1) := by decide +kernel
theorem dX6_passAll_0 : decode cX6_passAll 0 = .ok (.aload_n 0, 1) := by decide +kernel
theorem dX6_passAll_1 : decode cX6_passAll 1 = .ok (.iconst 0, 1) := by decide +kernel
theorem dX6_passAll_2 : decode cX6_passAll 2 = .ok (.putfield 28, 3) := by decide +kernel
theorem dX6_passAll_5 : decode cX6_passAll 5 = .ok (.aload_n 0, 1) := by decide +kernel
theorem dX6_passAll_6 : decode cX6_passAll 6 = .ok (.invokevirtual 106, 3) := by decide +kernel
theorem dX6_passAll_9 : decode cX6_passAll 9 = .ok (.istore_n 1, 1) := by decide +kernel
theorem dX6_passAll_10 : decode cX6_passAll 10 = .ok (.iload_n 1, 1) := by decide +kernel
theorem dX6_passAll_11 : decode cX6_passAll 11 = .ok (.bipush (-5), 2) := by decide +kernel
theorem dX6_passAll_13 : decode cX6_passAll 13 = .ok (.if_icmp .eq 8, 3) := by decide +kernel
theorem dX6_passAll_16 : decode cX6_passAll 16 = .ok (.bipush (-100), 2) := by decide +kernel
theorem dX6_passAll_18 : decode cX6_passAll 18 = .ok (.iload_n 1, 1) := by decide +kernel
theorem dX6_passAll_19 : decode cX6_passAll 19 = .ok (.isub, 1) := by decide +kernel
theorem dX6_passAll_20 : decode cX6_passAll 20 = .ok (.ireturn, 1) := by decide +kernel
theorem dX6_passAll_21 : decode cX6_passAll 21 = .ok (.aload_n 0, 1) := by decide +kernel
theorem dX6_passAll_22 : decode cX6_passAll 22 = .ok (.invokevirtual 80, 3) := by decide +kernel
theorem dX6_passAll_25 : decode cX6_passAll 25 = .ok (.iconst 0, 1) := by decide +kernel
theorem dX6_passAll_26 : decode cX6_passAll 26 = .ok (.istore_n 2, 1) := by decide +kernel
theorem dX6_passAll_27 : decode cX6_passAll 27 = .ok (.iconst 0, 1) := by decide +kernel
theorem dX6_passAll_28 : decode cX6_passAll 28 = .ok (.istore_n 3, 1) := by decide +kernel
theorem dX6_passAll_29 : decode cX6_passAll 29 = .ok (.iload_n 3, 1) := by decide +kernel
theorem dX6_passAll_30 : decode cX6_passAll 30 = .ok (.aload_n 0, 1) := by decide +kernel
theorem dX6_passAll_31 : decode cX6_passAll 31 = .ok (.getfield 110, 3) := by decide +kernel
theorem dX6_passAll_34 : decode cX6_passAll 34 = .ok (.if_icmp .ge 49, 3) := by decide +kernel
theorem dX6_passAll_37 : decode cX6_passAll 37 = .ok (.iconst 0, 1) := by decide +kernel
theorem dX6_passAll_38 : decode cX6_passAll 38 = .ok (.istore 4, 2) := by decide +kernel
theorem dX6_passAll_40 : decode cX6_passAll 40 = .ok (.iload 4, 2) := by decide +kernel
theorem dX6_passAll_42 : decode cX6_passAll 42 = .ok (.aload_n 0, 1) := by decide +kernel
theorem dX6_passAll_43 : decode cX6_passAll 43 = .ok (.getfield 25, 3) := by decide +kernel
theorem dX6_passAll_46 : decode cX6_passAll 46 = .ok (.iconst 2, 1) := by decide +kernel
theorem dX6_passAll_47 : decode cX6_passAll 47 = .ok (.iload_n 3, 1) := by decide +kernel
theorem dX6_passAll_48 : decode cX6_passAll 48 = .ok (.imul, 1) := by decide +kernel
theorem dX6_passAll_49 : decode cX6_passAll 49 = .ok (.iconst 1, 1) := by decide +kernel
theorem dX6_passAll_50 : decode cX6_passAll 50 = .ok (.iadd, 1) := by decide +kernel
theorem dX6_passAll_51 : decode cX6_passAll 51 = .ok (.iaload, 1) := by decide +kernel
theorem dX6_passAll_52 : decode cX6_passAll 52 = .ok (.if_icmp .ge 25, 3) := by decide +kernel
theorem dX6_passAll_55 : decode cX6_passAll 55 = .ok (.aload_n 0, 1) := by decide +kernel
theorem dX6_passAll_56 : decode cX6_passAll 56 = .ok (.aload_n 0, 1) := by decide +kernel
theorem dX6_passAll_57 : decode cX6_passAll 57 = .ok (.getfield 25, 3) := by decide +kernel
theorem dX6_passAll_60 : decode cX6_passAll 60 = .ok (.iconst 2, 1) := by decide +kernel
theorem dX6_passAll_61 : decode cX6_passAll 61 = .ok (.iload_n 3, 1) := by decide +kernel
theorem dX6_passAll_62 : decode cX6_passAll 62 = .ok (.imul, 1) := by decide +kernel
theorem dX6_passAll_63 : decode cX6_passAll 63 = .ok (.iaload, 1) := by decide +kernel
theorem dX6_passAll_64 : decode cX6_passAll 64 = .ok (.invokevirtual 103, 3) := by decide +kernel
theorem dX6_passAll_67 : decode cX6_passAll 67 = .ok (.pop, 1) := by decide +kernel
theorem dX6_passAll_68 : decode cX6_passAll 68 = .ok (.iinc 2 1, 3) := by decide +kernel
theorem dX6_passAll_71 : decode cX6_passAll 71 = .ok (.iinc 4 1, 3) := by decide +kernel
theorem dX6_passAll_74 : decode cX6_passAll 74 = .ok (.goto (-34), 3) := by decide +kernel
theorem dX6_passAll_77 : decode cX6_passAll 77 = .ok (.iinc 3 1, 3) := by decide +kernel
theorem dX6_passAll_80 : decode cX6_passAll 80 = .ok (.goto (-51), 3) := by decide +kernel
theorem dX6_passAll_83 : decode cX6_passAll 83 = .ok (.iload_n 2, 1) := by decide +kernel
theorem dX6_passAll_84 : decode cX6_passAll 84 = .ok (.ireturn, 1) := by decide +kernel
theorem dX6_dropsOldest_0 : decode cX6_dropsOldest 0 = .ok (.aload_n 0, 1) := by decide +kernel
theorem dX6_dropsOldest_1 : decode cX6_dropsOldest 1 = .ok (.getfield 7, 3) := by decide +kernel
theorem dX6_dropsOldest_4 : decode cX6_dropsOldest 4 = .ok (.bipush 7, 2) := by decide +kernel
theorem dX6_dropsOldest_6 : decode cX6_dropsOldest 6 = .ok (.dup2, 1) := by decide +kernel
theorem dX6_dropsOldest_7 : decode cX6_dropsOldest 7 = .ok (.iaload, 1) := by decide +kernel
theorem dX6_dropsOldest_8 : decode cX6_dropsOldest 8 = .ok (.iconst 1, 1) := by decide +kernel
theorem dX6_dropsOldest_9 : decode cX6_dropsOldest 9 = .ok (.isub, 1) := by decide +kernel
theorem dX6_dropsOldest_10 : decode cX6_dropsOldest 10 = .ok (.iastore, 1) := by decide +kernel
theorem dX6_dropsOldest_11 : decode cX6_dropsOldest 11 = .ok (.iconst 0, 1) := by decide +kernel
theorem dX6_dropsOldest_12 : decode cX6_dropsOldest 12 = .ok (.istore_n 1, 1) := by decide +kernel
theorem dX6_dropsOldest_13 : decode cX6_dropsOldest 13 = .ok (.iload_n 1, 1) := by decide +kernel
theorem dX6_dropsOldest_14 : decode cX6_dropsOldest 14 = .ok (.iconst 4, 1) := by decide +kernel
theorem dX6_dropsOldest_15 : decode cX6_dropsOldest 15 = .ok (.aload_n 0, 1) := by decide +kernel
theorem dX6_dropsOldest_16 : decode cX6_dropsOldest 16 = .ok (.getfield 7, 3) := by decide +kernel
theorem dX6_dropsOldest_19 : decode cX6_dropsOldest 19 = .ok (.bipush 7, 2) := by decide +kernel
theorem dX6_dropsOldest_21 : decode cX6_dropsOldest 21 = .ok (.iaload, 1) := by decide +kernel
theorem dX6_dropsOldest_22 : decode cX6_dropsOldest 22 = .ok (.imul, 1) := by decide +kernel
theorem dX6_dropsOldest_23 : decode cX6_dropsOldest 23 = .ok (.if_icmp .ge 31, 3) := by decide +kernel
theorem dX6_dropsOldest_26 : decode cX6_dropsOldest 26 = .ok (.aload_n 0, 1) := by decide +kernel
theorem dX6_dropsOldest_27 : decode cX6_dropsOldest 27 = .ok (.getfield 7, 3) := by decide +kernel
theorem dX6_dropsOldest_30 : decode cX6_dropsOldest 30 = .ok (.sipush 461, 3) := by decide +kernel
theorem dX6_dropsOldest_33 : decode cX6_dropsOldest 33 = .ok (.iload_n 1, 1) := by decide +kernel
theorem dX6_dropsOldest_34 : decode cX6_dropsOldest 34 = .ok (.iadd, 1) := by decide +kernel
theorem dX6_dropsOldest_35 : decode cX6_dropsOldest 35 = .ok (.aload_n 0, 1) := by decide +kernel
theorem dX6_dropsOldest_36 : decode cX6_dropsOldest 36 = .ok (.getfield 7, 3) := by decide +kernel
theorem dX6_dropsOldest_39 : decode cX6_dropsOldest 39 = .ok (.sipush 461, 3) := by decide +kernel
theorem dX6_dropsOldest_42 : decode cX6_dropsOldest 42 = .ok (.iload_n 1, 1) := by decide +kernel
theorem dX6_dropsOldest_43 : decode cX6_dropsOldest 43 = .ok (.iadd, 1) := by decide +kernel
theorem dX6_dropsOldest_44 : decode cX6_dropsOldest 44 = .ok (.iconst 4, 1) := by decide +kernel
theorem dX6_dropsOldest_45 : decode cX6_dropsOldest 45 = .ok (.iadd, 1) := by decide +kernel
theorem dX6_dropsOldest_46 : decode cX6_dropsOldest 46 = .ok (.iaload, 1) := by decide +kernel
theorem dX6_dropsOldest_47 : decode cX6_dropsOldest 47 = .ok (.iastore, 1) := by decide +kernel
theorem dX6_dropsOldest_48 : decode cX6_dropsOldest 48 = .ok (.iinc 1 1, 3) := by decide +kernel
theorem dX6_dropsOldest_51 : decode cX6_dropsOldest 51 = .ok (.goto (-38), 3) := by decide +kernel
theorem dX6_dropsOldest_54 : decode cX6_dropsOldest 54 = .ok (.iconst 0, 1) := by decide +kernel
theorem dX6_dropsOldest_55 : decode cX6_dropsOldest 55 = .ok (.istore_n 1, 1) := by decide +kernel
theorem dX6_dropsOldest_56 : decode cX6_dropsOldest 56 = .ok (.iload_n 1, 1) := by decide +kernel
theorem dX6_dropsOldest_57 : decode cX6_dropsOldest 57 = .ok (.iconst 4, 1) := by decide +kernel
theorem dX6_dropsOldest_58 : decode cX6_dropsOldest 58 = .ok (.if_icmp .ge 30, 3) := by decide +kernel
theorem dX6_dropsOldest_61 : decode cX6_dropsOldest 61 = .ok (.aload_n 0, 1) := by decide +kernel
theorem dX6_dropsOldest_62 : decode cX6_dropsOldest 62 = .ok (.getfield 7, 3) := by decide +kernel
theorem dX6_dropsOldest_65 : decode cX6_dropsOldest 65 = .ok (.sipush 461, 3) := by decide +kernel
theorem dX6_dropsOldest_68 : decode cX6_dropsOldest 68 = .ok (.iconst 4, 1) := by decide +kernel
theorem dX6_dropsOldest_69 : decode cX6_dropsOldest 69 = .ok (.aload_n 0, 1) := by decide +kernel
theorem dX6_dropsOldest_70 : decode cX6_dropsOldest 70 = .ok (.getfield 7, 3) := by decide +kernel
theorem dX6_dropsOldest_73 : decode cX6_dropsOldest 73 = .ok (.bipush 7, 2) := by decide +kernel
theorem dX6_dropsOldest_75 : decode cX6_dropsOldest 75 = .ok (.iaload, 1) := by decide +kernel
theorem dX6_dropsOldest_76 : decode cX6_dropsOldest 76 = .ok (.imul, 1) := by decide +kernel
theorem dX6_dropsOldest_77 : decode cX6_dropsOldest 77 = .ok (.iadd, 1) := by decide +kernel
theorem dX6_dropsOldest_78 : decode cX6_dropsOldest 78 = .ok (.iload_n 1, 1) := by decide +kernel
theorem dX6_dropsOldest_79 : decode cX6_dropsOldest 79 = .ok (.iadd, 1) := by decide +kernel
theorem dX6_dropsOldest_80 : decode cX6_dropsOldest 80 = .ok (.iconst 0, 1) := by decide +kernel
theorem dX6_dropsOldest_81 : decode cX6_dropsOldest 81 = .ok (.iastore, 1) := by decide +kernel
theorem dX6_dropsOldest_82 : decode cX6_dropsOldest 82 = .ok (.iinc 1 1, 3) := by decide +kernel
theorem dX6_dropsOldest_85 : decode cX6_dropsOldest 85 = .ok (.goto (-29), 3) := by decide +kernel
theorem dX6_dropsOldest_88 : decode cX6_dropsOldest 88 = .ok (.return_, 1) := by decide +kernel
theorem dX6_settle_0 : decode cX6_settle 0 = .ok (.aload_n 0, 1) := by decide +kernel
theorem dX6_settle_1 : decode cX6_settle 1 = .ok (.iconst 0, 1) := by decide +kernel
theorem dX6_settle_2 : decode cX6_settle 2 = .ok (.putfield 28, 3) := by decide +kernel
theorem dX6_settle_5 : decode cX6_settle 5 = .ok (.aload_n 0, 1) := by decide +kernel
theorem dX6_settle_6 : decode cX6_settle 6 = .ok (.getfield 7, 3) := by decide +kernel
theorem dX6_settle_9 : decode cX6_settle 9 = .ok (.bipush 7, 2) := by decide +kernel
theorem dX6_settle_11 : decode cX6_settle 11 = .ok (.iaload, 1) := by decide +kernel
theorem dX6_settle_12 : decode cX6_settle 12 = .ok (.ifCond .ne 6, 3) := by decide +kernel
theorem dX6_settle_15 : decode cX6_settle 15 = .ok (.bipush (-5), 2) := by decide +kernel
theorem dX6_settle_17 : decode cX6_settle 17 = .ok (.ireturn, 1) := by decide +kernel
theorem dX6_settle_18 : decode cX6_settle 18 = .ok (.aload_n 0, 1) := by decide +kernel
theorem dX6_settle_19 : decode cX6_settle 19 = .ok (.invokevirtual 80, 3) := by decide +kernel
theorem dX6_settle_22 : decode cX6_settle 22 = .ok (.aload_n 0, 1) := by decide +kernel
theorem dX6_settle_23 : decode cX6_settle 23 = .ok (.iconst 0, 1) := by decide +kernel
theorem dX6_settle_24 : decode cX6_settle 24 = .ok (.iconst 0, 1) := by decide +kernel
theorem dX6_settle_25 : decode cX6_settle 25 = .ok (.invokevirtual 113, 3) := by decide +kernel
theorem dX6_settle_28 : decode cX6_settle 28 = .ok (.istore_n 1, 1) := by decide +kernel
theorem dX6_settle_29 : decode cX6_settle 29 = .ok (.aload_n 0, 1) := by decide +kernel
theorem dX6_settle_30 : decode cX6_settle 30 = .ok (.iconst 0, 1) := by decide +kernel
theorem dX6_settle_31 : decode cX6_settle 31 = .ok (.iconst 1, 1) := by decide +kernel
theorem dX6_settle_32 : decode cX6_settle 32 = .ok (.invokevirtual 113, 3) := by decide +kernel
theorem dX6_settle_35 : decode cX6_settle 35 = .ok (.istore_n 2, 1) := by decide +kernel
theorem dX6_settle_36 : decode cX6_settle 36 = .ok (.aload_n 0, 1) := by decide +kernel
theorem dX6_settle_37 : decode cX6_settle 37 = .ok (.aload_n 0, 1) := by decide +kernel
theorem dX6_settle_38 : decode cX6_settle 38 = .ok (.iconst 0, 1) := by decide +kernel
theorem dX6_settle_39 : decode cX6_settle 39 = .ok (.iconst 2, 1) := by decide +kernel
theorem dX6_settle_40 : decode cX6_settle 40 = .ok (.invokevirtual 113, 3) := by decide +kernel
theorem dX6_settle_43 : decode cX6_settle 43 = .ok (.invokevirtual 96, 3) := by decide +kernel
theorem dX6_settle_46 : decode cX6_settle 46 = .ok (.istore_n 3, 1) := by decide +kernel
theorem dX6_settle_47 : decode cX6_settle 47 = .ok (.aload_n 0, 1) := by decide +kernel
theorem dX6_settle_48 : decode cX6_settle 48 = .ok (.invokevirtual 116, 3) := by decide +kernel
theorem dX6_settle_51 : decode cX6_settle 51 = .ok (.aload_n 0, 1) := by decide +kernel
theorem dX6_settle_52 : decode cX6_settle 52 = .ok (.getfield 7, 3) := by decide +kernel
theorem dX6_settle_55 : decode cX6_settle 55 = .ok (.iconst 1, 1) := by decide +kernel
theorem dX6_settle_56 : decode cX6_settle 56 = .ok (.iaload, 1) := by decide +kernel
theorem dX6_settle_57 : decode cX6_settle 57 = .ok (.ifCond .ne 32, 3) := by decide +kernel
theorem dX6_settle_60 : decode cX6_settle 60 = .ok (.aload_n 0, 1) := by decide +kernel
theorem dX6_settle_61 : decode cX6_settle 61 = .ok (.iload_n 1, 1) := by decide +kernel
theorem dX6_settle_62 : decode cX6_settle 62 = .ok (.iconst 1, 1) := by decide +kernel
theorem dX6_settle_63 : decode cX6_settle 63 = .ok (.aload_n 0, 1) := by decide +kernel
theorem dX6_settle_64 : decode cX6_settle 64 = .ok (.iload_n 1, 1) := by decide +kernel
theorem dX6_settle_65 : decode cX6_settle 65 = .ok (.iconst 1, 1) := by decide +kernel
theorem dX6_settle_66 : decode cX6_settle 66 = .ok (.invokevirtual 83, 3) := by decide +kernel
theorem dX6_settle_69 : decode cX6_settle 69 = .ok (.aload_n 0, 1) := by decide +kernel
theorem dX6_settle_70 : decode cX6_settle 70 = .ok (.iload_n 1, 1) := by decide +kernel
theorem dX6_settle_71 : decode cX6_settle 71 = .ok (.iconst 0, 1) := by decide +kernel
theorem dX6_settle_72 : decode cX6_settle 72 = .ok (.invokevirtual 83, 3) := by decide +kernel
theorem dX6_settle_75 : decode cX6_settle 75 = .ok (.if_icmp .ge 7, 3) := by decide +kernel
theorem dX6_settle_78 : decode cX6_settle 78 = .ok (.iconst 1, 1) := by decide +kernel
theorem dX6_settle_79 : decode cX6_settle 79 = .ok (.goto 4, 3) := by decide +kernel
theorem dX6_settle_82 : decode cX6_settle 82 = .ok (.iconst 0, 1) := by decide +kernel
theorem dX6_settle_83 : decode cX6_settle 83 = .ok (.invokevirtual 57, 3) := by decide +kernel
theorem dX6_settle_86 : decode cX6_settle 86 = .ok (.bipush 10, 2) := by decide +kernel
theorem dX6_settle_88 : decode cX6_settle 88 = .ok (.ireturn, 1) := by decide +kernel
theorem dX6_settle_89 : decode cX6_settle 89 = .ok (.iload_n 3, 1) := by decide +kernel
theorem dX6_settle_90 : decode cX6_settle 90 = .ok (.bipush (-5), 2) := by decide +kernel
theorem dX6_settle_92 : decode cX6_settle 92 = .ok (.if_icmp .eq 12, 3) := by decide +kernel
theorem dX6_settle_95 : decode cX6_settle 95 = .ok (.aload_n 0, 1) := by decide +kernel
theorem dX6_settle_96 : decode cX6_settle 96 = .ok (.iload_n 3, 1) := by decide +kernel
theorem dX6_settle_97 : decode cX6_settle 97 = .ok (.iconst 1, 1) := by decide +kernel
theorem dX6_settle_98 : decode cX6_settle 98 = .ok (.iload_n 2, 1) := by decide +kernel
theorem dX6_settle_99 : decode cX6_settle 99 = .ok (.invokevirtual 46, 3) := by decide +kernel
theorem dX6_settle_102 : decode cX6_settle 102 = .ok (.iload_n 2, 1) := by decide +kernel
theorem dX6_settle_103 : decode cX6_settle 103 = .ok (.ireturn, 1) := by decide +kernel
theorem dX6_settle_104 : decode cX6_settle 104 = .ok (.aload_n 0, 1) := by decide +kernel
theorem dX6_settle_105 : decode cX6_settle 105 = .ok (.iload_n 1, 1) := by decide +kernel
theorem dX6_settle_106 : decode cX6_settle 106 = .ok (.iconst 2, 1) := by decide +kernel
theorem dX6_settle_107 : decode cX6_settle 107 = .ok (.invokevirtual 83, 3) := by decide +kernel
theorem dX6_settle_110 : decode cX6_settle 110 = .ok (.bipush 20, 2) := by decide +kernel
theorem dX6_settle_112 : decode cX6_settle 112 = .ok (.if_icmp .ge 12, 3) := by decide +kernel
theorem dX6_settle_115 : decode cX6_settle 115 = .ok (.aload_n 0, 1) := by decide +kernel
theorem dX6_settle_116 : decode cX6_settle 116 = .ok (.iload_n 1, 1) := by decide +kernel
theorem dX6_settle_117 : decode cX6_settle 117 = .ok (.iconst 2, 1) := by decide +kernel
theorem dX6_settle_118 : decode cX6_settle 118 = .ok (.invokevirtual 83, 3) := by decide +kernel
theorem dX6_settle_121 : decode cX6_settle 121 = .ok (.goto 5, 3) := by decide +kernel
theorem dX6_settle_124 : decode cX6_settle 124 = .ok (.bipush 20, 2) := by decide +kernel
theorem dX6_settle_126 : decode cX6_settle 126 = .ok (.istore 4, 2) := by decide +kernel
theorem dX6_settle_128 : decode cX6_settle 128 = .ok (.aload_n 0, 1) := by decide +kernel
theorem dX6_settle_129 : decode cX6_settle 129 = .ok (.iload_n 1, 1) := by decide +kernel
theorem dX6_settle_130 : decode cX6_settle 130 = .ok (.iconst 2, 1) := by decide +kernel
theorem dX6_settle_131 : decode cX6_settle 131 = .ok (.iload 4, 2) := by decide +kernel
theorem dX6_settle_133 : decode cX6_settle 133 = .ok (.ineg, 1) := by decide +kernel
theorem dX6_settle_134 : decode cX6_settle 134 = .ok (.invokevirtual 57, 3) := by decide +kernel
theorem dX6_settle_137 : decode cX6_settle 137 = .ok (.aload_n 0, 1) := by decide +kernel
theorem dX6_settle_138 : decode cX6_settle 138 = .ok (.iload_n 2, 1) := by decide +kernel
theorem dX6_settle_139 : decode cX6_settle 139 = .ok (.iconst 2, 1) := by decide +kernel
theorem dX6_settle_140 : decode cX6_settle 140 = .ok (.iload 4, 2) := by decide +kernel
theorem dX6_settle_142 : decode cX6_settle 142 = .ok (.invokevirtual 57, 3) := by decide +kernel
theorem dX6_settle_145 : decode cX6_settle 145 = .ok (.iload_n 2, 1) := by decide +kernel
theorem dX6_settle_146 : decode cX6_settle 146 = .ok (.ireturn, 1) := by decide +kernel
theorem dX6_endYear_0 : decode cX6_endYear 0 = .ok (.aload_n 0, 1) := by decide +kernel
theorem dX6_endYear_1 : decode cX6_endYear 1 = .ok (.iconst 0, 1) := by decide +kernel
theorem dX6_endYear_2 : decode cX6_endYear 2 = .ok (.putfield 28, 3) := by decide +kernel
theorem dX6_endYear_5 : decode cX6_endYear 5 = .ok (.aload_n 0, 1) := by decide +kernel
theorem dX6_endYear_6 : decode cX6_endYear 6 = .ok (.invokevirtual 80, 3) := by decide +kernel
theorem dX6_endYear_9 : decode cX6_endYear 9 = .ok (.aload_n 0, 1) := by decide +kernel
theorem dX6_endYear_10 : decode cX6_endYear 10 = .ok (.getfield 7, 3) := by decide +kernel
theorem dX6_endYear_13 : decode cX6_endYear 13 = .ok (.iconst 4, 1) := by decide +kernel
theorem dX6_endYear_14 : decode cX6_endYear 14 = .ok (.iaload, 1) := by decide +kernel
theorem dX6_endYear_15 : decode cX6_endYear 15 = .ok (.istore_n 1, 1) := by decide +kernel
theorem dX6_endYear_16 : decode cX6_endYear 16 = .ok (.iconst 0, 1) := by decide +kernel
theorem dX6_endYear_17 : decode cX6_endYear 17 = .ok (.istore_n 2, 1) := by decide +kernel
theorem dX6_endYear_18 : decode cX6_endYear 18 = .ok (.iload_n 2, 1) := by decide +kernel
theorem dX6_endYear_19 : decode cX6_endYear 19 = .ok (.sipush 360, 3) := by decide +kernel
theorem dX6_endYear_22 : decode cX6_endYear 22 = .ok (.if_icmp .ge 19, 3) := by decide +kernel
theorem dX6_endYear_25 : decode cX6_endYear 25 = .ok (.aload_n 0, 1) := by decide +kernel
theorem dX6_endYear_26 : decode cX6_endYear 26 = .ok (.getfield 7, 3) := by decide +kernel
theorem dX6_endYear_29 : decode cX6_endYear 29 = .ok (.bipush 101, 2) := by decide +kernel
theorem dX6_endYear_31 : decode cX6_endYear 31 = .ok (.iload_n 2, 1) := by decide +kernel
theorem dX6_endYear_32 : decode cX6_endYear 32 = .ok (.iadd, 1) := by decide +kernel
theorem dX6_endYear_33 : decode cX6_endYear 33 = .ok (.iconst 0, 1) := by decide +kernel
theorem dX6_endYear_34 : decode cX6_endYear 34 = .ok (.iastore, 1) := by decide +kernel
theorem dX6_endYear_35 : decode cX6_endYear 35 = .ok (.iinc 2 1, 3) := by decide +kernel
theorem dX6_endYear_38 : decode cX6_endYear 38 = .ok (.goto (-20), 3) := by decide +kernel
theorem dX6_endYear_41 : decode cX6_endYear 41 = .ok (.iconst 0, 1) := by decide +kernel
theorem dX6_endYear_42 : decode cX6_endYear 42 = .ok (.istore_n 2, 1) := by decide +kernel
theorem dX6_endYear_43 : decode cX6_endYear 43 = .ok (.iload_n 2, 1) := by decide +kernel
theorem dX6_endYear_44 : decode cX6_endYear 44 = .ok (.iconst 4, 1) := by decide +kernel
theorem dX6_endYear_45 : decode cX6_endYear 45 = .ok (.aload_n 0, 1) := by decide +kernel
theorem dX6_endYear_46 : decode cX6_endYear 46 = .ok (.getfield 7, 3) := by decide +kernel
theorem dX6_endYear_49 : decode cX6_endYear 49 = .ok (.bipush 7, 2) := by decide +kernel
theorem dX6_endYear_51 : decode cX6_endYear 51 = .ok (.iaload, 1) := by decide +kernel
theorem dX6_endYear_52 : decode cX6_endYear 52 = .ok (.imul, 1) := by decide +kernel
theorem dX6_endYear_53 : decode cX6_endYear 53 = .ok (.if_icmp .ge 20, 3) := by decide +kernel
theorem dX6_endYear_56 : decode cX6_endYear 56 = .ok (.aload_n 0, 1) := by decide +kernel
theorem dX6_endYear_57 : decode cX6_endYear 57 = .ok (.getfield 7, 3) := by decide +kernel
theorem dX6_endYear_60 : decode cX6_endYear 60 = .ok (.sipush 461, 3) := by decide +kernel
theorem dX6_endYear_63 : decode cX6_endYear 63 = .ok (.iload_n 2, 1) := by decide +kernel
theorem dX6_endYear_64 : decode cX6_endYear 64 = .ok (.iadd, 1) := by decide +kernel
theorem dX6_endYear_65 : decode cX6_endYear 65 = .ok (.iconst 0, 1) := by decide +kernel
theorem dX6_endYear_66 : decode cX6_endYear 66 = .ok (.iastore, 1) := by decide +kernel
theorem dX6_endYear_67 : decode cX6_endYear 67 = .ok (.iinc 2 1, 3) := by decide +kernel
theorem dX6_endYear_70 : decode cX6_endYear 70 = .ok (.goto (-27), 3) := by decide +kernel
theorem dX6_endYear_73 : decode cX6_endYear 73 = .ok (.aload_n 0, 1) := by decide +kernel
theorem dX6_endYear_74 : decode cX6_endYear 74 = .ok (.getfield 7, 3) := by decide +kernel
theorem dX6_endYear_77 : decode cX6_endYear 77 = .ok (.iconst 4, 1) := by decide +kernel
theorem dX6_endYear_78 : decode cX6_endYear 78 = .ok (.iconst 0, 1) := by decide +kernel
theorem dX6_endYear_79 : decode cX6_endYear 79 = .ok (.iastore, 1) := by decide +kernel
theorem dX6_endYear_80 : decode cX6_endYear 80 = .ok (.aload_n 0, 1) := by decide +kernel
theorem dX6_endYear_81 : decode cX6_endYear 81 = .ok (.getfield 7, 3) := by decide +kernel
theorem dX6_endYear_84 : decode cX6_endYear 84 = .ok (.bipush 7, 2) := by decide +kernel
theorem dX6_endYear_86 : decode cX6_endYear 86 = .ok (.iconst 0, 1) := by decide +kernel
theorem dX6_endYear_87 : decode cX6_endYear 87 = .ok (.iastore, 1) := by decide +kernel
theorem dX6_endYear_88 : decode cX6_endYear 88 = .ok (.aload_n 0, 1) := by decide +kernel
theorem dX6_endYear_89 : decode cX6_endYear 89 = .ok (.getfield 7, 3) := by decide +kernel
theorem dX6_endYear_92 : decode cX6_endYear 92 = .ok (.iconst 2, 1) := by decide +kernel
theorem dX6_endYear_93 : decode cX6_endYear 93 = .ok (.iconst 0, 1) := by decide +kernel
theorem dX6_endYear_94 : decode cX6_endYear 94 = .ok (.iastore, 1) := by decide +kernel
theorem dX6_endYear_95 : decode cX6_endYear 95 = .ok (.aload_n 0, 1) := by decide +kernel
theorem dX6_endYear_96 : decode cX6_endYear 96 = .ok (.getfield 7, 3) := by decide +kernel
theorem dX6_endYear_99 : decode cX6_endYear 99 = .ok (.iconst 3, 1) := by decide +kernel
theorem dX6_endYear_100 : decode cX6_endYear 100 = .ok (.dup2, 1) := by decide +kernel
theorem dX6_endYear_101 : decode cX6_endYear 101 = .ok (.iaload, 1) := by decide +kernel
theorem dX6_endYear_102 : decode cX6_endYear 102 = .ok (.iconst 1, 1) := by decide +kernel
theorem dX6_endYear_103 : decode cX6_endYear 103 = .ok (.iadd, 1) := by decide +kernel
theorem dX6_endYear_104 : decode cX6_endYear 104 = .ok (.iastore, 1) := by decide +kernel
theorem dX6_endYear_105 : decode cX6_endYear 105 = .ok (.iconst 0, 1) := by decide +kernel
theorem dX6_endYear_106 : decode cX6_endYear 106 = .ok (.istore_n 2, 1) := by decide +kernel
theorem dX6_endYear_107 : decode cX6_endYear 107 = .ok (.iload_n 2, 1) := by decide +kernel
theorem dX6_endYear_108 : decode cX6_endYear 108 = .ok (.bipush 10, 2) := by decide +kernel
theorem dX6_endYear_110 : decode cX6_endYear 110 = .ok (.if_icmp .ge 23, 3) := by decide +kernel
theorem dX6_endYear_113 : decode cX6_endYear 113 = .ok (.aload_n 0, 1) := by decide +kernel
theorem dX6_endYear_114 : decode cX6_endYear 114 = .ok (.getfield 7, 3) := by decide +kernel
theorem dX6_endYear_117 : decode cX6_endYear 117 = .ok (.bipush 11, 2) := by decide +kernel
theorem dX6_endYear_119 : decode cX6_endYear 119 = .ok (.iconst 3, 1) := by decide +kernel
theorem dX6_endYear_120 : decode cX6_endYear 120 = .ok (.iload_n 2, 1) := by decide +kernel
theorem dX6_endYear_121 : decode cX6_endYear 121 = .ok (.imul, 1) := by decide +kernel
theorem dX6_endYear_122 : decode cX6_endYear 122 = .ok (.iadd, 1) := by decide +kernel
theorem dX6_endYear_123 : decode cX6_endYear 123 = .ok (.iconst 1, 1) := by decide +kernel
theorem dX6_endYear_124 : decode cX6_endYear 124 = .ok (.iadd, 1) := by decide +kernel
theorem dX6_endYear_125 : decode cX6_endYear 125 = .ok (.iconst 0, 1) := by decide +kernel
theorem dX6_endYear_126 : decode cX6_endYear 126 = .ok (.iastore, 1) := by decide +kernel
theorem dX6_endYear_127 : decode cX6_endYear 127 = .ok (.iinc 2 1, 3) := by decide +kernel
theorem dX6_endYear_130 : decode cX6_endYear 130 = .ok (.goto (-23), 3) := by decide +kernel
theorem dX6_endYear_133 : decode cX6_endYear 133 = .ok (.iconst 0, 1) := by decide +kernel
theorem dX6_endYear_134 : decode cX6_endYear 134 = .ok (.istore_n 2, 1) := by decide +kernel
theorem dX6_endYear_135 : decode cX6_endYear 135 = .ok (.iload_n 2, 1) := by decide +kernel
theorem dX6_endYear_136 : decode cX6_endYear 136 = .ok (.bipush 20, 2) := by decide +kernel
theorem dX6_endYear_138 : decode cX6_endYear 138 = .ok (.if_icmp .ge 28, 3) := by decide +kernel
theorem dX6_endYear_141 : decode cX6_endYear 141 = .ok (.aload_n 0, 1) := by decide +kernel
theorem dX6_endYear_142 : decode cX6_endYear 142 = .ok (.getfield 7, 3) := by decide +kernel
theorem dX6_endYear_145 : decode cX6_endYear 145 = .ok (.bipush 41, 2) := by decide +kernel
theorem dX6_endYear_147 : decode cX6_endYear 147 = .ok (.iconst 3, 1) := by decide +kernel
theorem dX6_endYear_148 : decode cX6_endYear 148 = .ok (.iload_n 2, 1) := by decide +kernel
theorem dX6_endYear_149 : decode cX6_endYear 149 = .ok (.imul, 1) := by decide +kernel
theorem dX6_endYear_150 : decode cX6_endYear 150 = .ok (.iadd, 1) := by decide +kernel
theorem dX6_endYear_151 : decode cX6_endYear 151 = .ok (.iconst 2, 1) := by decide +kernel
theorem dX6_endYear_152 : decode cX6_endYear 152 = .ok (.iadd, 1) := by decide +kernel
theorem dX6_endYear_153 : decode cX6_endYear 153 = .ok (.aload_n 0, 1) := by decide +kernel
theorem dX6_endYear_154 : decode cX6_endYear 154 = .ok (.iload_n 2, 1) := by decide +kernel
theorem dX6_endYear_155 : decode cX6_endYear 155 = .ok (.iconst 1, 1) := by decide +kernel
theorem dX6_endYear_156 : decode cX6_endYear 156 = .ok (.invokevirtual 77, 3) := by decide +kernel
theorem dX6_endYear_159 : decode cX6_endYear 159 = .ok (.iastore, 1) := by decide +kernel
theorem dX6_endYear_160 : decode cX6_endYear 160 = .ok (.iinc 2 1, 3) := by decide +kernel
theorem dX6_endYear_163 : decode cX6_endYear 163 = .ok (.goto (-28), 3) := by decide +kernel
theorem dX6_endYear_166 : decode cX6_endYear 166 = .ok (.iload_n 1, 1) := by decide +kernel
theorem dX6_endYear_167 : decode cX6_endYear 167 = .ok (.ireturn, 1) := by decide +kernel
theorem dX6_type_0 : decode cX6_type 0 = .ok (.aload_n 0, 1) := by decide +kernel
theorem dX6_type_1 : decode cX6_type 1 = .ok (.iconst 0, 1) := by decide +kernel
theorem dX6_type_2 : decode cX6_type 2 = .ok (.putfield 28, 3) := by decide +kernel
theorem dX6_type_5 : decode cX6_type 5 = .ok (.aload_n 0, 1) := by decide +kernel
theorem dX6_type_6 : decode cX6_type 6 = .ok (.getfield 119, 3) := by decide +kernel
theorem dX6_type_9 : decode cX6_type 9 = .ok (.bipush 60, 2) := by decide +kernel
theorem dX6_type_11 : decode cX6_type 11 = .ok (.if_icmp .ne 6, 3) := by decide +kernel
theorem dX6_type_14 : decode cX6_type 14 = .ok (.bipush (-3), 2) := by decide +kernel
theorem dX6_type_16 : decode cX6_type 16 = .ok (.ireturn, 1) := by decide +kernel
theorem dX6_type_17 : decode cX6_type 17 = .ok (.aload_n 0, 1) := by decide +kernel
theorem dX6_type_18 : decode cX6_type 18 = .ok (.getfield 22, 3) := by decide +kernel
theorem dX6_type_21 : decode cX6_type 21 = .ok (.aload_n 0, 1) := by decide +kernel
theorem dX6_type_22 : decode cX6_type 22 = .ok (.getfield 119, 3) := by decide +kernel
theorem dX6_type_25 : decode cX6_type 25 = .ok (.iload_n 1, 1) := by decide +kernel
theorem dX6_type_26 : decode cX6_type 26 = .ok (.iastore, 1) := by decide +kernel
theorem dX6_type_27 : decode cX6_type 27 = .ok (.aload_n 0, 1) := by decide +kernel
theorem dX6_type_28 : decode cX6_type 28 = .ok (.dup, 1) := by decide +kernel
theorem dX6_type_29 : decode cX6_type 29 = .ok (.getfield 119, 3) := by decide +kernel
theorem dX6_type_32 : decode cX6_type 32 = .ok (.iconst 1, 1) := by decide +kernel
theorem dX6_type_33 : decode cX6_type 33 = .ok (.iadd, 1) := by decide +kernel
theorem dX6_type_34 : decode cX6_type 34 = .ok (.putfield 119, 3) := by decide +kernel
theorem dX6_type_37 : decode cX6_type 37 = .ok (.aload_n 0, 1) := by decide +kernel
theorem dX6_type_38 : decode cX6_type 38 = .ok (.getfield 119, 3) := by decide +kernel
theorem dX6_type_41 : decode cX6_type 41 = .ok (.ireturn, 1) := by decide +kernel
theorem dX6_clearText_0 : decode cX6_clearText 0 = .ok (.aload_n 0, 1) := by decide +kernel
theorem dX6_clearText_1 : decode cX6_clearText 1 = .ok (.iconst 0, 1) := by decide +kernel
theorem dX6_clearText_2 : decode cX6_clearText 2 = .ok (.putfield 28, 3) := by decide +kernel
theorem dX6_clearText_5 : decode cX6_clearText 5 = .ok (.aload_n 0, 1) := by decide +kernel
theorem dX6_clearText_6 : decode cX6_clearText 6 = .ok (.getfield 119, 3) := by decide +kernel
theorem dX6_clearText_9 : decode cX6_clearText 9 = .ok (.istore_n 1, 1) := by decide +kernel
theorem dX6_clearText_10 : decode cX6_clearText 10 = .ok (.aload_n 0, 1) := by decide +kernel
theorem dX6_clearText_11 : decode cX6_clearText 11 = .ok (.iconst 0, 1) := by decide +kernel
theorem dX6_clearText_12 : decode cX6_clearText 12 = .ok (.putfield 119, 3) := by decide +kernel
theorem dX6_clearText_15 : decode cX6_clearText 15 = .ok (.iload_n 1, 1) := by decide +kernel
theorem dX6_clearText_16 : decode cX6_clearText 16 = .ok (.ireturn, 1) := by decide +kernel
theorem dX6_sign_0 : decode cX6_sign 0 = .ok (.aload_n 0, 1) := by decide +kernel
theorem dX6_sign_1 : decode cX6_sign 1 = .ok (.getfield 122, 3) := by decide +kernel
theorem dX6_sign_4 : decode cX6_sign 4 = .ok (.aload_n 0, 1) := by decide +kernel
theorem dX6_sign_5 : decode cX6_sign 5 = .ok (.getfield 119, 3) := by decide +kernel
theorem dX6_sign_8 : decode cX6_sign 8 = .ok (.if_icmp .ge 15, 3) := by decide +kernel
theorem dX6_sign_11 : decode cX6_sign 11 = .ok (.aload_n 0, 1) := by decide +kernel
theorem dX6_sign_12 : decode cX6_sign 12 = .ok (.getfield 22, 3) := by decide +kernel
theorem dX6_sign_15 : decode cX6_sign 15 = .ok (.aload_n 0, 1) := by decide +kernel
theorem dX6_sign_16 : decode cX6_sign 16 = .ok (.getfield 122, 3) := by decide +kernel
theorem dX6_sign_19 : decode cX6_sign 19 = .ok (.iaload, 1) := by decide +kernel
theorem dX6_sign_20 : decode cX6_sign 20 = .ok (.goto 4, 3) := by decide +kernel
theorem dX6_sign_23 : decode cX6_sign 23 = .ok (.iconst 0, 1) := by decide +kernel
theorem dX6_sign_24 : decode cX6_sign 24 = .ok (.ireturn, 1) := by decide +kernel
theorem dX6_number_0 : decode cX6_number 0 = .ok (.aload_n 0, 1) := by decide +kernel
theorem dX6_number_1 : decode cX6_number 1 = .ok (.invokevirtual 125, 3) := by decide +kernel
theorem dX6_number_4 : decode cX6_number 4 = .ok (.bipush 48, 2) := by decide +kernel
theorem dX6_number_6 : decode cX6_number 6 = .ok (.bipush 57, 2) := by decide +kernel
theorem dX6_number_8 : decode cX6_number 8 = .ok (.invokestatic 32, 3) := by decide +kernel
theorem dX6_number_11 : decode cX6_number 11 = .ok (.ifCond .ne 5, 3) := by decide +kernel
theorem dX6_number_14 : decode cX6_number 14 = .ok (.iconst 1, 1) := by decide +kernel
theorem dX6_number_15 : decode cX6_number 15 = .ok (.ireturn, 1) := by decide +kernel
theorem dX6_number_16 : decode cX6_number 16 = .ok (.aload_n 0, 1) := by decide +kernel
theorem dX6_number_17 : decode cX6_number 17 = .ok (.aload_n 0, 1) := by decide +kernel
theorem dX6_number_18 : decode cX6_number 18 = .ok (.invokevirtual 125, 3) := by decide +kernel
theorem dX6_number_21 : decode cX6_number 21 = .ok (.bipush 48, 2) := by decide +kernel
theorem dX6_number_23 : decode cX6_number 23 = .ok (.if_icmp .eq 7, 3) := by decide +kernel
theorem dX6_number_26 : decode cX6_number 26 = .ok (.iconst 1, 1) := by decide +kernel
theorem dX6_number_27 : decode cX6_number 27 = .ok (.goto 4, 3) := by decide +kernel
theorem dX6_number_30 : decode cX6_number 30 = .ok (.iconst 0, 1) := by decide +kernel
theorem dX6_number_31 : decode cX6_number 31 = .ok (.putfield 128, 3) := by decide +kernel
theorem dX6_number_34 : decode cX6_number 34 = .ok (.aload_n 0, 1) := by decide +kernel
theorem dX6_number_35 : decode cX6_number 35 = .ok (.invokevirtual 125, 3) := by decide +kernel
theorem dX6_number_38 : decode cX6_number 38 = .ok (.bipush 48, 2) := by decide +kernel
theorem dX6_number_40 : decode cX6_number 40 = .ok (.isub, 1) := by decide +kernel
theorem dX6_number_41 : decode cX6_number 41 = .ok (.istore_n 1, 1) := by decide +kernel
theorem dX6_number_42 : decode cX6_number 42 = .ok (.aload_n 0, 1) := by decide +kernel
theorem dX6_number_43 : decode cX6_number 43 = .ok (.dup, 1) := by decide +kernel
theorem dX6_number_44 : decode cX6_number 44 = .ok (.getfield 122, 3) := by decide +kernel
theorem dX6_number_47 : decode cX6_number 47 = .ok (.aload_n 0, 1) := by decide +kernel
theorem dX6_number_48 : decode cX6_number 48 = .ok (.getfield 128, 3) := by decide +kernel
theorem dX6_number_51 : decode cX6_number 51 = .ok (.ifCond .eq 7, 3) := by decide +kernel
theorem dX6_number_54 : decode cX6_number 54 = .ok (.iconst 1, 1) := by decide +kernel
theorem dX6_number_55 : decode cX6_number 55 = .ok (.goto 4, 3) := by decide +kernel
theorem dX6_number_58 : decode cX6_number 58 = .ok (.iconst 0, 1) := by decide +kernel
theorem dX6_number_59 : decode cX6_number 59 = .ok (.iadd, 1) := by decide +kernel
theorem dX6_number_60 : decode cX6_number 60 = .ok (.putfield 122, 3) := by decide +kernel
theorem dX6_number_63 : decode cX6_number 63 = .ok (.aload_n 0, 1) := by decide +kernel
theorem dX6_number_64 : decode cX6_number 64 = .ok (.getfield 128, 3) := by decide +kernel
theorem dX6_number_67 : decode cX6_number 67 = .ok (.ifCond .eq 57, 3) := by decide +kernel
theorem dX6_number_70 : decode cX6_number 70 = .ok (.aload_n 0, 1) := by decide +kernel
theorem dX6_number_71 : decode cX6_number 71 = .ok (.invokevirtual 125, 3) := by decide +kernel
theorem dX6_number_74 : decode cX6_number 74 = .ok (.bipush 48, 2) := by decide +kernel
theorem dX6_number_76 : decode cX6_number 76 = .ok (.bipush 57, 2) := by decide +kernel
theorem dX6_number_78 : decode cX6_number 78 = .ok (.invokestatic 32, 3) := by decide +kernel
theorem dX6_number_81 : decode cX6_number 81 = .ok (.ifCond .eq 43, 3) := by decide +kernel
theorem dX6_number_84 : decode cX6_number 84 = .ok (.bipush 10, 2) := by decide +kernel
theorem dX6_number_86 : decode cX6_number 86 = .ok (.iload_n 1, 1) := by decide +kernel
theorem dX6_number_87 : decode cX6_number 87 = .ok (.imul, 1) := by decide +kernel
theorem dX6_number_88 : decode cX6_number 88 = .ok (.aload_n 0, 1) := by decide +kernel
theorem dX6_number_89 : decode cX6_number 89 = .ok (.invokevirtual 125, 3) := by decide +kernel
theorem dX6_number_92 : decode cX6_number 92 = .ok (.iadd, 1) := by decide +kernel
theorem dX6_number_93 : decode cX6_number 93 = .ok (.bipush 48, 2) := by decide +kernel
theorem dX6_number_95 : decode cX6_number 95 = .ok (.isub, 1) := by decide +kernel
theorem dX6_number_96 : decode cX6_number 96 = .ok (.bipush 60, 2) := by decide +kernel
theorem dX6_number_98 : decode cX6_number 98 = .ok (.if_icmp .gt 26, 3) := by decide +kernel
theorem dX6_number_101 : decode cX6_number 101 = .ok (.bipush 10, 2) := by decide +kernel
theorem dX6_number_103 : decode cX6_number 103 = .ok (.iload_n 1, 1) := by decide +kernel
theorem dX6_number_104 : decode cX6_number 104 = .ok (.imul, 1) := by decide +kernel
theorem dX6_number_105 : decode cX6_number 105 = .ok (.aload_n 0, 1) := by decide +kernel
theorem dX6_number_106 : decode cX6_number 106 = .ok (.invokevirtual 125, 3) := by decide +kernel
theorem dX6_number_109 : decode cX6_number 109 = .ok (.iadd, 1) := by decide +kernel
theorem dX6_number_110 : decode cX6_number 110 = .ok (.bipush 48, 2) := by decide +kernel
theorem dX6_number_112 : decode cX6_number 112 = .ok (.isub, 1) := by decide +kernel
theorem dX6_number_113 : decode cX6_number 113 = .ok (.istore_n 1, 1) := by decide +kernel
theorem dX6_number_114 : decode cX6_number 114 = .ok (.aload_n 0, 1) := by decide +kernel
theorem dX6_number_115 : decode cX6_number 115 = .ok (.dup, 1) := by decide +kernel
theorem dX6_number_116 : decode cX6_number 116 = .ok (.getfield 122, 3) := by decide +kernel
theorem dX6_number_119 : decode cX6_number 119 = .ok (.iconst 1, 1) := by decide +kernel
theorem dX6_number_120 : decode cX6_number 120 = .ok (.iadd, 1) := by decide +kernel
theorem dX6_number_121 : decode cX6_number 121 = .ok (.putfield 122, 3) := by decide +kernel
theorem dX6_number_124 : decode cX6_number 124 = .ok (.aload_n 0, 1) := by decide +kernel
theorem dX6_number_125 : decode cX6_number 125 = .ok (.aload_n 0, 1) := by decide +kernel
theorem dX6_number_126 : decode cX6_number 126 = .ok (.getfield 128, 3) := by decide +kernel
theorem dX6_number_129 : decode cX6_number 129 = .ok (.ifCond .eq 12, 3) := by decide +kernel
theorem dX6_number_132 : decode cX6_number 132 = .ok (.iload_n 1, 1) := by decide +kernel
theorem dX6_number_133 : decode cX6_number 133 = .ok (.iconst 1, 1) := by decide +kernel
theorem dX6_number_134 : decode cX6_number 134 = .ok (.if_icmp .le 7, 3) := by decide +kernel
theorem dX6_number_137 : decode cX6_number 137 = .ok (.iconst 1, 1) := by decide +kernel
theorem dX6_number_138 : decode cX6_number 138 = .ok (.goto 4, 3) := by decide +kernel
theorem dX6_number_141 : decode cX6_number 141 = .ok (.iconst 0, 1) := by decide +kernel
theorem dX6_number_142 : decode cX6_number 142 = .ok (.putfield 128, 3) := by decide +kernel
theorem dX6_number_145 : decode cX6_number 145 = .ok (.iload_n 1, 1) := by decide +kernel
theorem dX6_number_146 : decode cX6_number 146 = .ok (.ireturn, 1) := by decide +kernel
theorem dX6_readsGroup_0 : decode cX6_readsGroup 0 = .ok (.aload_n 0, 1) := by decide +kernel
theorem dX6_readsGroup_1 : decode cX6_readsGroup 1 = .ok (.invokevirtual 125, 3) := by decide +kernel
theorem dX6_readsGroup_4 : decode cX6_readsGroup 4 = .ok (.istore_n 1, 1) := by decide +kernel
theorem dX6_readsGroup_5 : decode cX6_readsGroup 5 = .ok (.aload_n 0, 1) := by decide +kernel
theorem dX6_readsGroup_6 : decode cX6_readsGroup 6 = .ok (.iload_n 1, 1) := by decide +kernel
theorem dX6_readsGroup_7 : decode cX6_readsGroup 7 = .ok (.bipush 115, 2) := by decide +kernel
theorem dX6_readsGroup_9 : decode cX6_readsGroup 9 = .ok (.if_icmp .eq 15, 3) := by decide +kernel
theorem dX6_readsGroup_12 : decode cX6_readsGroup 12 = .ok (.iload_n 1, 1) := by decide +kernel
theorem dX6_readsGroup_13 : decode cX6_readsGroup 13 = .ok (.bipush 99, 2) := by decide +kernel
theorem dX6_readsGroup_15 : decode cX6_readsGroup 15 = .ok (.if_icmp .eq 9, 3) := by decide +kernel
theorem dX6_readsGroup_18 : decode cX6_readsGroup 18 = .ok (.iload_n 1, 1) := by decide +kernel
theorem dX6_readsGroup_19 : decode cX6_readsGroup 19 = .ok (.bipush 114, 2) := by decide +kernel
theorem dX6_readsGroup_21 : decode cX6_readsGroup 21 = .ok (.if_icmp .ne 7, 3) := by decide +kernel
theorem dX6_readsGroup_24 : decode cX6_readsGroup 24 = .ok (.iconst 1, 1) := by decide +kernel
theorem dX6_readsGroup_25 : decode cX6_readsGroup 25 = .ok (.goto 4, 3) := by decide +kernel
theorem dX6_readsGroup_28 : decode cX6_readsGroup 28 = .ok (.iconst 0, 1) := by decide +kernel
theorem dX6_readsGroup_29 : decode cX6_readsGroup 29 = .ok (.putfield 128, 3) := by decide +kernel
theorem dX6_readsGroup_32 : decode cX6_readsGroup 32 = .ok (.aload_n 0, 1) := by decide +kernel
theorem dX6_readsGroup_33 : decode cX6_readsGroup 33 = .ok (.dup, 1) := by decide +kernel
theorem dX6_readsGroup_34 : decode cX6_readsGroup 34 = .ok (.getfield 122, 3) := by decide +kernel
theorem dX6_readsGroup_37 : decode cX6_readsGroup 37 = .ok (.aload_n 0, 1) := by decide +kernel
theorem dX6_readsGroup_38 : decode cX6_readsGroup 38 = .ok (.getfield 128, 3) := by decide +kernel
theorem dX6_readsGroup_41 : decode cX6_readsGroup 41 = .ok (.ifCond .eq 7, 3) := by decide +kernel
theorem dX6_readsGroup_44 : decode cX6_readsGroup 44 = .ok (.iconst 1, 1) := by decide +kernel
theorem dX6_readsGroup_45 : decode cX6_readsGroup 45 = .ok (.goto 4, 3) := by decide +kernel
theorem dX6_readsGroup_48 : decode cX6_readsGroup 48 = .ok (.iconst 0, 1) := by decide +kernel
theorem dX6_readsGroup_49 : decode cX6_readsGroup 49 = .ok (.iadd, 1) := by decide +kernel
theorem dX6_readsGroup_50 : decode cX6_readsGroup 50 = .ok (.putfield 122, 3) := by decide +kernel
theorem dX6_readsGroup_53 : decode cX6_readsGroup 53 = .ok (.aload_n 0, 1) := by decide +kernel
theorem dX6_readsGroup_54 : decode cX6_readsGroup 54 = .ok (.getfield 25, 3) := by decide +kernel
theorem dX6_readsGroup_57 : decode cX6_readsGroup 57 = .ok (.iconst 2, 1) := by decide +kernel
theorem dX6_readsGroup_58 : decode cX6_readsGroup 58 = .ok (.aload_n 0, 1) := by decide +kernel
theorem dX6_readsGroup_59 : decode cX6_readsGroup 59 = .ok (.getfield 110, 3) := by decide +kernel
theorem dX6_readsGroup_62 : decode cX6_readsGroup 62 = .ok (.imul, 1) := by decide +kernel
theorem dX6_readsGroup_63 : decode cX6_readsGroup 63 = .ok (.iload_n 1, 1) := by decide +kernel
theorem dX6_readsGroup_64 : decode cX6_readsGroup 64 = .ok (.bipush 115, 2) := by decide +kernel
theorem dX6_readsGroup_66 : decode cX6_readsGroup 66 = .ok (.if_icmp .ne 7, 3) := by decide +kernel
theorem dX6_readsGroup_69 : decode cX6_readsGroup 69 = .ok (.iconst 0, 1) := by decide +kernel
theorem dX6_readsGroup_70 : decode cX6_readsGroup 70 = .ok (.goto 14, 3) := by decide +kernel
theorem dX6_readsGroup_73 : decode cX6_readsGroup 73 = .ok (.iload_n 1, 1) := by decide +kernel
theorem dX6_readsGroup_74 : decode cX6_readsGroup 74 = .ok (.bipush 99, 2) := by decide +kernel
theorem dX6_readsGroup_76 : decode cX6_readsGroup 76 = .ok (.if_icmp .ne 7, 3) := by decide +kernel
theorem dX6_readsGroup_79 : decode cX6_readsGroup 79 = .ok (.iconst 1, 1) := by decide +kernel
theorem dX6_readsGroup_80 : decode cX6_readsGroup 80 = .ok (.goto 4, 3) := by decide +kernel
theorem dX6_readsGroup_83 : decode cX6_readsGroup 83 = .ok (.iconst 2, 1) := by decide +kernel
theorem dX6_readsGroup_84 : decode cX6_readsGroup 84 = .ok (.iastore, 1) := by decide +kernel
theorem dX6_readsGroup_85 : decode cX6_readsGroup 85 = .ok (.aload_n 0, 1) := by decide +kernel
theorem dX6_readsGroup_86 : decode cX6_readsGroup 86 = .ok (.getfield 25, 3) := by decide +kernel
theorem dX6_readsGroup_89 : decode cX6_readsGroup 89 = .ok (.iconst 2, 1) := by decide +kernel
theorem dX6_readsGroup_90 : decode cX6_readsGroup 90 = .ok (.aload_n 0, 1) := by decide +kernel
theorem dX6_readsGroup_91 : decode cX6_readsGroup 91 = .ok (.getfield 110, 3) := by decide +kernel
theorem dX6_readsGroup_94 : decode cX6_readsGroup 94 = .ok (.imul, 1) := by decide +kernel
theorem dX6_readsGroup_95 : decode cX6_readsGroup 95 = .ok (.iconst 1, 1) := by decide +kernel
theorem dX6_readsGroup_96 : decode cX6_readsGroup 96 = .ok (.iadd, 1) := by decide +kernel
theorem dX6_readsGroup_97 : decode cX6_readsGroup 97 = .ok (.aload_n 0, 1) := by decide +kernel
theorem dX6_readsGroup_98 : decode cX6_readsGroup 98 = .ok (.getfield 128, 3) := by decide +kernel
theorem dX6_readsGroup_101 : decode cX6_readsGroup 101 = .ok (.ifCond .eq 10, 3) := by decide +kernel
theorem dX6_readsGroup_104 : decode cX6_readsGroup 104 = .ok (.aload_n 0, 1) := by decide +kernel
theorem dX6_readsGroup_105 : decode cX6_readsGroup 105 = .ok (.invokevirtual 132, 3) := by decide +kernel
theorem dX6_readsGroup_108 : decode cX6_readsGroup 108 = .ok (.goto 4, 3) := by decide +kernel
theorem dX6_readsGroup_111 : decode cX6_readsGroup 111 = .ok (.iconst 0, 1) := by decide +kernel
theorem dX6_readsGroup_112 : decode cX6_readsGroup 112 = .ok (.iastore, 1) := by decide +kernel
theorem dX6_readsGroup_113 : decode cX6_readsGroup 113 = .ok (.aload_n 0, 1) := by decide +kernel
theorem dX6_readsGroup_114 : decode cX6_readsGroup 114 = .ok (.dup, 1) := by decide +kernel
theorem dX6_readsGroup_115 : decode cX6_readsGroup 115 = .ok (.getfield 110, 3) := by decide +kernel
theorem dX6_readsGroup_118 : decode cX6_readsGroup 118 = .ok (.aload_n 0, 1) := by decide +kernel
theorem dX6_readsGroup_119 : decode cX6_readsGroup 119 = .ok (.getfield 128, 3) := by decide +kernel
theorem dX6_readsGroup_122 : decode cX6_readsGroup 122 = .ok (.ifCond .eq 7, 3) := by decide +kernel
theorem dX6_readsGroup_125 : decode cX6_readsGroup 125 = .ok (.iconst 1, 1) := by decide +kernel
theorem dX6_readsGroup_126 : decode cX6_readsGroup 126 = .ok (.goto 4, 3) := by decide +kernel
theorem dX6_readsGroup_129 : decode cX6_readsGroup 129 = .ok (.iconst 0, 1) := by decide +kernel
theorem dX6_readsGroup_130 : decode cX6_readsGroup 130 = .ok (.iadd, 1) := by decide +kernel
theorem dX6_readsGroup_131 : decode cX6_readsGroup 131 = .ok (.putfield 110, 3) := by decide +kernel
theorem dX6_readsGroup_134 : decode cX6_readsGroup 134 = .ok (.return_, 1) := by decide +kernel
theorem dX6_reads_0 : decode cX6_reads 0 = .ok (.aload_n 0, 1) := by decide +kernel
theorem dX6_reads_1 : decode cX6_reads 1 = .ok (.iconst 0, 1) := by decide +kernel
theorem dX6_reads_2 : decode cX6_reads 2 = .ok (.putfield 122, 3) := by decide +kernel
theorem dX6_reads_5 : decode cX6_reads 5 = .ok (.aload_n 0, 1) := by decide +kernel
theorem dX6_reads_6 : decode cX6_reads 6 = .ok (.iconst 0, 1) := by decide +kernel
theorem dX6_reads_7 : decode cX6_reads 7 = .ok (.putfield 110, 3) := by decide +kernel
theorem dX6_reads_10 : decode cX6_reads 10 = .ok (.aload_n 0, 1) := by decide +kernel
theorem dX6_reads_11 : decode cX6_reads 11 = .ok (.invokevirtual 135, 3) := by decide +kernel
theorem dX6_reads_14 : decode cX6_reads 14 = .ok (.aload_n 0, 1) := by decide +kernel
theorem dX6_reads_15 : decode cX6_reads 15 = .ok (.getfield 128, 3) := by decide +kernel
theorem dX6_reads_18 : decode cX6_reads 18 = .ok (.ifCond .eq 21, 3) := by decide +kernel
theorem dX6_reads_21 : decode cX6_reads 21 = .ok (.aload_n 0, 1) := by decide +kernel
theorem dX6_reads_22 : decode cX6_reads 22 = .ok (.getfield 122, 3) := by decide +kernel
theorem dX6_reads_25 : decode cX6_reads 25 = .ok (.aload_n 0, 1) := by decide +kernel
theorem dX6_reads_26 : decode cX6_reads 26 = .ok (.getfield 119, 3) := by decide +kernel
theorem dX6_reads_29 : decode cX6_reads 29 = .ok (.if_icmp .ge 10, 3) := by decide +kernel
theorem dX6_reads_32 : decode cX6_reads 32 = .ok (.aload_n 0, 1) := by decide +kernel
theorem dX6_reads_33 : decode cX6_reads 33 = .ok (.invokevirtual 135, 3) := by decide +kernel
theorem dX6_reads_36 : decode cX6_reads 36 = .ok (.goto (-22), 3) := by decide +kernel
theorem dX6_reads_39 : decode cX6_reads 39 = .ok (.aload_n 0, 1) := by decide +kernel
theorem dX6_reads_40 : decode cX6_reads 40 = .ok (.getfield 128, 3) := by decide +kernel
theorem dX6_reads_43 : decode cX6_reads 43 = .ok (.ifCond .eq 8, 3) := by decide +kernel
theorem dX6_reads_46 : decode cX6_reads 46 = .ok (.bipush (-5), 2) := by decide +kernel
theorem dX6_reads_48 : decode cX6_reads 48 = .ok (.goto 7, 3) := by decide +kernel
theorem dX6_reads_51 : decode cX6_reads 51 = .ok (.aload_n 0, 1) := by decide +kernel
theorem dX6_reads_52 : decode cX6_reads 52 = .ok (.getfield 122, 3) := by decide +kernel
theorem dX6_reads_55 : decode cX6_reads 55 = .ok (.ireturn, 1) := by decide +kernel
theorem dX6_undo_0 : decode cX6_undo 0 = .ok (.aload_n 0, 1) := by decide +kernel
theorem dX6_undo_1 : decode cX6_undo 1 = .ok (.iconst 0, 1) := by decide +kernel
theorem dX6_undo_2 : decode cX6_undo 2 = .ok (.putfield 28, 3) := by decide +kernel
theorem dX6_undo_5 : decode cX6_undo 5 = .ok (.aload_n 0, 1) := by decide +kernel
theorem dX6_undo_6 : decode cX6_undo 6 = .ok (.getfield 40, 3) := by decide +kernel
theorem dX6_undo_9 : decode cX6_undo 9 = .ok (.ifCond .ne 6, 3) := by decide +kernel
theorem dX6_undo_12 : decode cX6_undo 12 = .ok (.bipush (-5), 2) := by decide +kernel
theorem dX6_undo_14 : decode cX6_undo 14 = .ok (.ireturn, 1) := by decide +kernel
theorem dX6_undo_15 : decode cX6_undo 15 = .ok (.aload_n 0, 1) := by decide +kernel
theorem dX6_undo_16 : decode cX6_undo 16 = .ok (.dup, 1) := by decide +kernel
theorem dX6_undo_17 : decode cX6_undo 17 = .ok (.getfield 40, 3) := by decide +kernel
theorem dX6_undo_20 : decode cX6_undo 20 = .ok (.iconst 1, 1) := by decide +kernel
theorem dX6_undo_21 : decode cX6_undo 21 = .ok (.isub, 1) := by decide +kernel
theorem dX6_undo_22 : decode cX6_undo 22 = .ok (.putfield 40, 3) := by decide +kernel
theorem dX6_undo_25 : decode cX6_undo 25 = .ok (.iconst 0, 1) := by decide +kernel
theorem dX6_undo_26 : decode cX6_undo 26 = .ok (.istore_n 1, 1) := by decide +kernel
theorem dX6_undo_27 : decode cX6_undo 27 = .ok (.iload_n 1, 1) := by decide +kernel
theorem dX6_undo_28 : decode cX6_undo 28 = .ok (.sipush 941, 3) := by decide +kernel
theorem dX6_undo_31 : decode cX6_undo 31 = .ok (.if_icmp .ge 30, 3) := by decide +kernel
theorem dX6_undo_34 : decode cX6_undo 34 = .ok (.aload_n 0, 1) := by decide +kernel
theorem dX6_undo_35 : decode cX6_undo 35 = .ok (.getfield 7, 3) := by decide +kernel
theorem dX6_undo_38 : decode cX6_undo 38 = .ok (.iload_n 1, 1) := by decide +kernel
theorem dX6_undo_39 : decode cX6_undo 39 = .ok (.aload_n 0, 1) := by decide +kernel
theorem dX6_undo_40 : decode cX6_undo 40 = .ok (.getfield 16, 3) := by decide +kernel
theorem dX6_undo_43 : decode cX6_undo 43 = .ok (.sipush 941, 3) := by decide +kernel
theorem dX6_undo_46 : decode cX6_undo 46 = .ok (.aload_n 0, 1) := by decide +kernel
theorem dX6_undo_47 : decode cX6_undo 47 = .ok (.getfield 40, 3) := by decide +kernel
theorem dX6_undo_50 : decode cX6_undo 50 = .ok (.imul, 1) := by decide +kernel
theorem dX6_undo_51 : decode cX6_undo 51 = .ok (.iload_n 1, 1) := by decide +kernel
theorem dX6_undo_52 : decode cX6_undo 52 = .ok (.iadd, 1) := by decide +kernel
theorem dX6_undo_53 : decode cX6_undo 53 = .ok (.iaload, 1) := by decide +kernel
theorem dX6_undo_54 : decode cX6_undo 54 = .ok (.iastore, 1) := by decide +kernel
theorem dX6_undo_55 : decode cX6_undo 55 = .ok (.iinc 1 1, 3) := by decide +kernel
theorem dX6_undo_58 : decode cX6_undo 58 = .ok (.goto (-31), 3) := by decide +kernel
theorem dX6_undo_61 : decode cX6_undo 61 = .ok (.aload_n 0, 1) := by decide +kernel
theorem dX6_undo_62 : decode cX6_undo 62 = .ok (.getfield 40, 3) := by decide +kernel
theorem dX6_undo_65 : decode cX6_undo 65 = .ok (.ireturn, 1) := by decide +kernel
theorem dX6_keep_0 : decode cX6_keep 0 = .ok (.aload_n 0, 1) := by decide +kernel
theorem dX6_keep_1 : decode cX6_keep 1 = .ok (.iconst 0, 1) := by decide +kernel
theorem dX6_keep_2 : decode cX6_keep 2 = .ok (.putfield 28, 3) := by decide +kernel
theorem dX6_keep_5 : decode cX6_keep 5 = .ok (.iconst 0, 1) := by decide +kernel
theorem dX6_keep_6 : decode cX6_keep 6 = .ok (.istore_n 1, 1) := by decide +kernel
theorem dX6_keep_7 : decode cX6_keep 7 = .ok (.iload_n 1, 1) := by decide +kernel
theorem dX6_keep_8 : decode cX6_keep 8 = .ok (.sipush 941, 3) := by decide +kernel
theorem dX6_keep_11 : decode cX6_keep 11 = .ok (.if_icmp .ge 21, 3) := by decide +kernel
theorem dX6_keep_14 : decode cX6_keep 14 = .ok (.aload_n 0, 1) := by decide +kernel
theorem dX6_keep_15 : decode cX6_keep 15 = .ok (.getfield 19, 3) := by decide +kernel
theorem dX6_keep_18 : decode cX6_keep 18 = .ok (.iload_n 1, 1) := by decide +kernel
theorem dX6_keep_19 : decode cX6_keep 19 = .ok (.aload_n 0, 1) := by decide +kernel
theorem dX6_keep_20 : decode cX6_keep 20 = .ok (.getfield 7, 3) := by decide +kernel
theorem dX6_keep_23 : decode cX6_keep 23 = .ok (.iload_n 1, 1) := by decide +kernel
theorem dX6_keep_24 : decode cX6_keep 24 = .ok (.iaload, 1) := by decide +kernel
theorem dX6_keep_25 : decode cX6_keep 25 = .ok (.iastore, 1) := by decide +kernel
theorem dX6_keep_26 : decode cX6_keep 26 = .ok (.iinc 1 1, 3) := by decide +kernel
theorem dX6_keep_29 : decode cX6_keep 29 = .ok (.goto (-22), 3) := by decide +kernel
theorem dX6_keep_32 : decode cX6_keep 32 = .ok (.aload_n 0, 1) := by decide +kernel
theorem dX6_keep_33 : decode cX6_keep 33 = .ok (.iconst 1, 1) := by decide +kernel
theorem dX6_keep_34 : decode cX6_keep 34 = .ok (.putfield 138, 3) := by decide +kernel
theorem dX6_keep_37 : decode cX6_keep 37 = .ok (.aload_n 0, 1) := by decide +kernel
theorem dX6_keep_38 : decode cX6_keep 38 = .ok (.getfield 7, 3) := by decide +kernel
theorem dX6_keep_41 : decode cX6_keep 41 = .ok (.iconst 4, 1) := by decide +kernel
theorem dX6_keep_42 : decode cX6_keep 42 = .ok (.iaload, 1) := by decide +kernel
theorem dX6_keep_43 : decode cX6_keep 43 = .ok (.ireturn, 1) := by decide +kernel
theorem dX6_restore_0 : decode cX6_restore 0 = .ok (.aload_n 0, 1) := by decide +kernel
theorem dX6_restore_1 : decode cX6_restore 1 = .ok (.iconst 0, 1) := by decide +kernel
theorem dX6_restore_2 : decode cX6_restore 2 = .ok (.putfield 28, 3) := by decide +kernel
theorem dX6_restore_5 : decode cX6_restore 5 = .ok (.aload_n 0, 1) := by decide +kernel
theorem dX6_restore_6 : decode cX6_restore 6 = .ok (.getfield 138, 3) := by decide +kernel
theorem dX6_restore_9 : decode cX6_restore 9 = .ok (.ifCond .ne 6, 3) := by decide +kernel
theorem dX6_restore_12 : decode cX6_restore 12 = .ok (.bipush (-5), 2) := by decide +kernel
theorem dX6_restore_14 : decode cX6_restore 14 = .ok (.ireturn, 1) := by decide +kernel
theorem dX6_restore_15 : decode cX6_restore 15 = .ok (.aload_n 0, 1) := by decide +kernel
theorem dX6_restore_16 : decode cX6_restore 16 = .ok (.invokevirtual 80, 3) := by decide +kernel
theorem dX6_restore_19 : decode cX6_restore 19 = .ok (.iconst 0, 1) := by decide +kernel
theorem dX6_restore_20 : decode cX6_restore 20 = .ok (.istore_n 1, 1) := by decide +kernel
theorem dX6_restore_21 : decode cX6_restore 21 = .ok (.iload_n 1, 1) := by decide +kernel
theorem dX6_restore_22 : decode cX6_restore 22 = .ok (.sipush 941, 3) := by decide +kernel
theorem dX6_restore_25 : decode cX6_restore 25 = .ok (.if_icmp .ge 21, 3) := by decide +kernel
theorem dX6_restore_28 : decode cX6_restore 28 = .ok (.aload_n 0, 1) := by decide +kernel
theorem dX6_restore_29 : decode cX6_restore 29 = .ok (.getfield 7, 3) := by decide +kernel
theorem dX6_restore_32 : decode cX6_restore 32 = .ok (.iload_n 1, 1) := by decide +kernel
theorem dX6_restore_33 : decode cX6_restore 33 = .ok (.aload_n 0, 1) := by decide +kernel
theorem dX6_restore_34 : decode cX6_restore 34 = .ok (.getfield 19, 3) := by decide +kernel
theorem dX6_restore_37 : decode cX6_restore 37 = .ok (.iload_n 1, 1) := by decide +kernel
theorem dX6_restore_38 : decode cX6_restore 38 = .ok (.iaload, 1) := by decide +kernel
theorem dX6_restore_39 : decode cX6_restore 39 = .ok (.iastore, 1) := by decide +kernel
theorem dX6_restore_40 : decode cX6_restore 40 = .ok (.iinc 1 1, 3) := by decide +kernel
theorem dX6_restore_43 : decode cX6_restore 43 = .ok (.goto (-22), 3) := by decide +kernel
theorem dX6_restore_46 : decode cX6_restore 46 = .ok (.aload_n 0, 1) := by decide +kernel
theorem dX6_restore_47 : decode cX6_restore 47 = .ok (.getfield 7, 3) := by decide +kernel
theorem dX6_restore_50 : decode cX6_restore 50 = .ok (.iconst 4, 1) := by decide +kernel
theorem dX6_restore_51 : decode cX6_restore 51 = .ok (.iaload, 1) := by decide +kernel
theorem dX6_restore_52 : decode cX6_restore 52 = .ok (.ireturn, 1) := by decide +kernel
theorem dX6_plotsOf_0 : decode cX6_plotsOf 0 = .ok (.iconst 0, 1) := by decide +kernel
theorem dX6_plotsOf_1 : decode cX6_plotsOf 1 = .ok (.istore_n 3, 1) := by decide +kernel
theorem dX6_plotsOf_2 : decode cX6_plotsOf 2 = .ok (.iconst 0, 1) := by decide +kernel
theorem dX6_plotsOf_3 : decode cX6_plotsOf 3 = .ok (.istore 4, 2) := by decide +kernel
theorem dX6_plotsOf_5 : decode cX6_plotsOf 5 = .ok (.iload 4, 2) := by decide +kernel
theorem dX6_plotsOf_7 : decode cX6_plotsOf 7 = .ok (.bipush 20, 2) := by decide +kernel
theorem dX6_plotsOf_9 : decode cX6_plotsOf 9 = .ok (.if_icmp .ge 28, 3) := by decide +kernel
theorem dX6_plotsOf_12 : decode cX6_plotsOf 12 = .ok (.iload_n 3, 1) := by decide +kernel
theorem dX6_plotsOf_13 : decode cX6_plotsOf 13 = .ok (.aload_n 0, 1) := by decide +kernel
theorem dX6_plotsOf_14 : decode cX6_plotsOf 14 = .ok (.iload 4, 2) := by decide +kernel
theorem dX6_plotsOf_16 : decode cX6_plotsOf 16 = .ok (.iload_n 2, 1) := by decide +kernel
theorem dX6_plotsOf_17 : decode cX6_plotsOf 17 = .ok (.invokevirtual 77, 3) := by decide +kernel
theorem dX6_plotsOf_20 : decode cX6_plotsOf 20 = .ok (.iload_n 1, 1) := by decide +kernel
theorem dX6_plotsOf_21 : decode cX6_plotsOf 21 = .ok (.if_icmp .ne 7, 3) := by decide +kernel
theorem dX6_plotsOf_24 : decode cX6_plotsOf 24 = .ok (.iconst 1, 1) := by decide +kernel
theorem dX6_plotsOf_25 : decode cX6_plotsOf 25 = .ok (.goto 4, 3) := by decide +kernel
theorem dX6_plotsOf_28 : decode cX6_plotsOf 28 = .ok (.iconst 0, 1) := by decide +kernel
theorem dX6_plotsOf_29 : decode cX6_plotsOf 29 = .ok (.iadd, 1) := by decide +kernel
theorem dX6_plotsOf_30 : decode cX6_plotsOf 30 = .ok (.istore_n 3, 1) := by decide +kernel
theorem dX6_plotsOf_31 : decode cX6_plotsOf 31 = .ok (.iinc 4 1, 3) := by decide +kernel
theorem dX6_plotsOf_34 : decode cX6_plotsOf 34 = .ok (.goto (-29), 3) := by decide +kernel
theorem dX6_plotsOf_37 : decode cX6_plotsOf 37 = .ok (.iload_n 3, 1) := by decide +kernel
theorem dX6_plotsOf_38 : decode cX6_plotsOf 38 = .ok (.ireturn, 1) := by decide +kernel
theorem dX6_disputesOf_0 : decode cX6_disputesOf 0 = .ok (.iconst 0, 1) := by decide +kernel
theorem dX6_disputesOf_1 : decode cX6_disputesOf 1 = .ok (.istore_n 2, 1) := by decide +kernel
theorem dX6_disputesOf_2 : decode cX6_disputesOf 2 = .ok (.iconst 0, 1) := by decide +kernel
theorem dX6_disputesOf_3 : decode cX6_disputesOf 3 = .ok (.istore_n 3, 1) := by decide +kernel
theorem dX6_disputesOf_4 : decode cX6_disputesOf 4 = .ok (.iload_n 3, 1) := by decide +kernel
theorem dX6_disputesOf_5 : decode cX6_disputesOf 5 = .ok (.aload_n 0, 1) := by decide +kernel
theorem dX6_disputesOf_6 : decode cX6_disputesOf 6 = .ok (.getfield 7, 3) := by decide +kernel
theorem dX6_disputesOf_9 : decode cX6_disputesOf 9 = .ok (.bipush 7, 2) := by decide +kernel
theorem dX6_disputesOf_11 : decode cX6_disputesOf 11 = .ok (.iaload, 1) := by decide +kernel
theorem dX6_disputesOf_12 : decode cX6_disputesOf 12 = .ok (.if_icmp .ge 37, 3) := by decide +kernel
theorem dX6_disputesOf_15 : decode cX6_disputesOf 15 = .ok (.iload_n 2, 1) := by decide +kernel
theorem dX6_disputesOf_16 : decode cX6_disputesOf 16 = .ok (.aload_n 0, 1) := by decide +kernel
theorem dX6_disputesOf_17 : decode cX6_disputesOf 17 = .ok (.iload_n 3, 1) := by decide +kernel
theorem dX6_disputesOf_18 : decode cX6_disputesOf 18 = .ok (.iconst 0, 1) := by decide +kernel
theorem dX6_disputesOf_19 : decode cX6_disputesOf 19 = .ok (.invokevirtual 113, 3) := by decide +kernel
theorem dX6_disputesOf_22 : decode cX6_disputesOf 22 = .ok (.iload_n 1, 1) := by decide +kernel
theorem dX6_disputesOf_23 : decode cX6_disputesOf 23 = .ok (.if_icmp .eq 13, 3) := by decide +kernel
theorem dX6_disputesOf_26 : decode cX6_disputesOf 26 = .ok (.aload_n 0, 1) := by decide +kernel
theorem dX6_disputesOf_27 : decode cX6_disputesOf 27 = .ok (.iload_n 3, 1) := by decide +kernel
theorem dX6_disputesOf_28 : decode cX6_disputesOf 28 = .ok (.iconst 1, 1) := by decide +kernel
theorem dX6_disputesOf_29 : decode cX6_disputesOf 29 = .ok (.invokevirtual 113, 3) := by decide +kernel
theorem dX6_disputesOf_32 : decode cX6_disputesOf 32 = .ok (.iload_n 1, 1) := by decide +kernel
theorem dX6_disputesOf_33 : decode cX6_disputesOf 33 = .ok (.if_icmp .ne 7, 3) := by decide +kernel
theorem dX6_disputesOf_36 : decode cX6_disputesOf 36 = .ok (.iconst 1, 1) := by decide +kernel
theorem dX6_disputesOf_37 : decode cX6_disputesOf 37 = .ok (.goto 4, 3) := by decide +kernel
theorem dX6_disputesOf_40 : decode cX6_disputesOf 40 = .ok (.iconst 0, 1) := by decide +kernel
theorem dX6_disputesOf_41 : decode cX6_disputesOf 41 = .ok (.iadd, 1) := by decide +kernel
theorem dX6_disputesOf_42 : decode cX6_disputesOf 42 = .ok (.istore_n 2, 1) := by decide +kernel
theorem dX6_disputesOf_43 : decode cX6_disputesOf 43 = .ok (.iinc 3 1, 3) := by decide +kernel
theorem dX6_disputesOf_46 : decode cX6_disputesOf 46 = .ok (.goto (-42), 3) := by decide +kernel
theorem dX6_disputesOf_49 : decode cX6_disputesOf 49 = .ok (.iload_n 2, 1) := by decide +kernel
theorem dX6_disputesOf_50 : decode cX6_disputesOf 50 = .ok (.ireturn, 1) := by decide +kernel
theorem dX6_commoner_0 : decode cX6_commoner 0 = .ok (.aload_n 0, 1) := by decide +kernel
theorem dX6_commoner_1 : decode cX6_commoner 1 = .ok (.iconst 0, 1) := by decide +kernel
theorem dX6_commoner_2 : decode cX6_commoner 2 = .ok (.putfield 28, 3) := by decide +kernel
theorem dX6_commoner_5 : decode cX6_commoner 5 = .ok (.iload_n 1, 1) := by decide +kernel
theorem dX6_commoner_6 : decode cX6_commoner 6 = .ok (.invokestatic 74, 3) := by decide +kernel
theorem dX6_commoner_9 : decode cX6_commoner 9 = .ok (.ifCond .ne 5, 3) := by decide +kernel
theorem dX6_commoner_12 : decode cX6_commoner 12 = .ok (.iconst (-1), 1) := by decide +kernel
theorem dX6_commoner_13 : decode cX6_commoner 13 = .ok (.ireturn, 1) := by decide +kernel
theorem dX6_commoner_14 : decode cX6_commoner 14 = .ok (.iload_n 2, 1) := by decide +kernel
theorem dX6_commoner_15 : decode cX6_commoner 15 = .ok (.tableswitch 90 0 7 #[45, 45, 45, 52, 52, 68, 68, 84], 45) := by decide +kernel
theorem dX6_commoner_60 : decode cX6_commoner 60 = .ok (.aload_n 0, 1) := by decide +kernel
theorem dX6_commoner_61 : decode cX6_commoner 61 = .ok (.iload_n 1, 1) := by decide +kernel
theorem dX6_commoner_62 : decode cX6_commoner 62 = .ok (.iload_n 2, 1) := by decide +kernel
theorem dX6_commoner_63 : decode cX6_commoner 63 = .ok (.invokevirtual 83, 3) := by decide +kernel
theorem dX6_commoner_66 : decode cX6_commoner 66 = .ok (.ireturn, 1) := by decide +kernel
theorem dX6_commoner_67 : decode cX6_commoner 67 = .ok (.aload_n 0, 1) := by decide +kernel
theorem dX6_commoner_68 : decode cX6_commoner 68 = .ok (.iload_n 1, 1) := by decide +kernel
theorem dX6_commoner_69 : decode cX6_commoner 69 = .ok (.iload_n 2, 1) := by decide +kernel
theorem dX6_commoner_70 : decode cX6_commoner 70 = .ok (.iconst 4, 1) := by decide +kernel
theorem dX6_commoner_71 : decode cX6_commoner 71 = .ok (.if_icmp .ne 7, 3) := by decide +kernel
theorem dX6_commoner_74 : decode cX6_commoner 74 = .ok (.iconst 1, 1) := by decide +kernel
theorem dX6_commoner_75 : decode cX6_commoner 75 = .ok (.goto 4, 3) := by decide +kernel
theorem dX6_commoner_78 : decode cX6_commoner 78 = .ok (.iconst 0, 1) := by decide +kernel
theorem dX6_commoner_79 : decode cX6_commoner 79 = .ok (.invokevirtual 99, 3) := by decide +kernel
theorem dX6_commoner_82 : decode cX6_commoner 82 = .ok (.ireturn, 1) := by decide +kernel
theorem dX6_commoner_83 : decode cX6_commoner 83 = .ok (.aload_n 0, 1) := by decide +kernel
theorem dX6_commoner_84 : decode cX6_commoner 84 = .ok (.iload_n 1, 1) := by decide +kernel
theorem dX6_commoner_85 : decode cX6_commoner 85 = .ok (.iload_n 2, 1) := by decide +kernel
theorem dX6_commoner_86 : decode cX6_commoner 86 = .ok (.iconst 5, 1) := by decide +kernel
theorem dX6_commoner_87 : decode cX6_commoner 87 = .ok (.if_icmp .ne 7, 3) := by decide +kernel
theorem dX6_commoner_90 : decode cX6_commoner 90 = .ok (.iconst 1, 1) := by decide +kernel
theorem dX6_commoner_91 : decode cX6_commoner 91 = .ok (.goto 4, 3) := by decide +kernel
theorem dX6_commoner_94 : decode cX6_commoner 94 = .ok (.iconst 2, 1) := by decide +kernel
theorem dX6_commoner_95 : decode cX6_commoner 95 = .ok (.invokevirtual 141, 3) := by decide +kernel
theorem dX6_commoner_98 : decode cX6_commoner 98 = .ok (.ireturn, 1) := by decide +kernel
theorem dX6_commoner_99 : decode cX6_commoner 99 = .ok (.aload_n 0, 1) := by decide +kernel
theorem dX6_commoner_100 : decode cX6_commoner 100 = .ok (.iload_n 1, 1) := by decide +kernel
theorem dX6_commoner_101 : decode cX6_commoner 101 = .ok (.invokevirtual 144, 3) := by decide +kernel
theorem dX6_commoner_104 : decode cX6_commoner 104 = .ok (.ireturn, 1) := by decide +kernel
theorem dX6_commoner_105 : decode cX6_commoner 105 = .ok (.bipush (-2), 2) := by decide +kernel
theorem dX6_commoner_107 : decode cX6_commoner 107 = .ok (.ireturn, 1) := by decide +kernel
theorem dX6_plot_0 : decode cX6_plot 0 = .ok (.aload_n 0, 1) := by decide +kernel
theorem dX6_plot_1 : decode cX6_plot 1 = .ok (.iconst 0, 1) := by decide +kernel
theorem dX6_plot_2 : decode cX6_plot 2 = .ok (.putfield 28, 3) := by decide +kernel
theorem dX6_plot_5 : decode cX6_plot 5 = .ok (.iload_n 1, 1) := by decide +kernel
theorem dX6_plot_6 : decode cX6_plot 6 = .ok (.invokestatic 70, 3) := by decide +kernel
theorem dX6_plot_9 : decode cX6_plot 9 = .ok (.ifCond .ne 5, 3) := by decide +kernel
theorem dX6_plot_12 : decode cX6_plot 12 = .ok (.iconst (-1), 1) := by decide +kernel
theorem dX6_plot_13 : decode cX6_plot 13 = .ok (.ireturn, 1) := by decide +kernel
theorem dX6_plot_14 : decode cX6_plot 14 = .ok (.iload_n 2, 1) := by decide +kernel
theorem dX6_plot_15 : decode cX6_plot 15 = .ok (.iconst 3, 1) := by decide +kernel
theorem dX6_plot_16 : decode cX6_plot 16 = .ok (.if_icmp .ne 24, 3) := by decide +kernel
theorem dX6_plot_19 : decode cX6_plot 19 = .ok (.aload_n 0, 1) := by decide +kernel
theorem dX6_plot_20 : decode cX6_plot 20 = .ok (.iload_n 1, 1) := by decide +kernel
theorem dX6_plot_21 : decode cX6_plot 21 = .ok (.iconst 1, 1) := by decide +kernel
theorem dX6_plot_22 : decode cX6_plot 22 = .ok (.invokevirtual 77, 3) := by decide +kernel
theorem dX6_plot_25 : decode cX6_plot 25 = .ok (.aload_n 0, 1) := by decide +kernel
theorem dX6_plot_26 : decode cX6_plot 26 = .ok (.iload_n 1, 1) := by decide +kernel
theorem dX6_plot_27 : decode cX6_plot 27 = .ok (.iconst 2, 1) := by decide +kernel
theorem dX6_plot_28 : decode cX6_plot 28 = .ok (.invokevirtual 77, 3) := by decide +kernel
theorem dX6_plot_31 : decode cX6_plot 31 = .ok (.if_icmp .ne 7, 3) := by decide +kernel
theorem dX6_plot_34 : decode cX6_plot 34 = .ok (.iconst 0, 1) := by decide +kernel
theorem dX6_plot_35 : decode cX6_plot 35 = .ok (.goto 4, 3) := by decide +kernel
theorem dX6_plot_38 : decode cX6_plot 38 = .ok (.iconst 1, 1) := by decide +kernel
theorem dX6_plot_39 : decode cX6_plot 39 = .ok (.ireturn, 1) := by decide +kernel
theorem dX6_plot_40 : decode cX6_plot 40 = .ok (.iload_n 2, 1) := by decide +kernel
theorem dX6_plot_41 : decode cX6_plot 41 = .ok (.iconst 0, 1) := by decide +kernel
theorem dX6_plot_42 : decode cX6_plot 42 = .ok (.iconst 2, 1) := by decide +kernel
theorem dX6_plot_43 : decode cX6_plot 43 = .ok (.invokestatic 32, 3) := by decide +kernel
theorem dX6_plot_46 : decode cX6_plot 46 = .ok (.ifCond .eq 12, 3) := by decide +kernel
theorem dX6_plot_49 : decode cX6_plot 49 = .ok (.aload_n 0, 1) := by decide +kernel
theorem dX6_plot_50 : decode cX6_plot 50 = .ok (.iload_n 1, 1) := by decide +kernel
theorem dX6_plot_51 : decode cX6_plot 51 = .ok (.iload_n 2, 1) := by decide +kernel
theorem dX6_plot_52 : decode cX6_plot 52 = .ok (.invokevirtual 77, 3) := by decide +kernel
theorem dX6_plot_55 : decode cX6_plot 55 = .ok (.goto 5, 3) := by decide +kernel
theorem dX6_plot_58 : decode cX6_plot 58 = .ok (.bipush (-2), 2) := by decide +kernel
theorem dX6_plot_60 : decode cX6_plot 60 = .ok (.ireturn, 1) := by decide +kernel
theorem dX6_row_0 : decode cX6_row 0 = .ok (.aload_n 0, 1) := by decide +kernel
theorem dX6_row_1 : decode cX6_row 1 = .ok (.iconst 0, 1) := by decide +kernel
theorem dX6_row_2 : decode cX6_row 2 = .ok (.putfield 28, 3) := by decide +kernel
theorem dX6_row_5 : decode cX6_row 5 = .ok (.aload_n 0, 1) := by decide +kernel
theorem dX6_row_6 : decode cX6_row 6 = .ok (.iload_n 1, 1) := by decide +kernel
theorem dX6_row_7 : decode cX6_row 7 = .ok (.invokevirtual 96, 3) := by decide +kernel
theorem dX6_row_10 : decode cX6_row 10 = .ok (.istore_n 3, 1) := by decide +kernel
theorem dX6_row_11 : decode cX6_row 11 = .ok (.iload_n 3, 1) := by decide +kernel
theorem dX6_row_12 : decode cX6_row 12 = .ok (.bipush (-5), 2) := by decide +kernel
theorem dX6_row_14 : decode cX6_row 14 = .ok (.if_icmp .ne 5, 3) := by decide +kernel
theorem dX6_row_17 : decode cX6_row 17 = .ok (.iconst (-1), 1) := by decide +kernel
theorem dX6_row_18 : decode cX6_row 18 = .ok (.ireturn, 1) := by decide +kernel
theorem dX6_row_19 : decode cX6_row 19 = .ok (.iload_n 2, 1) := by decide +kernel
theorem dX6_row_20 : decode cX6_row 20 = .ok (.lookupswitch 51 #[(5, 28), (6, 45)], 28) := by decide +kernel
theorem dX6_row_48 : decode cX6_row 48 = .ok (.aload_n 0, 1) := by decide +kernel
theorem dX6_row_49 : decode cX6_row 49 = .ok (.iload_n 3, 1) := by decide +kernel
theorem dX6_row_50 : decode cX6_row 50 = .ok (.iconst 3, 1) := by decide +kernel
theorem dX6_row_51 : decode cX6_row 51 = .ok (.invokevirtual 36, 3) := by decide +kernel
theorem dX6_row_54 : decode cX6_row 54 = .ok (.bipush 20, 2) := by decide +kernel
theorem dX6_row_56 : decode cX6_row 56 = .ok (.if_icmp .gt 7, 3) := by decide +kernel
theorem dX6_row_59 : decode cX6_row 59 = .ok (.iconst 1, 1) := by decide +kernel
theorem dX6_row_60 : decode cX6_row 60 = .ok (.goto 4, 3) := by decide +kernel
theorem dX6_row_63 : decode cX6_row 63 = .ok (.iconst 0, 1) := by decide +kernel
theorem dX6_row_64 : decode cX6_row 64 = .ok (.ireturn, 1) := by decide +kernel
theorem dX6_row_65 : decode cX6_row 65 = .ok (.aload_n 0, 1) := by decide +kernel
theorem dX6_row_66 : decode cX6_row 66 = .ok (.iload_n 3, 1) := by decide +kernel
theorem dX6_row_67 : decode cX6_row 67 = .ok (.invokevirtual 54, 3) := by decide +kernel
theorem dX6_row_70 : decode cX6_row 70 = .ok (.ireturn, 1) := by decide +kernel
theorem dX6_row_71 : decode cX6_row 71 = .ok (.iload_n 2, 1) := by decide +kernel
theorem dX6_row_72 : decode cX6_row 72 = .ok (.iconst 0, 1) := by decide +kernel
theorem dX6_row_73 : decode cX6_row 73 = .ok (.iconst 4, 1) := by decide +kernel
theorem dX6_row_74 : decode cX6_row 74 = .ok (.invokestatic 32, 3) := by decide +kernel
theorem dX6_row_77 : decode cX6_row 77 = .ok (.ifCond .eq 14, 3) := by decide +kernel
theorem dX6_row_80 : decode cX6_row 80 = .ok (.aload_n 0, 1) := by decide +kernel
theorem dX6_row_81 : decode cX6_row 81 = .ok (.iload_n 3, 1) := by decide +kernel
theorem dX6_row_82 : decode cX6_row 82 = .ok (.iconst 1, 1) := by decide +kernel
theorem dX6_row_83 : decode cX6_row 83 = .ok (.iload_n 2, 1) := by decide +kernel
theorem dX6_row_84 : decode cX6_row 84 = .ok (.iadd, 1) := by decide +kernel
theorem dX6_row_85 : decode cX6_row 85 = .ok (.invokevirtual 36, 3) := by decide +kernel
theorem dX6_row_88 : decode cX6_row 88 = .ok (.goto 5, 3) := by decide +kernel
theorem dX6_row_91 : decode cX6_row 91 = .ok (.bipush (-2), 2) := by decide +kernel
theorem dX6_row_93 : decode cX6_row 93 = .ok (.ireturn, 1) := by decide +kernel
theorem dX6_ahead_0 : decode cX6_ahead 0 = .ok (.iconst 0, 1) := by decide +kernel
theorem dX6_ahead_1 : decode cX6_ahead 1 = .ok (.istore_n 2, 1) := by decide +kernel
theorem dX6_ahead_2 : decode cX6_ahead 2 = .ok (.iconst 0, 1) := by decide +kernel
theorem dX6_ahead_3 : decode cX6_ahead 3 = .ok (.istore_n 3, 1) := by decide +kernel
theorem dX6_ahead_4 : decode cX6_ahead 4 = .ok (.iload_n 3, 1) := by decide +kernel
theorem dX6_ahead_5 : decode cX6_ahead 5 = .ok (.aload_n 0, 1) := by decide +kernel
theorem dX6_ahead_6 : decode cX6_ahead 6 = .ok (.getfield 7, 3) := by decide +kernel
theorem dX6_ahead_9 : decode cX6_ahead 9 = .ok (.iconst 4, 1) := by decide +kernel
theorem dX6_ahead_10 : decode cX6_ahead 10 = .ok (.iaload, 1) := by decide +kernel
theorem dX6_ahead_11 : decode cX6_ahead 11 = .ok (.if_icmp .ge 79, 3) := by decide +kernel
theorem dX6_ahead_14 : decode cX6_ahead 14 = .ok (.aload_n 0, 1) := by decide +kernel
theorem dX6_ahead_15 : decode cX6_ahead 15 = .ok (.iload_n 3, 1) := by decide +kernel
theorem dX6_ahead_16 : decode cX6_ahead 16 = .ok (.iconst 1, 1) := by decide +kernel
theorem dX6_ahead_17 : decode cX6_ahead 17 = .ok (.invokevirtual 36, 3) := by decide +kernel
theorem dX6_ahead_20 : decode cX6_ahead 20 = .ok (.aload_n 0, 1) := by decide +kernel
theorem dX6_ahead_21 : decode cX6_ahead 21 = .ok (.iload_n 1, 1) := by decide +kernel
theorem dX6_ahead_22 : decode cX6_ahead 22 = .ok (.iconst 1, 1) := by decide +kernel
theorem dX6_ahead_23 : decode cX6_ahead 23 = .ok (.invokevirtual 36, 3) := by decide +kernel
theorem dX6_ahead_26 : decode cX6_ahead 26 = .ok (.if_icmp .ne 7, 3) := by decide +kernel
theorem dX6_ahead_29 : decode cX6_ahead 29 = .ok (.iconst 1, 1) := by decide +kernel
theorem dX6_ahead_30 : decode cX6_ahead 30 = .ok (.goto 4, 3) := by decide +kernel
theorem dX6_ahead_33 : decode cX6_ahead 33 = .ok (.iconst 0, 1) := by decide +kernel
theorem dX6_ahead_34 : decode cX6_ahead 34 = .ok (.istore 4, 2) := by decide +kernel
theorem dX6_ahead_36 : decode cX6_ahead 36 = .ok (.iload_n 2, 1) := by decide +kernel
theorem dX6_ahead_37 : decode cX6_ahead 37 = .ok (.iload 4, 2) := by decide +kernel
theorem dX6_ahead_39 : decode cX6_ahead 39 = .ok (.ifCond .eq 42, 3) := by decide +kernel
theorem dX6_ahead_42 : decode cX6_ahead 42 = .ok (.aload_n 0, 1) := by decide +kernel
theorem dX6_ahead_43 : decode cX6_ahead 43 = .ok (.iload_n 3, 1) := by decide +kernel
theorem dX6_ahead_44 : decode cX6_ahead 44 = .ok (.iconst 3, 1) := by decide +kernel
theorem dX6_ahead_45 : decode cX6_ahead 45 = .ok (.invokevirtual 36, 3) := by decide +kernel
theorem dX6_ahead_48 : decode cX6_ahead 48 = .ok (.aload_n 0, 1) := by decide +kernel
theorem dX6_ahead_49 : decode cX6_ahead 49 = .ok (.iload_n 1, 1) := by decide +kernel
theorem dX6_ahead_50 : decode cX6_ahead 50 = .ok (.iconst 3, 1) := by decide +kernel
theorem dX6_ahead_51 : decode cX6_ahead 51 = .ok (.invokevirtual 36, 3) := by decide +kernel
theorem dX6_ahead_54 : decode cX6_ahead 54 = .ok (.if_icmp .lt 23, 3) := by decide +kernel
theorem dX6_ahead_57 : decode cX6_ahead 57 = .ok (.aload_n 0, 1) := by decide +kernel
theorem dX6_ahead_58 : decode cX6_ahead 58 = .ok (.iload_n 3, 1) := by decide +kernel
theorem dX6_ahead_59 : decode cX6_ahead 59 = .ok (.iconst 3, 1) := by decide +kernel
theorem dX6_ahead_60 : decode cX6_ahead 60 = .ok (.invokevirtual 36, 3) := by decide +kernel
theorem dX6_ahead_63 : decode cX6_ahead 63 = .ok (.aload_n 0, 1) := by decide +kernel
theorem dX6_ahead_64 : decode cX6_ahead 64 = .ok (.iload_n 1, 1) := by decide +kernel
theorem dX6_ahead_65 : decode cX6_ahead 65 = .ok (.iconst 3, 1) := by decide +kernel
theorem dX6_ahead_66 : decode cX6_ahead 66 = .ok (.invokevirtual 36, 3) := by decide +kernel
theorem dX6_ahead_69 : decode cX6_ahead 69 = .ok (.if_icmp .ne 12, 3) := by decide +kernel
theorem dX6_ahead_72 : decode cX6_ahead 72 = .ok (.iload_n 3, 1) := by decide +kernel
theorem dX6_ahead_73 : decode cX6_ahead 73 = .ok (.iload_n 1, 1) := by decide +kernel
theorem dX6_ahead_74 : decode cX6_ahead 74 = .ok (.if_icmp .ge 7, 3) := by decide +kernel
theorem dX6_ahead_77 : decode cX6_ahead 77 = .ok (.iconst 1, 1) := by decide +kernel
theorem dX6_ahead_78 : decode cX6_ahead 78 = .ok (.goto 4, 3) := by decide +kernel
theorem dX6_ahead_81 : decode cX6_ahead 81 = .ok (.iconst 0, 1) := by decide +kernel
theorem dX6_ahead_82 : decode cX6_ahead 82 = .ok (.iadd, 1) := by decide +kernel
theorem dX6_ahead_83 : decode cX6_ahead 83 = .ok (.istore_n 2, 1) := by decide +kernel
theorem dX6_ahead_84 : decode cX6_ahead 84 = .ok (.iinc 3 1, 3) := by decide +kernel
theorem dX6_ahead_87 : decode cX6_ahead 87 = .ok (.goto (-83), 3) := by decide +kernel
theorem dX6_ahead_90 : decode cX6_ahead 90 = .ok (.iload_n 2, 1) := by decide +kernel
theorem dX6_ahead_91 : decode cX6_ahead 91 = .ok (.ireturn, 1) := by decide +kernel
theorem dX6_driest_0 : decode cX6_driest 0 = .ok (.aload_n 0, 1) := by decide +kernel
theorem dX6_driest_1 : decode cX6_driest 1 = .ok (.iconst 0, 1) := by decide +kernel
theorem dX6_driest_2 : decode cX6_driest 2 = .ok (.putfield 28, 3) := by decide +kernel
theorem dX6_driest_5 : decode cX6_driest 5 = .ok (.iload_n 1, 1) := by decide +kernel
theorem dX6_driest_6 : decode cX6_driest 6 = .ok (.invokestatic 74, 3) := by decide +kernel
theorem dX6_driest_9 : decode cX6_driest 9 = .ok (.ifCond .ne 5, 3) := by decide +kernel
theorem dX6_driest_12 : decode cX6_driest 12 = .ok (.iconst (-1), 1) := by decide +kernel
theorem dX6_driest_13 : decode cX6_driest 13 = .ok (.ireturn, 1) := by decide +kernel
theorem dX6_driest_14 : decode cX6_driest 14 = .ok (.iload_n 2, 1) := by decide +kernel
theorem dX6_driest_15 : decode cX6_driest 15 = .ok (.ifCond .ge 6, 3) := by decide +kernel
theorem dX6_driest_18 : decode cX6_driest 18 = .ok (.bipush (-2), 2) := by decide +kernel
theorem dX6_driest_20 : decode cX6_driest 20 = .ok (.ireturn, 1) := by decide +kernel
theorem dX6_driest_21 : decode cX6_driest 21 = .ok (.iconst 0, 1) := by decide +kernel
theorem dX6_driest_22 : decode cX6_driest 22 = .ok (.istore_n 3, 1) := by decide +kernel
theorem dX6_driest_23 : decode cX6_driest 23 = .ok (.iload_n 3, 1) := by decide +kernel
theorem dX6_driest_24 : decode cX6_driest 24 = .ok (.aload_n 0, 1) := by decide +kernel
theorem dX6_driest_25 : decode cX6_driest 25 = .ok (.getfield 7, 3) := by decide +kernel
theorem dX6_driest_28 : decode cX6_driest 28 = .ok (.iconst 4, 1) := by decide +kernel
theorem dX6_driest_29 : decode cX6_driest 29 = .ok (.iaload, 1) := by decide +kernel
theorem dX6_driest_30 : decode cX6_driest 30 = .ok (.if_icmp .ge 35, 3) := by decide +kernel
theorem dX6_driest_33 : decode cX6_driest 33 = .ok (.aload_n 0, 1) := by decide +kernel
theorem dX6_driest_34 : decode cX6_driest 34 = .ok (.iload_n 3, 1) := by decide +kernel
theorem dX6_driest_35 : decode cX6_driest 35 = .ok (.iconst 1, 1) := by decide +kernel
theorem dX6_driest_36 : decode cX6_driest 36 = .ok (.invokevirtual 36, 3) := by decide +kernel
theorem dX6_driest_39 : decode cX6_driest 39 = .ok (.iload_n 1, 1) := by decide +kernel
theorem dX6_driest_40 : decode cX6_driest 40 = .ok (.if_icmp .ne 19, 3) := by decide +kernel
theorem dX6_driest_43 : decode cX6_driest 43 = .ok (.aload_n 0, 1) := by decide +kernel
theorem dX6_driest_44 : decode cX6_driest 44 = .ok (.iload_n 3, 1) := by decide +kernel
theorem dX6_driest_45 : decode cX6_driest 45 = .ok (.invokevirtual 147, 3) := by decide +kernel
theorem dX6_driest_48 : decode cX6_driest 48 = .ok (.iload_n 2, 1) := by decide +kernel
theorem dX6_driest_49 : decode cX6_driest 49 = .ok (.if_icmp .ne 10, 3) := by decide +kernel
theorem dX6_driest_52 : decode cX6_driest 52 = .ok (.aload_n 0, 1) := by decide +kernel
theorem dX6_driest_53 : decode cX6_driest 53 = .ok (.iload_n 3, 1) := by decide +kernel
theorem dX6_driest_54 : decode cX6_driest 54 = .ok (.iconst 0, 1) := by decide +kernel
theorem dX6_driest_55 : decode cX6_driest 55 = .ok (.invokevirtual 36, 3) := by decide +kernel
theorem dX6_driest_58 : decode cX6_driest 58 = .ok (.ireturn, 1) := by decide +kernel
theorem dX6_driest_59 : decode cX6_driest 59 = .ok (.iinc 3 1, 3) := by decide +kernel
theorem dX6_driest_62 : decode cX6_driest 62 = .ok (.goto (-39), 3) := by decide +kernel
theorem dX6_driest_65 : decode cX6_driest 65 = .ok (.bipush (-5), 2) := by decide +kernel
theorem dX6_driest_67 : decode cX6_driest 67 = .ok (.ireturn, 1) := by decide +kernel
theorem dX6_why_0 : decode cX6_why 0 = .ok (.aload_n 0, 1) := by decide +kernel
theorem dX6_why_1 : decode cX6_why 1 = .ok (.iconst 0, 1) := by decide +kernel
theorem dX6_why_2 : decode cX6_why 2 = .ok (.putfield 28, 3) := by decide +kernel
theorem dX6_why_5 : decode cX6_why 5 = .ok (.iload_n 1, 1) := by decide +kernel
theorem dX6_why_6 : decode cX6_why 6 = .ok (.invokestatic 74, 3) := by decide +kernel
theorem dX6_why_9 : decode cX6_why 9 = .ok (.ifCond .eq 19, 3) := by decide +kernel
theorem dX6_why_12 : decode cX6_why 12 = .ok (.iload_n 2, 1) := by decide +kernel
theorem dX6_why_13 : decode cX6_why 13 = .ok (.invokestatic 70, 3) := by decide +kernel
theorem dX6_why_16 : decode cX6_why 16 = .ok (.ifCond .eq 12, 3) := by decide +kernel
theorem dX6_why_19 : decode cX6_why 19 = .ok (.aload_n 0, 1) := by decide +kernel
theorem dX6_why_20 : decode cX6_why 20 = .ok (.iload_n 1, 1) := by decide +kernel
theorem dX6_why_21 : decode cX6_why 21 = .ok (.iload_n 2, 1) := by decide +kernel
theorem dX6_why_22 : decode cX6_why 22 = .ok (.invokevirtual 90, 3) := by decide +kernel
theorem dX6_why_25 : decode cX6_why 25 = .ok (.goto 4, 3) := by decide +kernel
theorem dX6_why_28 : decode cX6_why 28 = .ok (.iconst (-1), 1) := by decide +kernel
theorem dX6_why_29 : decode cX6_why 29 = .ok (.ireturn, 1) := by decide +kernel
theorem dX6_dispute_0 : decode cX6_dispute 0 = .ok (.aload_n 0, 1) := by decide +kernel
theorem dX6_dispute_1 : decode cX6_dispute 1 = .ok (.iconst 0, 1) := by decide +kernel
theorem dX6_dispute_2 : decode cX6_dispute 2 = .ok (.putfield 28, 3) := by decide +kernel
theorem dX6_dispute_5 : decode cX6_dispute 5 = .ok (.iload_n 1, 1) := by decide +kernel
theorem dX6_dispute_6 : decode cX6_dispute 6 = .ok (.ifCond .lt 12, 3) := by decide +kernel
theorem dX6_dispute_9 : decode cX6_dispute 9 = .ok (.iload_n 2, 1) := by decide +kernel
theorem dX6_dispute_10 : decode cX6_dispute 10 = .ok (.iconst 0, 1) := by decide +kernel
theorem dX6_dispute_11 : decode cX6_dispute 11 = .ok (.iconst 3, 1) := by decide +kernel
theorem dX6_dispute_12 : decode cX6_dispute 12 = .ok (.invokestatic 32, 3) := by decide +kernel
theorem dX6_dispute_15 : decode cX6_dispute 15 = .ok (.ifCond .ne 6, 3) := by decide +kernel
theorem dX6_dispute_18 : decode cX6_dispute 18 = .ok (.bipush (-2), 2) := by decide +kernel
theorem dX6_dispute_20 : decode cX6_dispute 20 = .ok (.ireturn, 1) := by decide +kernel
theorem dX6_dispute_21 : decode cX6_dispute 21 = .ok (.iload_n 1, 1) := by decide +kernel
theorem dX6_dispute_22 : decode cX6_dispute 22 = .ok (.aload_n 0, 1) := by decide +kernel
theorem dX6_dispute_23 : decode cX6_dispute 23 = .ok (.getfield 7, 3) := by decide +kernel
theorem dX6_dispute_26 : decode cX6_dispute 26 = .ok (.bipush 7, 2) := by decide +kernel
theorem dX6_dispute_28 : decode cX6_dispute 28 = .ok (.iaload, 1) := by decide +kernel
theorem dX6_dispute_29 : decode cX6_dispute 29 = .ok (.if_icmp .ge 12, 3) := by decide +kernel
theorem dX6_dispute_32 : decode cX6_dispute 32 = .ok (.aload_n 0, 1) := by decide +kernel
theorem dX6_dispute_33 : decode cX6_dispute 33 = .ok (.iload_n 1, 1) := by decide +kernel
theorem dX6_dispute_34 : decode cX6_dispute 34 = .ok (.iload_n 2, 1) := by decide +kernel
theorem dX6_dispute_35 : decode cX6_dispute 35 = .ok (.invokevirtual 113, 3) := by decide +kernel
theorem dX6_dispute_38 : decode cX6_dispute 38 = .ok (.goto 5, 3) := by decide +kernel
theorem dX6_dispute_41 : decode cX6_dispute 41 = .ok (.bipush (-5), 2) := by decide +kernel
theorem dX6_dispute_43 : decode cX6_dispute 43 = .ok (.ireturn, 1) := by decide +kernel
theorem dX6_cart_0 : decode cX6_cart 0 = .ok (.aload_n 0, 1) := by decide +kernel
theorem dX6_cart_1 : decode cX6_cart 1 = .ok (.iconst 0, 1) := by decide +kernel
theorem dX6_cart_2 : decode cX6_cart 2 = .ok (.putfield 28, 3) := by decide +kernel
theorem dX6_cart_5 : decode cX6_cart 5 = .ok (.iload_n 1, 1) := by decide +kernel
theorem dX6_cart_6 : decode cX6_cart 6 = .ok (.iconst 0, 1) := by decide +kernel
theorem dX6_cart_7 : decode cX6_cart 7 = .ok (.iconst 1, 1) := by decide +kernel
theorem dX6_cart_8 : decode cX6_cart 8 = .ok (.invokestatic 32, 3) := by decide +kernel
theorem dX6_cart_11 : decode cX6_cart 11 = .ok (.ifCond .eq 15, 3) := by decide +kernel
theorem dX6_cart_14 : decode cX6_cart 14 = .ok (.aload_n 0, 1) := by decide +kernel
theorem dX6_cart_15 : decode cX6_cart 15 = .ok (.getfield 7, 3) := by decide +kernel
theorem dX6_cart_18 : decode cX6_cart 18 = .ok (.bipush 9, 2) := by decide +kernel
theorem dX6_cart_20 : decode cX6_cart 20 = .ok (.iload_n 1, 1) := by decide +kernel
theorem dX6_cart_21 : decode cX6_cart 21 = .ok (.iadd, 1) := by decide +kernel
theorem dX6_cart_22 : decode cX6_cart 22 = .ok (.iaload, 1) := by decide +kernel
theorem dX6_cart_23 : decode cX6_cart 23 = .ok (.goto 4, 3) := by decide +kernel
theorem dX6_cart_26 : decode cX6_cart 26 = .ok (.iconst (-1), 1) := by decide +kernel
theorem dX6_cart_27 : decode cX6_cart 27 = .ok (.ireturn, 1) := by decide +kernel
theorem dX6_would_0 : decode cX6_would 0 = .ok (.aload_n 0, 1) := by decide +kernel
theorem dX6_would_1 : decode cX6_would 1 = .ok (.iconst 0, 1) := by decide +kernel
theorem dX6_would_2 : decode cX6_would 2 = .ok (.putfield 28, 3) := by decide +kernel
theorem dX6_would_5 : decode cX6_would 5 = .ok (.iload_n 1, 1) := by decide +kernel
theorem dX6_would_6 : decode cX6_would 6 = .ok (.iconst 1, 1) := by decide +kernel
theorem dX6_would_7 : decode cX6_would 7 = .ok (.bipush 60, 2) := by decide +kernel
theorem dX6_would_9 : decode cX6_would 9 = .ok (.invokestatic 32, 3) := by decide +kernel
theorem dX6_would_12 : decode cX6_would 12 = .ok (.ifCond .eq 12, 3) := by decide +kernel
theorem dX6_would_15 : decode cX6_would 15 = .ok (.iload_n 2, 1) := by decide +kernel
theorem dX6_would_16 : decode cX6_would 16 = .ok (.iconst 0, 1) := by decide +kernel
theorem dX6_would_17 : decode cX6_would 17 = .ok (.iconst 2, 1) := by decide +kernel
theorem dX6_would_18 : decode cX6_would 18 = .ok (.invokestatic 32, 3) := by decide +kernel
theorem dX6_would_21 : decode cX6_would 21 = .ok (.ifCond .ne 6, 3) := by decide +kernel
theorem dX6_would_24 : decode cX6_would 24 = .ok (.bipush (-2), 2) := by decide +kernel
theorem dX6_would_26 : decode cX6_would 26 = .ok (.ireturn, 1) := by decide +kernel
theorem dX6_would_27 : decode cX6_would 27 = .ok (.iconst 0, 1) := by decide +kernel
theorem dX6_would_28 : decode cX6_would 28 = .ok (.istore_n 3, 1) := by decide +kernel
theorem dX6_would_29 : decode cX6_would 29 = .ok (.iload_n 3, 1) := by decide +kernel
theorem dX6_would_30 : decode cX6_would 30 = .ok (.sipush 941, 3) := by decide +kernel
theorem dX6_would_33 : decode cX6_would 33 = .ok (.if_icmp .ge 21, 3) := by decide +kernel
theorem dX6_would_36 : decode cX6_would 36 = .ok (.aload_n 0, 1) := by decide +kernel
theorem dX6_would_37 : decode cX6_would 37 = .ok (.getfield 13, 3) := by decide +kernel
theorem dX6_would_40 : decode cX6_would 40 = .ok (.iload_n 3, 1) := by decide +kernel
theorem dX6_would_41 : decode cX6_would 41 = .ok (.aload_n 0, 1) := by decide +kernel
theorem dX6_would_42 : decode cX6_would 42 = .ok (.getfield 7, 3) := by decide +kernel
theorem dX6_would_45 : decode cX6_would 45 = .ok (.iload_n 3, 1) := by decide +kernel
theorem dX6_would_46 : decode cX6_would 46 = .ok (.iaload, 1) := by decide +kernel
theorem dX6_would_47 : decode cX6_would 47 = .ok (.iastore, 1) := by decide +kernel
theorem dX6_would_48 : decode cX6_would 48 = .ok (.iinc 3 1, 3) := by decide +kernel
theorem dX6_would_51 : decode cX6_would 51 = .ok (.goto (-22), 3) := by decide +kernel
theorem dX6_would_54 : decode cX6_would 54 = .ok (.iconst 0, 1) := by decide +kernel
theorem dX6_would_55 : decode cX6_would 55 = .ok (.istore_n 3, 1) := by decide +kernel
theorem dX6_would_56 : decode cX6_would 56 = .ok (.iconst 0, 1) := by decide +kernel
theorem dX6_would_57 : decode cX6_would 57 = .ok (.istore 4, 2) := by decide +kernel
theorem dX6_would_59 : decode cX6_would 59 = .ok (.iload 4, 2) := by decide +kernel
theorem dX6_would_61 : decode cX6_would 61 = .ok (.iload_n 1, 1) := by decide +kernel
theorem dX6_would_62 : decode cX6_would 62 = .ok (.if_icmp .ge 17, 3) := by decide +kernel
theorem dX6_would_65 : decode cX6_would 65 = .ok (.iload_n 3, 1) := by decide +kernel
theorem dX6_would_66 : decode cX6_would 66 = .ok (.aload_n 0, 1) := by decide +kernel
theorem dX6_would_67 : decode cX6_would 67 = .ok (.iload_n 2, 1) := by decide +kernel
theorem dX6_would_68 : decode cX6_would 68 = .ok (.invokevirtual 103, 3) := by decide +kernel
theorem dX6_would_71 : decode cX6_would 71 = .ok (.iadd, 1) := by decide +kernel
theorem dX6_would_72 : decode cX6_would 72 = .ok (.istore_n 3, 1) := by decide +kernel
theorem dX6_would_73 : decode cX6_would 73 = .ok (.iinc 4 1, 3) := by decide +kernel
theorem dX6_would_76 : decode cX6_would 76 = .ok (.goto (-17), 3) := by decide +kernel
theorem dX6_would_79 : decode cX6_would 79 = .ok (.iconst 0, 1) := by decide +kernel
theorem dX6_would_80 : decode cX6_would 80 = .ok (.istore 4, 2) := by decide +kernel
theorem dX6_would_82 : decode cX6_would 82 = .ok (.iload 4, 2) := by decide +kernel
theorem dX6_would_84 : decode cX6_would 84 = .ok (.sipush 941, 3) := by decide +kernel
theorem dX6_would_87 : decode cX6_would 87 = .ok (.if_icmp .ge 23, 3) := by decide +kernel
theorem dX6_would_90 : decode cX6_would 90 = .ok (.aload_n 0, 1) := by decide +kernel
theorem dX6_would_91 : decode cX6_would 91 = .ok (.getfield 7, 3) := by decide +kernel
theorem dX6_would_94 : decode cX6_would 94 = .ok (.iload 4, 2) := by decide +kernel
theorem dX6_would_96 : decode cX6_would 96 = .ok (.aload_n 0, 1) := by decide +kernel
theorem dX6_would_97 : decode cX6_would 97 = .ok (.getfield 13, 3) := by decide +kernel
theorem dX6_would_100 : decode cX6_would 100 = .ok (.iload 4, 2) := by decide +kernel
theorem dX6_would_102 : decode cX6_would 102 = .ok (.iaload, 1) := by decide +kernel
theorem dX6_would_103 : decode cX6_would 103 = .ok (.iastore, 1) := by decide +kernel
theorem dX6_would_104 : decode cX6_would 104 = .ok (.iinc 4 1, 3) := by decide +kernel
theorem dX6_would_107 : decode cX6_would 107 = .ok (.goto (-25), 3) := by decide +kernel
theorem dX6_would_110 : decode cX6_would 110 = .ok (.iload_n 3, 1) := by decide +kernel
theorem dX6_would_111 : decode cX6_would 111 = .ok (.ireturn, 1) := by decide +kernel
theorem dX6_rowsThat_0 : decode cX6_rowsThat 0 = .ok (.iconst 0, 1) := by decide +kernel
theorem dX6_rowsThat_1 : decode cX6_rowsThat 1 = .ok (.istore_n 2, 1) := by decide +kernel
theorem dX6_rowsThat_2 : decode cX6_rowsThat 2 = .ok (.iconst 0, 1) := by decide +kernel
theorem dX6_rowsThat_3 : decode cX6_rowsThat 3 = .ok (.istore_n 3, 1) := by decide +kernel
theorem dX6_rowsThat_4 : decode cX6_rowsThat 4 = .ok (.iload_n 3, 1) := by decide +kernel
theorem dX6_rowsThat_5 : decode cX6_rowsThat 5 = .ok (.aload_n 0, 1) := by decide +kernel
theorem dX6_rowsThat_6 : decode cX6_rowsThat 6 = .ok (.getfield 7, 3) := by decide +kernel
theorem dX6_rowsThat_9 : decode cX6_rowsThat 9 = .ok (.iconst 4, 1) := by decide +kernel
theorem dX6_rowsThat_10 : decode cX6_rowsThat 10 = .ok (.iaload, 1) := by decide +kernel
theorem dX6_rowsThat_11 : decode cX6_rowsThat 11 = .ok (.if_icmp .ge 42, 3) := by decide +kernel
theorem dX6_rowsThat_14 : decode cX6_rowsThat 14 = .ok (.iload_n 2, 1) := by decide +kernel
theorem dX6_rowsThat_15 : decode cX6_rowsThat 15 = .ok (.iload_n 1, 1) := by decide +kernel
theorem dX6_rowsThat_16 : decode cX6_rowsThat 16 = .ok (.iconst 4, 1) := by decide +kernel
theorem dX6_rowsThat_17 : decode cX6_rowsThat 17 = .ok (.if_icmp .ne 12, 3) := by decide +kernel
theorem dX6_rowsThat_20 : decode cX6_rowsThat 20 = .ok (.aload_n 0, 1) := by decide +kernel
theorem dX6_rowsThat_21 : decode cX6_rowsThat 21 = .ok (.iload_n 3, 1) := by decide +kernel
theorem dX6_rowsThat_22 : decode cX6_rowsThat 22 = .ok (.iconst 5, 1) := by decide +kernel
theorem dX6_rowsThat_23 : decode cX6_rowsThat 23 = .ok (.invokevirtual 36, 3) := by decide +kernel
theorem dX6_rowsThat_26 : decode cX6_rowsThat 26 = .ok (.goto 19, 3) := by decide +kernel
theorem dX6_rowsThat_29 : decode cX6_rowsThat 29 = .ok (.aload_n 0, 1) := by decide +kernel
theorem dX6_rowsThat_30 : decode cX6_rowsThat 30 = .ok (.iload_n 3, 1) := by decide +kernel
theorem dX6_rowsThat_31 : decode cX6_rowsThat 31 = .ok (.iconst 3, 1) := by decide +kernel
theorem dX6_rowsThat_32 : decode cX6_rowsThat 32 = .ok (.invokevirtual 36, 3) := by decide +kernel
theorem dX6_rowsThat_35 : decode cX6_rowsThat 35 = .ok (.bipush 20, 2) := by decide +kernel
theorem dX6_rowsThat_37 : decode cX6_rowsThat 37 = .ok (.if_icmp .gt 7, 3) := by decide +kernel
theorem dX6_rowsThat_40 : decode cX6_rowsThat 40 = .ok (.iconst 1, 1) := by decide +kernel
theorem dX6_rowsThat_41 : decode cX6_rowsThat 41 = .ok (.goto 4, 3) := by decide +kernel
theorem dX6_rowsThat_44 : decode cX6_rowsThat 44 = .ok (.iconst 0, 1) := by decide +kernel
theorem dX6_rowsThat_45 : decode cX6_rowsThat 45 = .ok (.iadd, 1) := by decide +kernel
theorem dX6_rowsThat_46 : decode cX6_rowsThat 46 = .ok (.istore_n 2, 1) := by decide +kernel
theorem dX6_rowsThat_47 : decode cX6_rowsThat 47 = .ok (.iinc 3 1, 3) := by decide +kernel
theorem dX6_rowsThat_50 : decode cX6_rowsThat 50 = .ok (.goto (-46), 3) := by decide +kernel
theorem dX6_rowsThat_53 : decode cX6_rowsThat 53 = .ok (.iload_n 2, 1) := by decide +kernel
theorem dX6_rowsThat_54 : decode cX6_rowsThat 54 = .ok (.ireturn, 1) := by decide +kernel
theorem dX6_allPeats_0 : decode cX6_allPeats 0 = .ok (.iconst 0, 1) := by decide +kernel
theorem dX6_allPeats_1 : decode cX6_allPeats 1 = .ok (.istore_n 1, 1) := by decide +kernel
theorem dX6_allPeats_2 : decode cX6_allPeats 2 = .ok (.iconst 0, 1) := by decide +kernel
theorem dX6_allPeats_3 : decode cX6_allPeats 3 = .ok (.istore_n 2, 1) := by decide +kernel
theorem dX6_allPeats_4 : decode cX6_allPeats 4 = .ok (.iload_n 2, 1) := by decide +kernel
theorem dX6_allPeats_5 : decode cX6_allPeats 5 = .ok (.bipush 10, 2) := by decide +kernel
theorem dX6_allPeats_7 : decode cX6_allPeats 7 = .ok (.if_icmp .ge 18, 3) := by decide +kernel
theorem dX6_allPeats_10 : decode cX6_allPeats 10 = .ok (.iload_n 1, 1) := by decide +kernel
theorem dX6_allPeats_11 : decode cX6_allPeats 11 = .ok (.aload_n 0, 1) := by decide +kernel
theorem dX6_allPeats_12 : decode cX6_allPeats 12 = .ok (.iload_n 2, 1) := by decide +kernel
theorem dX6_allPeats_13 : decode cX6_allPeats 13 = .ok (.iconst 2, 1) := by decide +kernel
theorem dX6_allPeats_14 : decode cX6_allPeats 14 = .ok (.invokevirtual 83, 3) := by decide +kernel
theorem dX6_allPeats_17 : decode cX6_allPeats 17 = .ok (.iadd, 1) := by decide +kernel
theorem dX6_allPeats_18 : decode cX6_allPeats 18 = .ok (.istore_n 1, 1) := by decide +kernel
theorem dX6_allPeats_19 : decode cX6_allPeats 19 = .ok (.iinc 2 1, 3) := by decide +kernel
theorem dX6_allPeats_22 : decode cX6_allPeats 22 = .ok (.goto (-18), 3) := by decide +kernel
theorem dX6_allPeats_25 : decode cX6_allPeats 25 = .ok (.iload_n 1, 1) := by decide +kernel
theorem dX6_allPeats_26 : decode cX6_allPeats 26 = .ok (.ireturn, 1) := by decide +kernel
theorem dX6_allLayers_0 : decode cX6_allLayers 0 = .ok (.iconst 0, 1) := by decide +kernel
theorem dX6_allLayers_1 : decode cX6_allLayers 1 = .ok (.istore_n 1, 1) := by decide +kernel
theorem dX6_allLayers_2 : decode cX6_allLayers 2 = .ok (.iconst 0, 1) := by decide +kernel
theorem dX6_allLayers_3 : decode cX6_allLayers 3 = .ok (.istore_n 2, 1) := by decide +kernel
theorem dX6_allLayers_4 : decode cX6_allLayers 4 = .ok (.iload_n 2, 1) := by decide +kernel
theorem dX6_allLayers_5 : decode cX6_allLayers 5 = .ok (.bipush 20, 2) := by decide +kernel
theorem dX6_allLayers_7 : decode cX6_allLayers 7 = .ok (.if_icmp .ge 18, 3) := by decide +kernel
theorem dX6_allLayers_10 : decode cX6_allLayers 10 = .ok (.iload_n 1, 1) := by decide +kernel
theorem dX6_allLayers_11 : decode cX6_allLayers 11 = .ok (.aload_n 0, 1) := by decide +kernel
theorem dX6_allLayers_12 : decode cX6_allLayers 12 = .ok (.iload_n 2, 1) := by decide +kernel
theorem dX6_allLayers_13 : decode cX6_allLayers 13 = .ok (.iconst 0, 1) := by decide +kernel
theorem dX6_allLayers_14 : decode cX6_allLayers 14 = .ok (.invokevirtual 77, 3) := by decide +kernel
theorem dX6_allLayers_17 : decode cX6_allLayers 17 = .ok (.iadd, 1) := by decide +kernel
theorem dX6_allLayers_18 : decode cX6_allLayers 18 = .ok (.istore_n 1, 1) := by decide +kernel
theorem dX6_allLayers_19 : decode cX6_allLayers 19 = .ok (.iinc 2 1, 3) := by decide +kernel
theorem dX6_allLayers_22 : decode cX6_allLayers 22 = .ok (.goto (-18), 3) := by decide +kernel
theorem dX6_allLayers_25 : decode cX6_allLayers 25 = .ok (.iload_n 1, 1) := by decide +kernel
theorem dX6_allLayers_26 : decode cX6_allLayers 26 = .ok (.ireturn, 1) := by decide +kernel
theorem dX6_count_0 : decode cX6_count 0 = .ok (.aload_n 0, 1) := by decide +kernel
theorem dX6_count_1 : decode cX6_count 1 = .ok (.iconst 0, 1) := by decide +kernel
theorem dX6_count_2 : decode cX6_count 2 = .ok (.putfield 28, 3) := by decide +kernel
theorem dX6_count_5 : decode cX6_count 5 = .ok (.iload_n 1, 1) := by decide +kernel
theorem dX6_count_6 : decode cX6_count 6 = .ok (.tableswitch 140 0 14 #[74, 74, 74, 74, 83, 83, 89, 97, 102, 107, 107, 120, 120, 130, 135], 74) := by decide +kernel
theorem dX6_count_80 : decode cX6_count 80 = .ok (.aload_n 0, 1) := by decide +kernel
theorem dX6_count_81 : decode cX6_count 81 = .ok (.getfield 7, 3) := by decide +kernel
theorem dX6_count_84 : decode cX6_count 84 = .ok (.iconst 2, 1) := by decide +kernel
theorem dX6_count_85 : decode cX6_count 85 = .ok (.iload_n 1, 1) := by decide +kernel
theorem dX6_count_86 : decode cX6_count 86 = .ok (.iadd, 1) := by decide +kernel
theorem dX6_count_87 : decode cX6_count 87 = .ok (.iaload, 1) := by decide +kernel
theorem dX6_count_88 : decode cX6_count 88 = .ok (.ireturn, 1) := by decide +kernel
theorem dX6_count_89 : decode cX6_count 89 = .ok (.aload_n 0, 1) := by decide +kernel
theorem dX6_count_90 : decode cX6_count 90 = .ok (.iload_n 1, 1) := by decide +kernel
theorem dX6_count_91 : decode cX6_count 91 = .ok (.invokevirtual 150, 3) := by decide +kernel
theorem dX6_count_94 : decode cX6_count 94 = .ok (.ireturn, 1) := by decide +kernel
theorem dX6_count_95 : decode cX6_count 95 = .ok (.aload_n 0, 1) := by decide +kernel
theorem dX6_count_96 : decode cX6_count 96 = .ok (.getfield 7, 3) := by decide +kernel
theorem dX6_count_99 : decode cX6_count 99 = .ok (.bipush 6, 2) := by decide +kernel
theorem dX6_count_101 : decode cX6_count 101 = .ok (.iaload, 1) := by decide +kernel
theorem dX6_count_102 : decode cX6_count 102 = .ok (.ireturn, 1) := by decide +kernel
theorem dX6_count_103 : decode cX6_count 103 = .ok (.aload_n 0, 1) := by decide +kernel
theorem dX6_count_104 : decode cX6_count 104 = .ok (.invokevirtual 153, 3) := by decide +kernel
theorem dX6_count_107 : decode cX6_count 107 = .ok (.ireturn, 1) := by decide +kernel
theorem dX6_count_108 : decode cX6_count 108 = .ok (.aload_n 0, 1) := by decide +kernel
theorem dX6_count_109 : decode cX6_count 109 = .ok (.invokevirtual 156, 3) := by decide +kernel
theorem dX6_count_112 : decode cX6_count 112 = .ok (.ireturn, 1) := by decide +kernel
theorem dX6_count_113 : decode cX6_count 113 = .ok (.aload_n 0, 1) := by decide +kernel
theorem dX6_count_114 : decode cX6_count 114 = .ok (.getfield 7, 3) := by decide +kernel
theorem dX6_count_117 : decode cX6_count 117 = .ok (.bipush 7, 2) := by decide +kernel
theorem dX6_count_119 : decode cX6_count 119 = .ok (.iload_n 1, 1) := by decide +kernel
theorem dX6_count_120 : decode cX6_count 120 = .ok (.iadd, 1) := by decide +kernel
theorem dX6_count_121 : decode cX6_count 121 = .ok (.bipush 9, 2) := by decide +kernel
theorem dX6_count_123 : decode cX6_count 123 = .ok (.isub, 1) := by decide +kernel
theorem dX6_count_124 : decode cX6_count 124 = .ok (.iaload, 1) := by decide +kernel
theorem dX6_count_125 : decode cX6_count 125 = .ok (.ireturn, 1) := by decide +kernel
theorem dX6_count_126 : decode cX6_count 126 = .ok (.aload_n 0, 1) := by decide +kernel
theorem dX6_count_127 : decode cX6_count 127 = .ok (.getfield 7, 3) := by decide +kernel
theorem dX6_count_130 : decode cX6_count 130 = .ok (.iload_n 1, 1) := by decide +kernel
theorem dX6_count_131 : decode cX6_count 131 = .ok (.bipush 11, 2) := by decide +kernel
theorem dX6_count_133 : decode cX6_count 133 = .ok (.isub, 1) := by decide +kernel
theorem dX6_count_134 : decode cX6_count 134 = .ok (.iaload, 1) := by decide +kernel
theorem dX6_count_135 : decode cX6_count 135 = .ok (.ireturn, 1) := by decide +kernel
theorem dX6_count_136 : decode cX6_count 136 = .ok (.aload_n 0, 1) := by decide +kernel
theorem dX6_count_137 : decode cX6_count 137 = .ok (.getfield 40, 3) := by decide +kernel
theorem dX6_count_140 : decode cX6_count 140 = .ok (.ireturn, 1) := by decide +kernel
theorem dX6_count_141 : decode cX6_count 141 = .ok (.aload_n 0, 1) := by decide +kernel
theorem dX6_count_142 : decode cX6_count 142 = .ok (.getfield 119, 3) := by decide +kernel
theorem dX6_count_145 : decode cX6_count 145 = .ok (.ireturn, 1) := by decide +kernel
theorem dX6_count_146 : decode cX6_count 146 = .ok (.bipush (-2), 2) := by decide +kernel
theorem dX6_count_148 : decode cX6_count 148 = .ok (.ireturn, 1) := by decide +kernel
end
section
theorem dL_law_0 : decode cL_law 0 = .ok (.new 7, 3) := by decide +kernel
theorem dL_law_3 : decode cL_law 3 = .ok (.dup, 1) := by decide +kernel
theorem dL_law_4 : decode cL_law 4 = .ok (.invokespecial 9, 3) := by decide +kernel
theorem dL_law_7 : decode cL_law 7 = .ok (.astore_n 1, 1) := by decide +kernel
theorem dL_law_8 : decode cL_law 8 = .ok (.new 10, 3) := by decide +kernel
theorem dL_law_11 : decode cL_law 11 = .ok (.dup, 1) := by decide +kernel
theorem dL_law_12 : decode cL_law 12 = .ok (.invokespecial 12, 3) := by decide +kernel
theorem dL_law_15 : decode cL_law 15 = .ok (.astore_n 2, 1) := by decide +kernel
theorem dL_law_16 : decode cL_law 16 = .ok (.iconst 0, 1) := by decide +kernel
theorem dL_law_17 : decode cL_law 17 = .ok (.istore_n 3, 1) := by decide +kernel
theorem dL_law_18 : decode cL_law 18 = .ok (.iload_n 3, 1) := by decide +kernel
theorem dL_law_19 : decode cL_law 19 = .ok (.aload_n 0, 1) := by decide +kernel
theorem dL_law_20 : decode cL_law 20 = .ok (.arraylength, 1) := by decide +kernel
theorem dL_law_21 : decode cL_law 21 = .ok (.iconst 3, 1) := by decide +kernel
theorem dL_law_22 : decode cL_law 22 = .ok (.isub, 1) := by decide +kernel
theorem dL_law_23 : decode cL_law 23 = .ok (.if_icmp .gt 758, 3) := by decide +kernel
theorem dL_law_26 : decode cL_law 26 = .ok (.aload_n 0, 1) := by decide +kernel
theorem dL_law_27 : decode cL_law 27 = .ok (.iload_n 3, 1) := by decide +kernel
theorem dL_law_28 : decode cL_law 28 = .ok (.iaload, 1) := by decide +kernel
theorem dL_law_29 : decode cL_law 29 = .ok (.bipush 31, 2) := by decide +kernel
theorem dL_law_31 : decode cL_law 31 = .ok (.iand, 1) := by decide +kernel
theorem dL_law_32 : decode cL_law 32 = .ok (.tableswitch 743 0 24 #[116, 149, 182, 215, 248, 281, 304, 327, 350, 363, 376, 389, 414, 427, 440, 453, 466, 499, 532, 565, 598, 631, 664, 687, 720], 116) := by decide +kernel
theorem dL_law_148 : decode cL_law 148 = .ok (.aload_n 1, 1) := by decide +kernel
theorem dL_law_149 : decode cL_law 149 = .ok (.aload_n 0, 1) := by decide +kernel
theorem dL_law_150 : decode cL_law 150 = .ok (.iload_n 3, 1) := by decide +kernel
theorem dL_law_151 : decode cL_law 151 = .ok (.iconst 1, 1) := by decide +kernel
theorem dL_law_152 : decode cL_law 152 = .ok (.iadd, 1) := by decide +kernel
theorem dL_law_153 : decode cL_law 153 = .ok (.iaload, 1) := by decide +kernel
theorem dL_law_154 : decode cL_law 154 = .ok (.aload_n 0, 1) := by decide +kernel
theorem dL_law_155 : decode cL_law 155 = .ok (.iload_n 3, 1) := by decide +kernel
theorem dL_law_156 : decode cL_law 156 = .ok (.iconst 2, 1) := by decide +kernel
theorem dL_law_157 : decode cL_law 157 = .ok (.iadd, 1) := by decide +kernel
theorem dL_law_158 : decode cL_law 158 = .ok (.iaload, 1) := by decide +kernel
theorem dL_law_159 : decode cL_law 159 = .ok (.invokevirtual 13, 3) := by decide +kernel
theorem dL_law_162 : decode cL_law 162 = .ok (.aload_n 2, 1) := by decide +kernel
theorem dL_law_163 : decode cL_law 163 = .ok (.aload_n 0, 1) := by decide +kernel
theorem dL_law_164 : decode cL_law 164 = .ok (.iload_n 3, 1) := by decide +kernel
theorem dL_law_165 : decode cL_law 165 = .ok (.iconst 1, 1) := by decide +kernel
theorem dL_law_166 : decode cL_law 166 = .ok (.iadd, 1) := by decide +kernel
theorem dL_law_167 : decode cL_law 167 = .ok (.iaload, 1) := by decide +kernel
theorem dL_law_168 : decode cL_law 168 = .ok (.aload_n 0, 1) := by decide +kernel
theorem dL_law_169 : decode cL_law 169 = .ok (.iload_n 3, 1) := by decide +kernel
theorem dL_law_170 : decode cL_law 170 = .ok (.iconst 2, 1) := by decide +kernel
theorem dL_law_171 : decode cL_law 171 = .ok (.iadd, 1) := by decide +kernel
theorem dL_law_172 : decode cL_law 172 = .ok (.iaload, 1) := by decide +kernel
theorem dL_law_173 : decode cL_law 173 = .ok (.invokevirtual 17, 3) := by decide +kernel
theorem dL_law_176 : decode cL_law 176 = .ok (.if_icmp .eq 599, 3) := by decide +kernel
theorem dL_law_179 : decode cL_law 179 = .ok (.iconst 0, 1) := by decide +kernel
theorem dL_law_180 : decode cL_law 180 = .ok (.ireturn, 1) := by decide +kernel
theorem dL_law_181 : decode cL_law 181 = .ok (.aload_n 1, 1) := by decide +kernel
theorem dL_law_182 : decode cL_law 182 = .ok (.aload_n 0, 1) := by decide +kernel
theorem dL_law_183 : decode cL_law 183 = .ok (.iload_n 3, 1) := by decide +kernel
theorem dL_law_184 : decode cL_law 184 = .ok (.iconst 1, 1) := by decide +kernel
theorem dL_law_185 : decode cL_law 185 = .ok (.iadd, 1) := by decide +kernel
theorem dL_law_186 : decode cL_law 186 = .ok (.iaload, 1) := by decide +kernel
theorem dL_law_187 : decode cL_law 187 = .ok (.aload_n 0, 1) := by decide +kernel
theorem dL_law_188 : decode cL_law 188 = .ok (.iload_n 3, 1) := by decide +kernel
theorem dL_law_189 : decode cL_law 189 = .ok (.iconst 2, 1) := by decide +kernel
theorem dL_law_190 : decode cL_law 190 = .ok (.iadd, 1) := by decide +kernel
theorem dL_law_191 : decode cL_law 191 = .ok (.iaload, 1) := by decide +kernel
theorem dL_law_192 : decode cL_law 192 = .ok (.invokevirtual 18, 3) := by decide +kernel
theorem dL_law_195 : decode cL_law 195 = .ok (.aload_n 2, 1) := by decide +kernel
theorem dL_law_196 : decode cL_law 196 = .ok (.aload_n 0, 1) := by decide +kernel
theorem dL_law_197 : decode cL_law 197 = .ok (.iload_n 3, 1) := by decide +kernel
theorem dL_law_198 : decode cL_law 198 = .ok (.iconst 1, 1) := by decide +kernel
theorem dL_law_199 : decode cL_law 199 = .ok (.iadd, 1) := by decide +kernel
theorem dL_law_200 : decode cL_law 200 = .ok (.iaload, 1) := by decide +kernel
theorem dL_law_201 : decode cL_law 201 = .ok (.aload_n 0, 1) := by decide +kernel
theorem dL_law_202 : decode cL_law 202 = .ok (.iload_n 3, 1) := by decide +kernel
theorem dL_law_203 : decode cL_law 203 = .ok (.iconst 2, 1) := by decide +kernel
theorem dL_law_204 : decode cL_law 204 = .ok (.iadd, 1) := by decide +kernel
theorem dL_law_205 : decode cL_law 205 = .ok (.iaload, 1) := by decide +kernel
theorem dL_law_206 : decode cL_law 206 = .ok (.invokevirtual 21, 3) := by decide +kernel
theorem dL_law_209 : decode cL_law 209 = .ok (.if_icmp .eq 566, 3) := by decide +kernel
theorem dL_law_212 : decode cL_law 212 = .ok (.iconst 0, 1) := by decide +kernel
theorem dL_law_213 : decode cL_law 213 = .ok (.ireturn, 1) := by decide +kernel
theorem dL_law_214 : decode cL_law 214 = .ok (.aload_n 1, 1) := by decide +kernel
theorem dL_law_215 : decode cL_law 215 = .ok (.aload_n 0, 1) := by decide +kernel
theorem dL_law_216 : decode cL_law 216 = .ok (.iload_n 3, 1) := by decide +kernel
theorem dL_law_217 : decode cL_law 217 = .ok (.iconst 1, 1) := by decide +kernel
theorem dL_law_218 : decode cL_law 218 = .ok (.iadd, 1) := by decide +kernel
theorem dL_law_219 : decode cL_law 219 = .ok (.iaload, 1) := by decide +kernel
theorem dL_law_220 : decode cL_law 220 = .ok (.aload_n 0, 1) := by decide +kernel
theorem dL_law_221 : decode cL_law 221 = .ok (.iload_n 3, 1) := by decide +kernel
theorem dL_law_222 : decode cL_law 222 = .ok (.iconst 2, 1) := by decide +kernel
theorem dL_law_223 : decode cL_law 223 = .ok (.iadd, 1) := by decide +kernel
theorem dL_law_224 : decode cL_law 224 = .ok (.iaload, 1) := by decide +kernel
theorem dL_law_225 : decode cL_law 225 = .ok (.invokevirtual 22, 3) := by decide +kernel
theorem dL_law_228 : decode cL_law 228 = .ok (.aload_n 2, 1) := by decide +kernel
theorem dL_law_229 : decode cL_law 229 = .ok (.aload_n 0, 1) := by decide +kernel
theorem dL_law_230 : decode cL_law 230 = .ok (.iload_n 3, 1) := by decide +kernel
theorem dL_law_231 : decode cL_law 231 = .ok (.iconst 1, 1) := by decide +kernel
theorem dL_law_232 : decode cL_law 232 = .ok (.iadd, 1) := by decide +kernel
theorem dL_law_233 : decode cL_law 233 = .ok (.iaload, 1) := by decide +kernel
theorem dL_law_234 : decode cL_law 234 = .ok (.aload_n 0, 1) := by decide +kernel
theorem dL_law_235 : decode cL_law 235 = .ok (.iload_n 3, 1) := by decide +kernel
theorem dL_law_236 : decode cL_law 236 = .ok (.iconst 2, 1) := by decide +kernel
theorem dL_law_237 : decode cL_law 237 = .ok (.iadd, 1) := by decide +kernel
theorem dL_law_238 : decode cL_law 238 = .ok (.iaload, 1) := by decide +kernel
theorem dL_law_239 : decode cL_law 239 = .ok (.invokevirtual 25, 3) := by decide +kernel
theorem dL_law_242 : decode cL_law 242 = .ok (.if_icmp .eq 533, 3) := by decide +kernel
theorem dL_law_245 : decode cL_law 245 = .ok (.iconst 0, 1) := by decide +kernel
theorem dL_law_246 : decode cL_law 246 = .ok (.ireturn, 1) := by decide +kernel
theorem dL_law_247 : decode cL_law 247 = .ok (.aload_n 1, 1) := by decide +kernel
theorem dL_law_248 : decode cL_law 248 = .ok (.aload_n 0, 1) := by decide +kernel
theorem dL_law_249 : decode cL_law 249 = .ok (.iload_n 3, 1) := by decide +kernel
theorem dL_law_250 : decode cL_law 250 = .ok (.iconst 1, 1) := by decide +kernel
theorem dL_law_251 : decode cL_law 251 = .ok (.iadd, 1) := by decide +kernel
theorem dL_law_252 : decode cL_law 252 = .ok (.iaload, 1) := by decide +kernel
theorem dL_law_253 : decode cL_law 253 = .ok (.aload_n 0, 1) := by decide +kernel
theorem dL_law_254 : decode cL_law 254 = .ok (.iload_n 3, 1) := by decide +kernel
theorem dL_law_255 : decode cL_law 255 = .ok (.iconst 2, 1) := by decide +kernel
theorem dL_law_256 : decode cL_law 256 = .ok (.iadd, 1) := by decide +kernel
theorem dL_law_257 : decode cL_law 257 = .ok (.iaload, 1) := by decide +kernel
theorem dL_law_258 : decode cL_law 258 = .ok (.invokevirtual 26, 3) := by decide +kernel
theorem dL_law_261 : decode cL_law 261 = .ok (.aload_n 2, 1) := by decide +kernel
theorem dL_law_262 : decode cL_law 262 = .ok (.aload_n 0, 1) := by decide +kernel
theorem dL_law_263 : decode cL_law 263 = .ok (.iload_n 3, 1) := by decide +kernel
theorem dL_law_264 : decode cL_law 264 = .ok (.iconst 1, 1) := by decide +kernel
theorem dL_law_265 : decode cL_law 265 = .ok (.iadd, 1) := by decide +kernel
theorem dL_law_266 : decode cL_law 266 = .ok (.iaload, 1) := by decide +kernel
theorem dL_law_267 : decode cL_law 267 = .ok (.aload_n 0, 1) := by decide +kernel
theorem dL_law_268 : decode cL_law 268 = .ok (.iload_n 3, 1) := by decide +kernel
theorem dL_law_269 : decode cL_law 269 = .ok (.iconst 2, 1) := by decide +kernel
theorem dL_law_270 : decode cL_law 270 = .ok (.iadd, 1) := by decide +kernel
theorem dL_law_271 : decode cL_law 271 = .ok (.iaload, 1) := by decide +kernel
theorem dL_law_272 : decode cL_law 272 = .ok (.invokevirtual 29, 3) := by decide +kernel
theorem dL_law_275 : decode cL_law 275 = .ok (.if_icmp .eq 500, 3) := by decide +kernel
theorem dL_law_278 : decode cL_law 278 = .ok (.iconst 0, 1) := by decide +kernel
theorem dL_law_279 : decode cL_law 279 = .ok (.ireturn, 1) := by decide +kernel
theorem dL_law_280 : decode cL_law 280 = .ok (.aload_n 1, 1) := by decide +kernel
theorem dL_law_281 : decode cL_law 281 = .ok (.aload_n 0, 1) := by decide +kernel
theorem dL_law_282 : decode cL_law 282 = .ok (.iload_n 3, 1) := by decide +kernel
theorem dL_law_283 : decode cL_law 283 = .ok (.iconst 1, 1) := by decide +kernel
theorem dL_law_284 : decode cL_law 284 = .ok (.iadd, 1) := by decide +kernel
theorem dL_law_285 : decode cL_law 285 = .ok (.iaload, 1) := by decide +kernel
theorem dL_law_286 : decode cL_law 286 = .ok (.aload_n 0, 1) := by decide +kernel
theorem dL_law_287 : decode cL_law 287 = .ok (.iload_n 3, 1) := by decide +kernel
theorem dL_law_288 : decode cL_law 288 = .ok (.iconst 2, 1) := by decide +kernel
theorem dL_law_289 : decode cL_law 289 = .ok (.iadd, 1) := by decide +kernel
theorem dL_law_290 : decode cL_law 290 = .ok (.iaload, 1) := by decide +kernel
theorem dL_law_291 : decode cL_law 291 = .ok (.invokevirtual 30, 3) := by decide +kernel
theorem dL_law_294 : decode cL_law 294 = .ok (.aload_n 2, 1) := by decide +kernel
theorem dL_law_295 : decode cL_law 295 = .ok (.aload_n 0, 1) := by decide +kernel
theorem dL_law_296 : decode cL_law 296 = .ok (.iload_n 3, 1) := by decide +kernel
theorem dL_law_297 : decode cL_law 297 = .ok (.iconst 1, 1) := by decide +kernel
theorem dL_law_298 : decode cL_law 298 = .ok (.iadd, 1) := by decide +kernel
theorem dL_law_299 : decode cL_law 299 = .ok (.iaload, 1) := by decide +kernel
theorem dL_law_300 : decode cL_law 300 = .ok (.aload_n 0, 1) := by decide +kernel
theorem dL_law_301 : decode cL_law 301 = .ok (.iload_n 3, 1) := by decide +kernel
theorem dL_law_302 : decode cL_law 302 = .ok (.iconst 2, 1) := by decide +kernel
theorem dL_law_303 : decode cL_law 303 = .ok (.iadd, 1) := by decide +kernel
theorem dL_law_304 : decode cL_law 304 = .ok (.iaload, 1) := by decide +kernel
theorem dL_law_305 : decode cL_law 305 = .ok (.invokevirtual 33, 3) := by decide +kernel
theorem dL_law_308 : decode cL_law 308 = .ok (.if_icmp .eq 467, 3) := by decide +kernel
theorem dL_law_311 : decode cL_law 311 = .ok (.iconst 0, 1) := by decide +kernel
theorem dL_law_312 : decode cL_law 312 = .ok (.ireturn, 1) := by decide +kernel
theorem dL_law_313 : decode cL_law 313 = .ok (.aload_n 1, 1) := by decide +kernel
theorem dL_law_314 : decode cL_law 314 = .ok (.aload_n 0, 1) := by decide +kernel
theorem dL_law_315 : decode cL_law 315 = .ok (.iload_n 3, 1) := by decide +kernel
theorem dL_law_316 : decode cL_law 316 = .ok (.iconst 1, 1) := by decide +kernel
theorem dL_law_317 : decode cL_law 317 = .ok (.iadd, 1) := by decide +kernel
theorem dL_law_318 : decode cL_law 318 = .ok (.iaload, 1) := by decide +kernel
theorem dL_law_319 : decode cL_law 319 = .ok (.invokevirtual 34, 3) := by decide +kernel
theorem dL_law_322 : decode cL_law 322 = .ok (.aload_n 2, 1) := by decide +kernel
theorem dL_law_323 : decode cL_law 323 = .ok (.aload_n 0, 1) := by decide +kernel
theorem dL_law_324 : decode cL_law 324 = .ok (.iload_n 3, 1) := by decide +kernel
theorem dL_law_325 : decode cL_law 325 = .ok (.iconst 1, 1) := by decide +kernel
theorem dL_law_326 : decode cL_law 326 = .ok (.iadd, 1) := by decide +kernel
theorem dL_law_327 : decode cL_law 327 = .ok (.iaload, 1) := by decide +kernel
theorem dL_law_328 : decode cL_law 328 = .ok (.invokevirtual 38, 3) := by decide +kernel
theorem dL_law_331 : decode cL_law 331 = .ok (.if_icmp .eq 444, 3) := by decide +kernel
theorem dL_law_334 : decode cL_law 334 = .ok (.iconst 0, 1) := by decide +kernel
theorem dL_law_335 : decode cL_law 335 = .ok (.ireturn, 1) := by decide +kernel
theorem dL_law_336 : decode cL_law 336 = .ok (.aload_n 1, 1) := by decide +kernel
theorem dL_law_337 : decode cL_law 337 = .ok (.aload_n 0, 1) := by decide +kernel
theorem dL_law_338 : decode cL_law 338 = .ok (.iload_n 3, 1) := by decide +kernel
theorem dL_law_339 : decode cL_law 339 = .ok (.iconst 1, 1) := by decide +kernel
theorem dL_law_340 : decode cL_law 340 = .ok (.iadd, 1) := by decide +kernel
theorem dL_law_341 : decode cL_law 341 = .ok (.iaload, 1) := by decide +kernel
theorem dL_law_342 : decode cL_law 342 = .ok (.invokevirtual 39, 3) := by decide +kernel
theorem dL_law_345 : decode cL_law 345 = .ok (.aload_n 2, 1) := by decide +kernel
theorem dL_law_346 : decode cL_law 346 = .ok (.aload_n 0, 1) := by decide +kernel
theorem dL_law_347 : decode cL_law 347 = .ok (.iload_n 3, 1) := by decide +kernel
theorem dL_law_348 : decode cL_law 348 = .ok (.iconst 1, 1) := by decide +kernel
theorem dL_law_349 : decode cL_law 349 = .ok (.iadd, 1) := by decide +kernel
theorem dL_law_350 : decode cL_law 350 = .ok (.iaload, 1) := by decide +kernel
theorem dL_law_351 : decode cL_law 351 = .ok (.invokevirtual 42, 3) := by decide +kernel
theorem dL_law_354 : decode cL_law 354 = .ok (.if_icmp .eq 421, 3) := by decide +kernel
theorem dL_law_357 : decode cL_law 357 = .ok (.iconst 0, 1) := by decide +kernel
theorem dL_law_358 : decode cL_law 358 = .ok (.ireturn, 1) := by decide +kernel
theorem dL_law_359 : decode cL_law 359 = .ok (.aload_n 1, 1) := by decide +kernel
theorem dL_law_360 : decode cL_law 360 = .ok (.aload_n 0, 1) := by decide +kernel
theorem dL_law_361 : decode cL_law 361 = .ok (.iload_n 3, 1) := by decide +kernel
theorem dL_law_362 : decode cL_law 362 = .ok (.iconst 1, 1) := by decide +kernel
theorem dL_law_363 : decode cL_law 363 = .ok (.iadd, 1) := by decide +kernel
theorem dL_law_364 : decode cL_law 364 = .ok (.iaload, 1) := by decide +kernel
theorem dL_law_365 : decode cL_law 365 = .ok (.invokevirtual 43, 3) := by decide +kernel
theorem dL_law_368 : decode cL_law 368 = .ok (.aload_n 2, 1) := by decide +kernel
theorem dL_law_369 : decode cL_law 369 = .ok (.aload_n 0, 1) := by decide +kernel
theorem dL_law_370 : decode cL_law 370 = .ok (.iload_n 3, 1) := by decide +kernel
theorem dL_law_371 : decode cL_law 371 = .ok (.iconst 1, 1) := by decide +kernel
theorem dL_law_372 : decode cL_law 372 = .ok (.iadd, 1) := by decide +kernel
theorem dL_law_373 : decode cL_law 373 = .ok (.iaload, 1) := by decide +kernel
theorem dL_law_374 : decode cL_law 374 = .ok (.invokevirtual 46, 3) := by decide +kernel
theorem dL_law_377 : decode cL_law 377 = .ok (.if_icmp .eq 398, 3) := by decide +kernel
theorem dL_law_380 : decode cL_law 380 = .ok (.iconst 0, 1) := by decide +kernel
theorem dL_law_381 : decode cL_law 381 = .ok (.ireturn, 1) := by decide +kernel
theorem dL_law_382 : decode cL_law 382 = .ok (.aload_n 1, 1) := by decide +kernel
theorem dL_law_383 : decode cL_law 383 = .ok (.invokevirtual 47, 3) := by decide +kernel
theorem dL_law_386 : decode cL_law 386 = .ok (.aload_n 2, 1) := by decide +kernel
theorem dL_law_387 : decode cL_law 387 = .ok (.invokevirtual 51, 3) := by decide +kernel
theorem dL_law_390 : decode cL_law 390 = .ok (.if_icmp .eq 385, 3) := by decide +kernel
theorem dL_law_393 : decode cL_law 393 = .ok (.iconst 0, 1) := by decide +kernel
theorem dL_law_394 : decode cL_law 394 = .ok (.ireturn, 1) := by decide +kernel
theorem dL_law_395 : decode cL_law 395 = .ok (.aload_n 1, 1) := by decide +kernel
theorem dL_law_396 : decode cL_law 396 = .ok (.invokevirtual 52, 3) := by decide +kernel
theorem dL_law_399 : decode cL_law 399 = .ok (.aload_n 2, 1) := by decide +kernel
theorem dL_law_400 : decode cL_law 400 = .ok (.invokevirtual 55, 3) := by decide +kernel
theorem dL_law_403 : decode cL_law 403 = .ok (.if_icmp .eq 372, 3) := by decide +kernel
theorem dL_law_406 : decode cL_law 406 = .ok (.iconst 0, 1) := by decide +kernel
theorem dL_law_407 : decode cL_law 407 = .ok (.ireturn, 1) := by decide +kernel
theorem dL_law_408 : decode cL_law 408 = .ok (.aload_n 1, 1) := by decide +kernel
theorem dL_law_409 : decode cL_law 409 = .ok (.invokevirtual 56, 3) := by decide +kernel
theorem dL_law_412 : decode cL_law 412 = .ok (.aload_n 2, 1) := by decide +kernel
theorem dL_law_413 : decode cL_law 413 = .ok (.invokevirtual 59, 3) := by decide +kernel
theorem dL_law_416 : decode cL_law 416 = .ok (.if_icmp .eq 359, 3) := by decide +kernel
theorem dL_law_419 : decode cL_law 419 = .ok (.iconst 0, 1) := by decide +kernel
theorem dL_law_420 : decode cL_law 420 = .ok (.ireturn, 1) := by decide +kernel
theorem dL_law_421 : decode cL_law 421 = .ok (.aload_n 1, 1) := by decide +kernel
theorem dL_law_422 : decode cL_law 422 = .ok (.aload_n 0, 1) := by decide +kernel
theorem dL_law_423 : decode cL_law 423 = .ok (.iload_n 3, 1) := by decide +kernel
theorem dL_law_424 : decode cL_law 424 = .ok (.iconst 1, 1) := by decide +kernel
theorem dL_law_425 : decode cL_law 425 = .ok (.iadd, 1) := by decide +kernel
theorem dL_law_426 : decode cL_law 426 = .ok (.iaload, 1) := by decide +kernel
theorem dL_law_427 : decode cL_law 427 = .ok (.i2c, 1) := by decide +kernel
theorem dL_law_428 : decode cL_law 428 = .ok (.invokevirtual 60, 3) := by decide +kernel
theorem dL_law_431 : decode cL_law 431 = .ok (.aload_n 2, 1) := by decide +kernel
theorem dL_law_432 : decode cL_law 432 = .ok (.aload_n 0, 1) := by decide +kernel
theorem dL_law_433 : decode cL_law 433 = .ok (.iload_n 3, 1) := by decide +kernel
theorem dL_law_434 : decode cL_law 434 = .ok (.iconst 1, 1) := by decide +kernel
theorem dL_law_435 : decode cL_law 435 = .ok (.iadd, 1) := by decide +kernel
theorem dL_law_436 : decode cL_law 436 = .ok (.iaload, 1) := by decide +kernel
theorem dL_law_437 : decode cL_law 437 = .ok (.i2c, 1) := by decide +kernel
theorem dL_law_438 : decode cL_law 438 = .ok (.invokevirtual 64, 3) := by decide +kernel
theorem dL_law_441 : decode cL_law 441 = .ok (.if_icmp .eq 334, 3) := by decide +kernel
theorem dL_law_444 : decode cL_law 444 = .ok (.iconst 0, 1) := by decide +kernel
theorem dL_law_445 : decode cL_law 445 = .ok (.ireturn, 1) := by decide +kernel
theorem dL_law_446 : decode cL_law 446 = .ok (.aload_n 1, 1) := by decide +kernel
theorem dL_law_447 : decode cL_law 447 = .ok (.invokevirtual 65, 3) := by decide +kernel
theorem dL_law_450 : decode cL_law 450 = .ok (.aload_n 2, 1) := by decide +kernel
theorem dL_law_451 : decode cL_law 451 = .ok (.invokevirtual 68, 3) := by decide +kernel
theorem dL_law_454 : decode cL_law 454 = .ok (.if_icmp .eq 321, 3) := by decide +kernel
theorem dL_law_457 : decode cL_law 457 = .ok (.iconst 0, 1) := by decide +kernel
theorem dL_law_458 : decode cL_law 458 = .ok (.ireturn, 1) := by decide +kernel
theorem dL_law_459 : decode cL_law 459 = .ok (.aload_n 1, 1) := by decide +kernel
theorem dL_law_460 : decode cL_law 460 = .ok (.invokevirtual 69, 3) := by decide +kernel
theorem dL_law_463 : decode cL_law 463 = .ok (.aload_n 2, 1) := by decide +kernel
theorem dL_law_464 : decode cL_law 464 = .ok (.invokevirtual 72, 3) := by decide +kernel
theorem dL_law_467 : decode cL_law 467 = .ok (.if_icmp .eq 308, 3) := by decide +kernel
theorem dL_law_470 : decode cL_law 470 = .ok (.iconst 0, 1) := by decide +kernel
theorem dL_law_471 : decode cL_law 471 = .ok (.ireturn, 1) := by decide +kernel
theorem dL_law_472 : decode cL_law 472 = .ok (.aload_n 1, 1) := by decide +kernel
theorem dL_law_473 : decode cL_law 473 = .ok (.invokevirtual 73, 3) := by decide +kernel
theorem dL_law_476 : decode cL_law 476 = .ok (.aload_n 2, 1) := by decide +kernel
theorem dL_law_477 : decode cL_law 477 = .ok (.invokevirtual 76, 3) := by decide +kernel
theorem dL_law_480 : decode cL_law 480 = .ok (.if_icmp .eq 295, 3) := by decide +kernel
theorem dL_law_483 : decode cL_law 483 = .ok (.iconst 0, 1) := by decide +kernel
theorem dL_law_484 : decode cL_law 484 = .ok (.ireturn, 1) := by decide +kernel
theorem dL_law_485 : decode cL_law 485 = .ok (.aload_n 1, 1) := by decide +kernel
theorem dL_law_486 : decode cL_law 486 = .ok (.invokevirtual 77, 3) := by decide +kernel
theorem dL_law_489 : decode cL_law 489 = .ok (.aload_n 2, 1) := by decide +kernel
theorem dL_law_490 : decode cL_law 490 = .ok (.invokevirtual 80, 3) := by decide +kernel
theorem dL_law_493 : decode cL_law 493 = .ok (.if_icmp .eq 282, 3) := by decide +kernel
theorem dL_law_496 : decode cL_law 496 = .ok (.iconst 0, 1) := by decide +kernel
theorem dL_law_497 : decode cL_law 497 = .ok (.ireturn, 1) := by decide +kernel
theorem dL_law_498 : decode cL_law 498 = .ok (.aload_n 1, 1) := by decide +kernel
theorem dL_law_499 : decode cL_law 499 = .ok (.aload_n 0, 1) := by decide +kernel
theorem dL_law_500 : decode cL_law 500 = .ok (.iload_n 3, 1) := by decide +kernel
theorem dL_law_501 : decode cL_law 501 = .ok (.iconst 1, 1) := by decide +kernel
theorem dL_law_502 : decode cL_law 502 = .ok (.iadd, 1) := by decide +kernel
theorem dL_law_503 : decode cL_law 503 = .ok (.iaload, 1) := by decide +kernel
theorem dL_law_504 : decode cL_law 504 = .ok (.aload_n 0, 1) := by decide +kernel
theorem dL_law_505 : decode cL_law 505 = .ok (.iload_n 3, 1) := by decide +kernel
theorem dL_law_506 : decode cL_law 506 = .ok (.iconst 2, 1) := by decide +kernel
theorem dL_law_507 : decode cL_law 507 = .ok (.iadd, 1) := by decide +kernel
theorem dL_law_508 : decode cL_law 508 = .ok (.iaload, 1) := by decide +kernel
theorem dL_law_509 : decode cL_law 509 = .ok (.invokevirtual 81, 3) := by decide +kernel
theorem dL_law_512 : decode cL_law 512 = .ok (.aload_n 2, 1) := by decide +kernel
theorem dL_law_513 : decode cL_law 513 = .ok (.aload_n 0, 1) := by decide +kernel
theorem dL_law_514 : decode cL_law 514 = .ok (.iload_n 3, 1) := by decide +kernel
theorem dL_law_515 : decode cL_law 515 = .ok (.iconst 1, 1) := by decide +kernel
theorem dL_law_516 : decode cL_law 516 = .ok (.iadd, 1) := by decide +kernel
theorem dL_law_517 : decode cL_law 517 = .ok (.iaload, 1) := by decide +kernel
theorem dL_law_518 : decode cL_law 518 = .ok (.aload_n 0, 1) := by decide +kernel
theorem dL_law_519 : decode cL_law 519 = .ok (.iload_n 3, 1) := by decide +kernel
theorem dL_law_520 : decode cL_law 520 = .ok (.iconst 2, 1) := by decide +kernel
theorem dL_law_521 : decode cL_law 521 = .ok (.iadd, 1) := by decide +kernel
theorem dL_law_522 : decode cL_law 522 = .ok (.iaload, 1) := by decide +kernel
theorem dL_law_523 : decode cL_law 523 = .ok (.invokevirtual 84, 3) := by decide +kernel
theorem dL_law_526 : decode cL_law 526 = .ok (.if_icmp .eq 249, 3) := by decide +kernel
theorem dL_law_529 : decode cL_law 529 = .ok (.iconst 0, 1) := by decide +kernel
theorem dL_law_530 : decode cL_law 530 = .ok (.ireturn, 1) := by decide +kernel
theorem dL_law_531 : decode cL_law 531 = .ok (.aload_n 1, 1) := by decide +kernel
theorem dL_law_532 : decode cL_law 532 = .ok (.aload_n 0, 1) := by decide +kernel
theorem dL_law_533 : decode cL_law 533 = .ok (.iload_n 3, 1) := by decide +kernel
theorem dL_law_534 : decode cL_law 534 = .ok (.iconst 1, 1) := by decide +kernel
theorem dL_law_535 : decode cL_law 535 = .ok (.iadd, 1) := by decide +kernel
theorem dL_law_536 : decode cL_law 536 = .ok (.iaload, 1) := by decide +kernel
theorem dL_law_537 : decode cL_law 537 = .ok (.aload_n 0, 1) := by decide +kernel
theorem dL_law_538 : decode cL_law 538 = .ok (.iload_n 3, 1) := by decide +kernel
theorem dL_law_539 : decode cL_law 539 = .ok (.iconst 2, 1) := by decide +kernel
theorem dL_law_540 : decode cL_law 540 = .ok (.iadd, 1) := by decide +kernel
theorem dL_law_541 : decode cL_law 541 = .ok (.iaload, 1) := by decide +kernel
theorem dL_law_542 : decode cL_law 542 = .ok (.invokevirtual 85, 3) := by decide +kernel
theorem dL_law_545 : decode cL_law 545 = .ok (.aload_n 2, 1) := by decide +kernel
theorem dL_law_546 : decode cL_law 546 = .ok (.aload_n 0, 1) := by decide +kernel
theorem dL_law_547 : decode cL_law 547 = .ok (.iload_n 3, 1) := by decide +kernel
theorem dL_law_548 : decode cL_law 548 = .ok (.iconst 1, 1) := by decide +kernel
theorem dL_law_549 : decode cL_law 549 = .ok (.iadd, 1) := by decide +kernel
theorem dL_law_550 : decode cL_law 550 = .ok (.iaload, 1) := by decide +kernel
theorem dL_law_551 : decode cL_law 551 = .ok (.aload_n 0, 1) := by decide +kernel
theorem dL_law_552 : decode cL_law 552 = .ok (.iload_n 3, 1) := by decide +kernel
theorem dL_law_553 : decode cL_law 553 = .ok (.iconst 2, 1) := by decide +kernel
theorem dL_law_554 : decode cL_law 554 = .ok (.iadd, 1) := by decide +kernel
theorem dL_law_555 : decode cL_law 555 = .ok (.iaload, 1) := by decide +kernel
theorem dL_law_556 : decode cL_law 556 = .ok (.invokevirtual 88, 3) := by decide +kernel
theorem dL_law_559 : decode cL_law 559 = .ok (.if_icmp .eq 216, 3) := by decide +kernel
theorem dL_law_562 : decode cL_law 562 = .ok (.iconst 0, 1) := by decide +kernel
theorem dL_law_563 : decode cL_law 563 = .ok (.ireturn, 1) := by decide +kernel
theorem dL_law_564 : decode cL_law 564 = .ok (.aload_n 1, 1) := by decide +kernel
theorem dL_law_565 : decode cL_law 565 = .ok (.aload_n 0, 1) := by decide +kernel
theorem dL_law_566 : decode cL_law 566 = .ok (.iload_n 3, 1) := by decide +kernel
theorem dL_law_567 : decode cL_law 567 = .ok (.iconst 1, 1) := by decide +kernel
theorem dL_law_568 : decode cL_law 568 = .ok (.iadd, 1) := by decide +kernel
theorem dL_law_569 : decode cL_law 569 = .ok (.iaload, 1) := by decide +kernel
theorem dL_law_570 : decode cL_law 570 = .ok (.aload_n 0, 1) := by decide +kernel
theorem dL_law_571 : decode cL_law 571 = .ok (.iload_n 3, 1) := by decide +kernel
theorem dL_law_572 : decode cL_law 572 = .ok (.iconst 2, 1) := by decide +kernel
theorem dL_law_573 : decode cL_law 573 = .ok (.iadd, 1) := by decide +kernel
theorem dL_law_574 : decode cL_law 574 = .ok (.iaload, 1) := by decide +kernel
theorem dL_law_575 : decode cL_law 575 = .ok (.invokevirtual 89, 3) := by decide +kernel
theorem dL_law_578 : decode cL_law 578 = .ok (.aload_n 2, 1) := by decide +kernel
theorem dL_law_579 : decode cL_law 579 = .ok (.aload_n 0, 1) := by decide +kernel
theorem dL_law_580 : decode cL_law 580 = .ok (.iload_n 3, 1) := by decide +kernel
theorem dL_law_581 : decode cL_law 581 = .ok (.iconst 1, 1) := by decide +kernel
theorem dL_law_582 : decode cL_law 582 = .ok (.iadd, 1) := by decide +kernel
theorem dL_law_583 : decode cL_law 583 = .ok (.iaload, 1) := by decide +kernel
theorem dL_law_584 : decode cL_law 584 = .ok (.aload_n 0, 1) := by decide +kernel
theorem dL_law_585 : decode cL_law 585 = .ok (.iload_n 3, 1) := by decide +kernel
theorem dL_law_586 : decode cL_law 586 = .ok (.iconst 2, 1) := by decide +kernel
theorem dL_law_587 : decode cL_law 587 = .ok (.iadd, 1) := by decide +kernel
theorem dL_law_588 : decode cL_law 588 = .ok (.iaload, 1) := by decide +kernel
theorem dL_law_589 : decode cL_law 589 = .ok (.invokevirtual 92, 3) := by decide +kernel
theorem dL_law_592 : decode cL_law 592 = .ok (.if_icmp .eq 183, 3) := by decide +kernel
theorem dL_law_595 : decode cL_law 595 = .ok (.iconst 0, 1) := by decide +kernel
theorem dL_law_596 : decode cL_law 596 = .ok (.ireturn, 1) := by decide +kernel
theorem dL_law_597 : decode cL_law 597 = .ok (.aload_n 1, 1) := by decide +kernel
theorem dL_law_598 : decode cL_law 598 = .ok (.aload_n 0, 1) := by decide +kernel
theorem dL_law_599 : decode cL_law 599 = .ok (.iload_n 3, 1) := by decide +kernel
theorem dL_law_600 : decode cL_law 600 = .ok (.iconst 1, 1) := by decide +kernel
theorem dL_law_601 : decode cL_law 601 = .ok (.iadd, 1) := by decide +kernel
theorem dL_law_602 : decode cL_law 602 = .ok (.iaload, 1) := by decide +kernel
theorem dL_law_603 : decode cL_law 603 = .ok (.aload_n 0, 1) := by decide +kernel
theorem dL_law_604 : decode cL_law 604 = .ok (.iload_n 3, 1) := by decide +kernel
theorem dL_law_605 : decode cL_law 605 = .ok (.iconst 2, 1) := by decide +kernel
theorem dL_law_606 : decode cL_law 606 = .ok (.iadd, 1) := by decide +kernel
theorem dL_law_607 : decode cL_law 607 = .ok (.iaload, 1) := by decide +kernel
theorem dL_law_608 : decode cL_law 608 = .ok (.invokevirtual 93, 3) := by decide +kernel
theorem dL_law_611 : decode cL_law 611 = .ok (.aload_n 2, 1) := by decide +kernel
theorem dL_law_612 : decode cL_law 612 = .ok (.aload_n 0, 1) := by decide +kernel
theorem dL_law_613 : decode cL_law 613 = .ok (.iload_n 3, 1) := by decide +kernel
theorem dL_law_614 : decode cL_law 614 = .ok (.iconst 1, 1) := by decide +kernel
theorem dL_law_615 : decode cL_law 615 = .ok (.iadd, 1) := by decide +kernel
theorem dL_law_616 : decode cL_law 616 = .ok (.iaload, 1) := by decide +kernel
theorem dL_law_617 : decode cL_law 617 = .ok (.aload_n 0, 1) := by decide +kernel
theorem dL_law_618 : decode cL_law 618 = .ok (.iload_n 3, 1) := by decide +kernel
theorem dL_law_619 : decode cL_law 619 = .ok (.iconst 2, 1) := by decide +kernel
theorem dL_law_620 : decode cL_law 620 = .ok (.iadd, 1) := by decide +kernel
theorem dL_law_621 : decode cL_law 621 = .ok (.iaload, 1) := by decide +kernel
theorem dL_law_622 : decode cL_law 622 = .ok (.invokevirtual 96, 3) := by decide +kernel
theorem dL_law_625 : decode cL_law 625 = .ok (.if_icmp .eq 150, 3) := by decide +kernel
theorem dL_law_628 : decode cL_law 628 = .ok (.iconst 0, 1) := by decide +kernel
theorem dL_law_629 : decode cL_law 629 = .ok (.ireturn, 1) := by decide +kernel
theorem dL_law_630 : decode cL_law 630 = .ok (.aload_n 1, 1) := by decide +kernel
theorem dL_law_631 : decode cL_law 631 = .ok (.aload_n 0, 1) := by decide +kernel
theorem dL_law_632 : decode cL_law 632 = .ok (.iload_n 3, 1) := by decide +kernel
theorem dL_law_633 : decode cL_law 633 = .ok (.iconst 1, 1) := by decide +kernel
theorem dL_law_634 : decode cL_law 634 = .ok (.iadd, 1) := by decide +kernel
theorem dL_law_635 : decode cL_law 635 = .ok (.iaload, 1) := by decide +kernel
theorem dL_law_636 : decode cL_law 636 = .ok (.aload_n 0, 1) := by decide +kernel
theorem dL_law_637 : decode cL_law 637 = .ok (.iload_n 3, 1) := by decide +kernel
theorem dL_law_638 : decode cL_law 638 = .ok (.iconst 2, 1) := by decide +kernel
theorem dL_law_639 : decode cL_law 639 = .ok (.iadd, 1) := by decide +kernel
theorem dL_law_640 : decode cL_law 640 = .ok (.iaload, 1) := by decide +kernel
theorem dL_law_641 : decode cL_law 641 = .ok (.invokevirtual 97, 3) := by decide +kernel
theorem dL_law_644 : decode cL_law 644 = .ok (.aload_n 2, 1) := by decide +kernel
theorem dL_law_645 : decode cL_law 645 = .ok (.aload_n 0, 1) := by decide +kernel
theorem dL_law_646 : decode cL_law 646 = .ok (.iload_n 3, 1) := by decide +kernel
theorem dL_law_647 : decode cL_law 647 = .ok (.iconst 1, 1) := by decide +kernel
theorem dL_law_648 : decode cL_law 648 = .ok (.iadd, 1) := by decide +kernel
theorem dL_law_649 : decode cL_law 649 = .ok (.iaload, 1) := by decide +kernel
theorem dL_law_650 : decode cL_law 650 = .ok (.aload_n 0, 1) := by decide +kernel
theorem dL_law_651 : decode cL_law 651 = .ok (.iload_n 3, 1) := by decide +kernel
theorem dL_law_652 : decode cL_law 652 = .ok (.iconst 2, 1) := by decide +kernel
theorem dL_law_653 : decode cL_law 653 = .ok (.iadd, 1) := by decide +kernel
theorem dL_law_654 : decode cL_law 654 = .ok (.iaload, 1) := by decide +kernel
theorem dL_law_655 : decode cL_law 655 = .ok (.invokevirtual 100, 3) := by decide +kernel
theorem dL_law_658 : decode cL_law 658 = .ok (.if_icmp .eq 117, 3) := by decide +kernel
theorem dL_law_661 : decode cL_law 661 = .ok (.iconst 0, 1) := by decide +kernel
theorem dL_law_662 : decode cL_law 662 = .ok (.ireturn, 1) := by decide +kernel
theorem dL_law_663 : decode cL_law 663 = .ok (.aload_n 1, 1) := by decide +kernel
theorem dL_law_664 : decode cL_law 664 = .ok (.aload_n 0, 1) := by decide +kernel
theorem dL_law_665 : decode cL_law 665 = .ok (.iload_n 3, 1) := by decide +kernel
theorem dL_law_666 : decode cL_law 666 = .ok (.iconst 1, 1) := by decide +kernel
theorem dL_law_667 : decode cL_law 667 = .ok (.iadd, 1) := by decide +kernel
theorem dL_law_668 : decode cL_law 668 = .ok (.iaload, 1) := by decide +kernel
theorem dL_law_669 : decode cL_law 669 = .ok (.aload_n 0, 1) := by decide +kernel
theorem dL_law_670 : decode cL_law 670 = .ok (.iload_n 3, 1) := by decide +kernel
theorem dL_law_671 : decode cL_law 671 = .ok (.iconst 2, 1) := by decide +kernel
theorem dL_law_672 : decode cL_law 672 = .ok (.iadd, 1) := by decide +kernel
theorem dL_law_673 : decode cL_law 673 = .ok (.iaload, 1) := by decide +kernel
theorem dL_law_674 : decode cL_law 674 = .ok (.invokevirtual 101, 3) := by decide +kernel
theorem dL_law_677 : decode cL_law 677 = .ok (.aload_n 2, 1) := by decide +kernel
theorem dL_law_678 : decode cL_law 678 = .ok (.aload_n 0, 1) := by decide +kernel
theorem dL_law_679 : decode cL_law 679 = .ok (.iload_n 3, 1) := by decide +kernel
theorem dL_law_680 : decode cL_law 680 = .ok (.iconst 1, 1) := by decide +kernel
theorem dL_law_681 : decode cL_law 681 = .ok (.iadd, 1) := by decide +kernel
theorem dL_law_682 : decode cL_law 682 = .ok (.iaload, 1) := by decide +kernel
theorem dL_law_683 : decode cL_law 683 = .ok (.aload_n 0, 1) := by decide +kernel
theorem dL_law_684 : decode cL_law 684 = .ok (.iload_n 3, 1) := by decide +kernel
theorem dL_law_685 : decode cL_law 685 = .ok (.iconst 2, 1) := by decide +kernel
theorem dL_law_686 : decode cL_law 686 = .ok (.iadd, 1) := by decide +kernel
theorem dL_law_687 : decode cL_law 687 = .ok (.iaload, 1) := by decide +kernel
theorem dL_law_688 : decode cL_law 688 = .ok (.invokevirtual 104, 3) := by decide +kernel
theorem dL_law_691 : decode cL_law 691 = .ok (.if_icmp .eq 84, 3) := by decide +kernel
theorem dL_law_694 : decode cL_law 694 = .ok (.iconst 0, 1) := by decide +kernel
theorem dL_law_695 : decode cL_law 695 = .ok (.ireturn, 1) := by decide +kernel
theorem dL_law_696 : decode cL_law 696 = .ok (.aload_n 1, 1) := by decide +kernel
theorem dL_law_697 : decode cL_law 697 = .ok (.aload_n 0, 1) := by decide +kernel
theorem dL_law_698 : decode cL_law 698 = .ok (.iload_n 3, 1) := by decide +kernel
theorem dL_law_699 : decode cL_law 699 = .ok (.iconst 1, 1) := by decide +kernel
theorem dL_law_700 : decode cL_law 700 = .ok (.iadd, 1) := by decide +kernel
theorem dL_law_701 : decode cL_law 701 = .ok (.iaload, 1) := by decide +kernel
theorem dL_law_702 : decode cL_law 702 = .ok (.invokevirtual 105, 3) := by decide +kernel
theorem dL_law_705 : decode cL_law 705 = .ok (.aload_n 2, 1) := by decide +kernel
theorem dL_law_706 : decode cL_law 706 = .ok (.aload_n 0, 1) := by decide +kernel
theorem dL_law_707 : decode cL_law 707 = .ok (.iload_n 3, 1) := by decide +kernel
theorem dL_law_708 : decode cL_law 708 = .ok (.iconst 1, 1) := by decide +kernel
theorem dL_law_709 : decode cL_law 709 = .ok (.iadd, 1) := by decide +kernel
theorem dL_law_710 : decode cL_law 710 = .ok (.iaload, 1) := by decide +kernel
theorem dL_law_711 : decode cL_law 711 = .ok (.invokevirtual 108, 3) := by decide +kernel
theorem dL_law_714 : decode cL_law 714 = .ok (.if_icmp .eq 61, 3) := by decide +kernel
theorem dL_law_717 : decode cL_law 717 = .ok (.iconst 0, 1) := by decide +kernel
theorem dL_law_718 : decode cL_law 718 = .ok (.ireturn, 1) := by decide +kernel
theorem dL_law_719 : decode cL_law 719 = .ok (.aload_n 1, 1) := by decide +kernel
theorem dL_law_720 : decode cL_law 720 = .ok (.aload_n 0, 1) := by decide +kernel
theorem dL_law_721 : decode cL_law 721 = .ok (.iload_n 3, 1) := by decide +kernel
theorem dL_law_722 : decode cL_law 722 = .ok (.iconst 1, 1) := by decide +kernel
theorem dL_law_723 : decode cL_law 723 = .ok (.iadd, 1) := by decide +kernel
theorem dL_law_724 : decode cL_law 724 = .ok (.iaload, 1) := by decide +kernel
theorem dL_law_725 : decode cL_law 725 = .ok (.aload_n 0, 1) := by decide +kernel
theorem dL_law_726 : decode cL_law 726 = .ok (.iload_n 3, 1) := by decide +kernel
theorem dL_law_727 : decode cL_law 727 = .ok (.iconst 2, 1) := by decide +kernel
theorem dL_law_728 : decode cL_law 728 = .ok (.iadd, 1) := by decide +kernel
theorem dL_law_729 : decode cL_law 729 = .ok (.iaload, 1) := by decide +kernel
theorem dL_law_730 : decode cL_law 730 = .ok (.invokevirtual 109, 3) := by decide +kernel
theorem dL_law_733 : decode cL_law 733 = .ok (.aload_n 2, 1) := by decide +kernel
theorem dL_law_734 : decode cL_law 734 = .ok (.aload_n 0, 1) := by decide +kernel
theorem dL_law_735 : decode cL_law 735 = .ok (.iload_n 3, 1) := by decide +kernel
theorem dL_law_736 : decode cL_law 736 = .ok (.iconst 1, 1) := by decide +kernel
theorem dL_law_737 : decode cL_law 737 = .ok (.iadd, 1) := by decide +kernel
theorem dL_law_738 : decode cL_law 738 = .ok (.iaload, 1) := by decide +kernel
theorem dL_law_739 : decode cL_law 739 = .ok (.aload_n 0, 1) := by decide +kernel
theorem dL_law_740 : decode cL_law 740 = .ok (.iload_n 3, 1) := by decide +kernel
theorem dL_law_741 : decode cL_law 741 = .ok (.iconst 2, 1) := by decide +kernel
theorem dL_law_742 : decode cL_law 742 = .ok (.iadd, 1) := by decide +kernel
theorem dL_law_743 : decode cL_law 743 = .ok (.iaload, 1) := by decide +kernel
theorem dL_law_744 : decode cL_law 744 = .ok (.invokevirtual 112, 3) := by decide +kernel
theorem dL_law_747 : decode cL_law 747 = .ok (.if_icmp .eq 28, 3) := by decide +kernel
theorem dL_law_750 : decode cL_law 750 = .ok (.iconst 0, 1) := by decide +kernel
theorem dL_law_751 : decode cL_law 751 = .ok (.ireturn, 1) := by decide +kernel
theorem dL_law_752 : decode cL_law 752 = .ok (.aload_n 1, 1) := by decide +kernel
theorem dL_law_753 : decode cL_law 753 = .ok (.aload_n 0, 1) := by decide +kernel
theorem dL_law_754 : decode cL_law 754 = .ok (.iload_n 3, 1) := by decide +kernel
theorem dL_law_755 : decode cL_law 755 = .ok (.iconst 1, 1) := by decide +kernel
theorem dL_law_756 : decode cL_law 756 = .ok (.iadd, 1) := by decide +kernel
theorem dL_law_757 : decode cL_law 757 = .ok (.iaload, 1) := by decide +kernel
theorem dL_law_758 : decode cL_law 758 = .ok (.invokevirtual 113, 3) := by decide +kernel
theorem dL_law_761 : decode cL_law 761 = .ok (.aload_n 2, 1) := by decide +kernel
theorem dL_law_762 : decode cL_law 762 = .ok (.aload_n 0, 1) := by decide +kernel
theorem dL_law_763 : decode cL_law 763 = .ok (.iload_n 3, 1) := by decide +kernel
theorem dL_law_764 : decode cL_law 764 = .ok (.iconst 1, 1) := by decide +kernel
theorem dL_law_765 : decode cL_law 765 = .ok (.iadd, 1) := by decide +kernel
theorem dL_law_766 : decode cL_law 766 = .ok (.iaload, 1) := by decide +kernel
theorem dL_law_767 : decode cL_law 767 = .ok (.invokevirtual 116, 3) := by decide +kernel
theorem dL_law_770 : decode cL_law 770 = .ok (.if_icmp .eq 5, 3) := by decide +kernel
theorem dL_law_773 : decode cL_law 773 = .ok (.iconst 0, 1) := by decide +kernel
theorem dL_law_774 : decode cL_law 774 = .ok (.ireturn, 1) := by decide +kernel
theorem dL_law_775 : decode cL_law 775 = .ok (.iinc 3 3, 3) := by decide +kernel
theorem dL_law_778 : decode cL_law 778 = .ok (.goto (-760), 3) := by decide +kernel
theorem dL_law_781 : decode cL_law 781 = .ok (.iconst 1, 1) := by decide +kernel
theorem dL_law_782 : decode cL_law 782 = .ok (.ireturn, 1) := by decide +kernel
end
section
/-! THE WORLD: 146 cells at an address, in eleven blocks: 0 the system, 1 now, 2 kept, 3 trial, 4 the history, 5 to 8 its four states, 9 the text, 10 the reference. A block holds arrays (by cell, place) and numbers (by cell, field). -/
abbrev gM : Type := (Nat → Int → Int32) × (Nat → Nat → Int32)
abbrev gW : Type := Nat → gM
abbrev gG : Type := va_G × (ClassId × ClassId × ClassId) × Nat
def bo (j : Nat) : Nat := match j with
  | 0 => 0 | 1 => 1 | 2 => 20 | 3 => 39 | 4 => 58 | 5 => 59 | 6 => 78 | 7 => 97 | 8 => 116 | 9 => 135 | 10 => 139 | _ => 146
def bs (j : Nat) : Nat := match j with
  | 0 => 1 | 1 => 19 | 2 => 19 | 3 => 19 | 4 => 1 | 5 => 19 | 6 => 19 | 7 => 19 | 8 => 19 | 9 => 4 | 10 => 7 | _ => 0
def bk (j : Nat) : Nat := match j with
  | 0 => 0 | 1 => 1 | 2 => 1 | 3 => 1 | 4 => 2 | 5 => 1 | 6 => 1 | 7 => 1 | 8 => 1 | 9 => 3 | 10 => 4 | _ => 5
def bj (k : Nat) : Nat := if k < 1 then 0 else if k < 20 then 1 else if k < 39 then 2 else if k < 58 then 3 else if k < 59 then 4 else if k < 78 then 5 else if k < 97 then 6 else if k < 116 then 7 else if k < 135 then 8 else if k < 139 then 9 else 10
def ad (G : gG) (j c : Nat) : Nat := G.2.2 + (bo j + c)
def cI (G : gG) (n : Nat) (A : Int → Int32) : va_E := .inl (G.2.1.1, n, .inl (fun i : Nat => A (i : Int)))
def cZ (G : gG) (n : Nat) (A : Int → Int32) : va_E := .inl (G.2.1.2.1, n, .inl (fun i : Nat => A (i : Int)))
def cC (G : gG) (n : Nat) (A : Int → Int32) : va_E := .inl (G.2.1.2.2, n, .inl (fun i : Nat => A (i : Int)))
def tysG (G : gG) : List (ClassId × FieldType) := [(G.2.1.1, .int), (G.2.1.2.1, .boolean), (G.2.1.2.2, .char)]
def cM (G : gG) (j c : Nat) (A : Int → Int32) (F : Nat → Int32) : va_E := match c with
  | 0 => .inr (3, [.ref (ad G j 1), .ref (ad G j 2), .ref (ad G j 3), .ref (ad G j 4), .ref (ad G j 5), .ref (ad G j 6), .ref (ad G j 7), .ref (ad G j 14), .int (F 8), .int (F 9), .int (F 10), .int (F 11), .int (F 12), .int (F 13)])
  | 1 => cI G 20 A
  | 2 => cI G 20 A
  | 3 => cI G 20 A
  | 4 => cI G 10 A
  | 5 => cI G 10 A
  | 6 => cI G 10 A
  | 7 => .inr (4, [.ref (ad G j 8), .ref (ad G j 9), .ref (ad G j 10), .ref (ad G j 11), .ref (ad G j 12), .ref (ad G j 13), .int (F 6)])
  | 8 => cI G 120 A
  | 9 => cI G 120 A
  | 10 => cI G 120 A
  | 11 => cZ G 120 A
  | 12 => cZ G 120 A
  | 13 => cZ G 120 A
  | 14 => .inr (1, [.ref (ad G j 15), .ref (ad G j 16), .ref (ad G j 17), .ref (ad G j 18), .int (F 4), .int (F 5)])
  | _ => cI G 120 A
def cP (G : gG) (F : Nat → Int32) : va_E := .inr (5, [.ref (ad G 1 0), .ref (ad G 2 0), .ref (ad G 3 0), .ref (ad G 4 0), .ref (ad G 9 0), .int (F 5)])
/-- the history: its four fields hold the numbers of blocks -/
def hb (F : Nat → Int32) (k : Nat) : Nat := (F k).toInt.toNat
def cH (G : gG) (F : Nat → Int32) : va_E := .inr (2, [.ref (ad G (hb F 0) 0), .ref (ad G (hb F 1) 0), .ref (ad G (hb F 2) 0), .ref (ad G (hb F 3) 0), .int (F 4)])
def cT (G : gG) (c : Nat) (A : Int → Int32) (F : Nat → Int32) : va_E := match c with
  | 0 => .inr (0, [.ref (ad G 9 1), .int (F 1), .ref (ad G 9 2), .ref (ad G 9 3), .int (F 4)])
  | 1 => cC G 60 A
  | _ => cI G 60 A
def cR (G : gG) (c : Nat) (A : Int → Int32) (F : Nat → Int32) : va_E := match c with
  | 0 => .inr (6, [.int (F 0), .ref (ad G 10 1), .ref (ad G 10 2), .ref (ad G 10 3), .int (F 4), .ref (ad G 10 4), .int (F 6), .ref (ad G 10 5), .int (F 8), .int (F 9), .int (F 10), .ref (ad G 10 6), .int (F 12)])
  | 1 => cI G 941 A
  | 2 => cI G 941 A
  | 3 => cI G 3764 A
  | 4 => cI G 941 A
  | 5 => cI G 60 A
  | _ => cI G 120 A
def ceX (G : gG) (j c : Nat) (A : Int → Int32) (F : Nat → Int32) : va_E := match bk j with
  | 0 => cP G F
  | 1 => cM G j c A F
  | 2 => cH G F
  | 3 => cT G c A F
  | _ => cR G c A F
/-- a block of a state of the moss -/
def ms (j : Nat) : Prop := j = 1 ∨ j = 2 ∨ j = 3 ∨ j = 5 ∨ j = 6 ∨ j = 7 ∨ j = 8
theorem ceX_m {j : Nat} (h : ms j) (G : gG) (c : Nat) (A : Int → Int32) (F : Nat → Int32) : ceX G j c A F = cM G j c A F := by
  rcases h with rfl | rfl | rfl | rfl | rfl | rfl | rfl <;> rfl
theorem ms_lt {j : Nat} (h : ms j) (c : Nat) (hc : c < 19) : j < 11 ∧ c < bs j := by
  rcases h with rfl | rfl | rfl | rfl | rfl | rfl | rfl <;> exact ⟨by omega, hc⟩
def WL (G : gG) (w : gW) : va_W := (List.range 146).map fun k => (G.2.2 + k, ceX G (bj k) (k - bo (bj k)) ((w (bj k)).1 (k - bo (bj k))) ((w (bj k)).2 (k - bo (bj k))))
theorem bj_bo : ∀ j, j < 11 → ∀ c, c < 19 → c < bs j → bj (bo j + c) = j ∧ bo j + c < 146 := by decide +kernel
theorem bo_bj : ∀ k, k < 146 → bo (bj k) + (k - bo (bj k)) = k ∧ bj k < 11 ∧ k - bo (bj k) < bs (bj k) := by decide +kernel
theorem bs_le : ∀ j, j < 11 → bs j ≤ 19 := by decide +kernel
theorem bj_bo' {j c : Nat} (h : j < 11 ∧ c < bs j) : bj (bo j + c) = j ∧ bo j + c < 146 := bj_bo j h.1 c (Nat.lt_of_lt_of_le h.2 (bs_le j h.1)) h.2
theorem WL_get (G : gG) (w : gW) {j c : Nat} (h : j < 11 ∧ c < bs j) : (WL G w)[bo j + c]? = some (ad G j c, ceX G j c ((w j).1 c) ((w j).2 c)) := by
  obtain ⟨h1, h2⟩ := bj_bo' h
  unfold WL
  rw [List.getElem?_map, List.getElem?_range h2]
  simp only [Option.map_some, h1, Nat.add_sub_cancel_left]
  rfl
theorem WL_len (G : gG) (w : gW) : (WL G w).length = 146 := by simp [WL]
def up (w : gW) (j : Nat) (M : gM) : gW := fun j' => if j' = j then M else w j'
def sC (M : gM) (c : Nat) (A : Int → Int32) (F : Nat → Int32) : gM := (fun c' => if c' = c then A else M.1 c', fun c' => if c' = c then F else M.2 c')
/-- an array whole; an array at a place; a number -/
def sF (M : gM) (c : Nat) (A : Int → Int32) : gM := (fun c' => if c' = c then A else M.1 c', M.2)
def sA (M : gM) (c : Nat) (x : Int) (v : Int32) : gM := sF M c (fun i => if i = x then v else M.1 c i)
def sS (M : gM) (c f : Nat) (v : Int32) : gM := (M.1, fun c' f' => if c' = c ∧ f' = f then v else M.2 c' f')
theorem sC_F (M : gM) (c : Nat) (A : Int → Int32) : sC M c A (M.2 c) = sF M c A := by
  refine Prod.ext rfl ?_
  funext c'
  show (if c' = c then M.2 c else M.2 c') = M.2 c'
  split
  · next h => rw [h]
  · rfl
theorem sC_S (M : gM) (c f : Nat) (v : Int32) : sC M c (M.1 c) (fun f' => if f' = f then v else M.2 c f') = sS M c f v := by
  refine Prod.ext ?_ ?_
  · funext c'
    show (if c' = c then M.1 c else M.1 c') = M.1 c'
    split
    · next h => rw [h]
    · rfl
  · funext c' f'
    show (if c' = c then (fun f' => if f' = f then v else M.2 c f') else M.2 c') f' = if c' = c ∧ f' = f then v else M.2 c' f'
    by_cases h : c' = c
    · subst h; simp
    · simp [h]
theorem WL_set (G : gG) (w : gW) {j c : Nat} (h : j < 11 ∧ c < bs j) (A : Int → Int32) (F : Nat → Int32) : (WL G w).set (bo j + c) (ad G j c, ceX G j c A F) = WL G (up w j (sC (w j) c A F)) := by
  obtain ⟨h1, h2⟩ := bj_bo' h
  apply List.ext_getElem?
  intro k
  by_cases hk : k < 146
  · obtain ⟨g1, g2, g3⟩ := bo_bj k hk
    have e := WL_get G (up w j (sC (w j) c A F)) (j := bj k) (c := k - bo (bj k)) ⟨g2, g3⟩
    have e0 := WL_get G w (j := bj k) (c := k - bo (bj k)) ⟨g2, g3⟩
    rw [g1] at e e0
    by_cases hq : k = bo j + c
    · subst hq
      rw [List.getElem?_set_self (by rw [WL_len]; exact h2), e, h1, Nat.add_sub_cancel_left]
      simp [up, sC]
    · rw [List.getElem?_set_ne (Ne.symm hq), e0, e]
      by_cases hj : bj k = j
      · have hc : ¬ k - bo (bj k) = c := by rw [hj] at g1 ⊢; omega
        simp [up, sC, hj]
        rw [hj] at hc
        simp [hc]
      · simp [up, hj]
  · rw [List.getElem?_eq_none (by rw [List.length_set, WL_len]; omega), List.getElem?_eq_none (by rw [WL_len]; omega)]
theorem WL_D (G : gG) (w : gW) : va_D (fun q : Nat => G.2.2 ≤ q) (WL G w) := by
  have key : ∀ (k : Nat) (q : Nat × va_E), (WL G w)[k]? = some q → q.1 = G.2.2 + k := by
    intro k q hk
    unfold WL at hk
    rw [List.getElem?_map] at hk
    by_cases h : k < 146
    · rw [List.getElem?_range h] at hk
      simp at hk
      rw [← hk]
    · rw [List.getElem?_eq_none (by simp; omega)] at hk
      simp at hk
  refine ⟨fun i j p q hi hj hpq => ?_, fun k q hk => ?_⟩
  · rw [key i p hi, key j q hj] at hpq; omega
  · rw [key k q hk]; omega
/-- the words of calls of a nest mate's private methods -/
def nst (U : State) : Prop := va_Nw (.methodLinkNest RX3 48 yX5_copyNumbers RX5) U ∧ va_Nw (.methodLinkNest RX4 31 yX5_copyNumbers RX5) U ∧ va_Nw (.methodLinkNest RX4 35 yX5_copyFlags RX5) U ∧ va_Nw (.methodLinkNest RX1 24 yX5_copyNumbers RX5) U ∧ va_Nw (.methodLinkNest RX3 89 yX5_isCommoner RX5) U ∧ va_Nw (.methodLinkNest RX3 78 yX5_isPlot RX5) U ∧ va_Nw (.methodLinkNest RX4 61 yX5_oneIf RX5) U ∧ va_Nw (.methodLinkNest RX4 47 yX5_isWithin RX5) U ∧ va_Nw (.methodLinkNest RX1 35 yX5_oneIf RX5) U
theorem nst_warm {s U : State} (hW : s.WarmedH U.vm) (h : nst s) : nst U := by
  obtain ⟨h1, h2, h3, h4, h5, h6, h7, h8, h9⟩ := h
  exact ⟨va_Nw.warmM hW h1, va_Nw.warmM hW h2, va_Nw.warmM hW h3, va_Nw.warmM hW h4, va_Nw.warmM hW h5, va_Nw.warmM hW h6, va_Nw.warmM hW h7, va_Nw.warmM hW h8, va_Nw.warmM hW h9⟩
theorem nst_same {u U : State} (hv : u.vm = U.vm) (h : nst u) : nst U := by
  obtain ⟨h1, h2, h3, h4, h5, h6, h7, h8, h9⟩ := h
  exact ⟨va_Nw.same rfl hv h1, va_Nw.same rfl hv h2, va_Nw.same rfl hv h3, va_Nw.same rfl hv h4, va_Nw.same rfl hv h5, va_Nw.same rfl hv h6, va_Nw.same rfl hv h7, va_Nw.same rfl hv h8, va_Nw.same rfl hv h9⟩
/-- the world at a heap; what else stands -/
def wo (G : gG) (w : gW) (s : State) (H : Heap) (locs : List Loc) : Prop := va_P G.1 vwCl (WL G w) H ∧ va_K G.1 vwCl (tysG G) s ∧ va_S (fun q : Nat => G.2.2 ≤ q) s.heap H locs
def wpre (G : gG) (w : gW) (U : State) : Prop := va_P G.1 vwCl (WL G w) U.heap ∧ va_K G.1 vwCl (tysG G) U ∧ nst U
def qi (G : gG) (post : Int → gW → Prop) : Array Value → State → Outcome → State → Prop := va_Qi (fun (r : Int32) (w' : gW) => ∃ z : Int, inR z ∧ r = iI z ∧ post z w') (fun w' t => va_P G.1 vwCl (WL G w') t.heap) (fun q : Nat => G.2.2 ≤ q)
def qv (G : gG) (post : gW → Prop) : Array Value → State → Outcome → State → Prop := va_Qv post (fun w' t => va_P G.1 vwCl (WL G w') t.heap) (fun q : Nat => G.2.2 ≤ q)
/-- a method's contract over the world: it answers an int, or nothing -/
def mI (l : Launch) (G : gG) (y : MethodName) (ws : List Cond) (rm : Room) (av : List Value) (w : gW) (post : Int → gW → Prop) : Prop := Met l y ws rm (va_Pc av (wpre G w)) (qi G post) 0 0 (fun q : Nat => G.2.2 ≤ q)
def mV (l : Launch) (G : gG) (y : MethodName) (ws : List Cond) (rm : Room) (av : List Value) (w : gW) (post : gW → Prop) : Prop := Met l y ws rm (va_Pc av (wpre G w)) (qv G post) 0 0 (fun q : Nat => G.2.2 ≤ q)
def rmL (d n : Nat) : Room := { frames := d, cells := 0, slots := 0, locals := n }
/-- what stands all through a body -/
def cx (p : Program) (s : State) (m : MethodId) (args : Array Value) (meth : Method) (c : Code) (y : MethodName) (cc : ByteArray) (n : Nat) (ret : Option FieldType) : Prop := p.tables.exec = Jvm.exec ∧ c.code = cc ∧ meth.sig.returnType = ret ∧ c.maxLocals = n ∧ (∀ w ∈ wU y cc n ret, w.before args s = true) ∧ s.vm.findClass y.cls = some m.cls ∧ meth.locks = false ∧ nst s
theorem cx.w {p : Program} {s : State} {m : MethodId} {args : Array Value} {meth : Method} {c : Code} {y : MethodName} {cc : ByteArray} {n : Nat} {ret : Option FieldType} (C0 : cx p s m args meth c y cc n ret) {w : Cond} (h : w ∈ wsG) : w.before args s = true := C0.2.2.2.2.1 w (wU_in h)
abbrev QI (G : gG) (post : Int → gW → Prop) (below : List Frame) (args : Array Value) (s : State) : State → Prop := MQ below (qi G post) args s 0 0 (fun q : Nat => G.2.2 ≤ q)
abbrev QV (G : gG) (post : gW → Prop) (below : List Frame) (args : Array Value) (s : State) : State → Prop := MQ below (qv G post) args s 0 0 (fun q : Nat => G.2.2 ≤ q)
theorem mI_of {l : Launch} {G : gG} {y : MethodName} {cc : ByteArray} {n : Nat} {ret : Option FieldType} {d k : Nat} {av : List Value} {w : gW} {post : Int → gW → Prop} (hy : plainName y.cls = true) (hn : (lg_sl av).length ≤ n)
    (body : ∀ (p : Program) (e : Env) (s : State) (m : MethodId) (args : Array Value) (below : List Frame) (meth : Method) (c : Code) (ls : Array Slot), cx p s m args meth c y cc n ret → wo G w s s.heap [] → lv_has ls n (lv_args 0 av) → W p l e (rmL d k) s m args below meth c s.heap [] 0 0 (QI G post below args s) (F0 m 0 ls [])) : mI l G y (wU y cc n ret) (rmL d k) av w post := by
  refine Met.ofW (cc := cc) (maxL := n) (ret := ret) hy rfl ?_
  intro p e s m args below meth c s₁ B hml hv
  obtain ⟨rfl, hP, hK, hN⟩ := hv
  rw [lg_entry_eq]
  exact body p e s m _ below meth c _ ⟨B.exec, B.bytes, B.returns, hml, atoms_spec (ws := wU y cc n ret) B.pre, findClass_of_methodNamed B.named, B.notSynchronized, hN⟩ ⟨hP, hK, va_S.rf⟩ (lv_entry av hn)
theorem mV_of {l : Launch} {G : gG} {y : MethodName} {cc : ByteArray} {n : Nat} {ret : Option FieldType} {d k : Nat} {av : List Value} {w : gW} {post : gW → Prop} (hy : plainName y.cls = true) (hn : (lg_sl av).length ≤ n)
    (body : ∀ (p : Program) (e : Env) (s : State) (m : MethodId) (args : Array Value) (below : List Frame) (meth : Method) (c : Code) (ls : Array Slot), cx p s m args meth c y cc n ret → wo G w s s.heap [] → lv_has ls n (lv_args 0 av) → W p l e (rmL d k) s m args below meth c s.heap [] 0 0 (QV G post below args s) (F0 m 0 ls [])) : mV l G y (wU y cc n ret) (rmL d k) av w post := by
  refine Met.ofW (cc := cc) (maxL := n) (ret := ret) hy rfl ?_
  intro p e s m args below meth c s₁ B hml hv
  obtain ⟨rfl, hP, hK, hN⟩ := hv
  rw [lg_entry_eq]
  exact body p e s m _ below meth c _ ⟨B.exec, B.bytes, B.returns, hml, atoms_spec (ws := wU y cc n ret) B.pre, findClass_of_methodNamed B.named, B.notSynchronized, hN⟩ ⟨hP, hK, va_S.rf⟩ (lv_entry av hn)
theorem wpre_blind {G : gG} {w : gW} (av : List Value) : FrameBlind (va_Pc av (wpre G w)) := fun a U g mk q => by
  obtain ⟨q0, qP, qK, qN⟩ := q
  exact ⟨q0, qP, va_K.moved (u := U) (U := U.calling g mk a) (Vm.Alike.refl U.vm) qK, nst_same rfl qN⟩
theorem wpre_at {G : gG} {w : gW} {s : State} {H : Heap} {locs : List Loc} (av : List Value) (hW : wo G w s H locs) (hN : nst s) : ∀ U : State, U.heap = H → s.WarmedH U.vm → va_Pc av (wpre G w) av.toArray U := fun U hU hWm => ⟨rfl, by rw [hU]; exact hW.1, va_K.moved hWm.alike hW.2.1, nst_warm hWm hN⟩
section RH
variable {p : Program} {l : Launch} {e : Env} {R : Room} {s : State} {m : MethodId} {args : Array Value} {below : List Frame} {meth : Method} {c : Code} {H : Heap} {locs : List Loc} {cells slots : Nat} {Q : State → Prop}
variable {cc : ByteArray} {pc : Nat} {ls : Array Slot} {rest : List Value} {G : gG} {w : gW} {y : MethodName} {nL : Nat} {ret : Option FieldType}
theorem r_gI (C0 : cx p s m args meth c y cc nL ret) (hW : wo G w s H locs) {j k0 : Nat} (hj : j < 11 ∧ k0 < bs j) {ci N k index : Nat} {fs : List Value} {C own ref : String} {T : u_T} {v : Int32} (he : ceX G j k0 ((w j).1 k0) ((w j).2 k0) = .inr (ci, fs)) (hcl : vwCl[ci]? = some (C, T, N)) (hin : ∀ w ∈ u_ws C T N, w ∈ wsG) (hk : k < N) (hlink : Cond.fieldLink own index ref (T k).2.1 (T k).2.2.1 ∈ wsG) (hv : fs[k]? = some (.int v)) (ho : own = y.cls) (href : (T k).1 = ref) (hdg : decode cc pc = .ok (.getfield index, 3))
    (kk : ∀ z : Int, z = v.toInt → inR z → W p l e R s m args below meth c H locs cells slots Q (F0 m (pc + 3) ls (.int (iI z) :: rest))) : W p l e R s m args below meth c H locs cells slots Q (F0 m pc ls (.ref (ad G j k0) :: rest)) := by
  obtain ⟨hx, hb, -, -, hts, hown, -⟩ := C0
  subst ho
  refine va_get hx hb hts (fun w hw => wU_in (hin w hw)) hown hW.2.1 hW.1 (bo j + k0) ((WL_get G w hj).trans (by rw [he])) hcl k hk (hts _ (wU_in hlink)) (fun _ h9 => by rw [← href]; exact h9) hv hdg ?_
  have h := kk v.toInt rfl (inR_o v)
  rwa [iI_o] at h
theorem r_gR (C0 : cx p s m args meth c y cc nL ret) (hW : wo G w s H locs) {j k0 : Nat} (hj : j < 11 ∧ k0 < bs j) {ci N k index : Nat} {fs : List Value} {C own ref : String} {T : u_T} {a : Nat} (he : ceX G j k0 ((w j).1 k0) ((w j).2 k0) = .inr (ci, fs)) (hcl : vwCl[ci]? = some (C, T, N)) (hin : ∀ w ∈ u_ws C T N, w ∈ wsG) (hk : k < N) (hlink : Cond.fieldLink own index ref (T k).2.1 (T k).2.2.1 ∈ wsG) (hv : fs[k]? = some (.ref a)) (ho : own = y.cls) (href : (T k).1 = ref) (hdg : decode cc pc = .ok (.getfield index, 3))
    (kk : W p l e R s m args below meth c H locs cells slots Q (F0 m (pc + 3) ls (.ref a :: rest))) : W p l e R s m args below meth c H locs cells slots Q (F0 m pc ls (.ref (ad G j k0) :: rest)) := by
  obtain ⟨hx, hb, -, -, hts, hown, -⟩ := C0
  subst ho
  exact va_get hx hb hts (fun w hw => wU_in (hin w hw)) hown hW.2.1 hW.1 (bo j + k0) ((WL_get G w hj).trans (by rw [he])) hcl k hk (hts _ (wU_in hlink)) (fun _ h9 => by rw [← href]; exact h9) hv hdg kk
theorem wo_set {j k0 : Nat} (hj : j < 11 ∧ k0 < bs j) {A : Int → Int32} {F : Nat → Int32} {e : va_E} {H1 : Heap} {locs1 : List Loc} (hK : va_K G.1 vwCl (tysG G) s) (he : ceX G j k0 A F = e) (hP : va_P G.1 vwCl ((WL G w).set (bo j + k0) (ad G j k0, e)) H1) (hS : va_S (fun q : Nat => G.2.2 ≤ q) s.heap H1 locs1) : wo G (up w j (sC (w j) k0 A F)) s H1 locs1 := by
  subst he
  rw [WL_set G w hj] at hP
  exact ⟨hP, hK, hS⟩
theorem r_pI (C0 : cx p s m args meth c y cc nL ret) (hW : wo G w s H locs) {j k0 : Nat} (hj : j < 11 ∧ k0 < bs j) {ci N k index : Nat} {fs : List Value} {C own ref : String} {T : u_T} {v : Int32} {ty : FieldType} (he : ceX G j k0 ((w j).1 k0) ((w j).2 k0) = .inr (ci, fs)) (hcl : vwCl[ci]? = some (C, T, N)) (hin : ∀ w ∈ u_ws C T N, w ∈ wsG) (ty0 : Nat → FieldType) (hty : ∀ k, k < N → parseFieldDescriptor (T k).2.2.1 = some (ty0 k)) (hnm : ∀ a, a < N → ∀ b, b < N → a ≠ b → (T a).2.1 ≠ (T b).2.1) (hk : k < N) (hlink : Cond.fieldLink own index ref (T k).2.1 (T k).2.2.1 ∈ wsG) (ho : own = y.cls) (href : (T k).1 = ref) (hfin : (T k).2.2.2 = false) (hd : parseFieldDescriptor (T k).2.2.1 = some ty) (hn : narrow ty (.int v) = .int v) (hfit : fits ty (.int v) = true) (hl : k < fs.length)
    (he2 : ceX G j k0 ((w j).1 k0) (fun f' => if f' = k then v else (w j).2 k0 f') = .inr (ci, fs.set k (.int v))) (hdg : decode cc pc = .ok (.putfield index, 3))
    (kk : ∀ (H1 : Heap) (locs1 : List Loc), wo G (up w j (sS (w j) k0 k v)) s H1 locs1 → W p l e R s m args below meth c H1 locs1 cells slots Q (F0 m (pc + 3) ls rest)) : W p l e R s m args below meth c H locs cells slots Q (F0 m pc ls (.int v :: .ref (ad G j k0) :: rest)) := by
  obtain ⟨hx, hb, -, -, hts, hown, -⟩ := C0
  subst ho
  refine va_put hx hb hts (fun w hw => wU_in (hin w hw)) ty0 hty hnm hown hW.2.1 hW.1 (WL_D G w) hW.2.2 (bo j + k0) ((WL_get G w hj).trans (by rw [he])) hcl k hk (hts _ (wU_in hlink)) (fun _ h9 => by rw [← href]; exact h9) hfin hd hn hfit hl hdg (fun H1 locs1 hP _ hS => kk H1 locs1 ?_)
  have h := wo_set hj hW.2.1 he2 hP hS
  rwa [sC_S] at h
theorem r_ild (C0 : cx p s m args meth c y cc nL ret) (hW : wo G w s H locs) {j k0 n : Nat} (hj : j < 11 ∧ k0 < bs j) (he : ceX G j k0 ((w j).1 k0) ((w j).2 k0) = cI G n ((w j).1 k0)) {x : Int} (h0 : 0 ≤ x) (h1 : x < n) (hn : n < 2147483648) (hdg : decode cc pc = .ok (.iaload, 1))
    (kk : ∀ z : Int, z = ((w j).1 k0 x).toInt → inR z → W p l e R s m args below meth c H locs cells slots Q (F0 m (pc + 1) ls (.int (iI z) :: rest))) : W p l e R s m args below meth c H locs cells slots Q (F0 m pc ls (.int (iI x) :: .ref (ad G j k0) :: rest)) := by
  obtain ⟨hx, hb, -⟩ := C0
  refine va_iald hx hb hW.2.1 hW.1 (bo j + k0) 0 (cA := G.2.1.1) (n := n) (f := fun i : Nat => (w j).1 k0 (i : Int)) ((WL_get G w hj).trans (by rw [he]; rfl)) rfl (iI_in h0 h1 hn) hdg ?_
  have h := kk _ rfl (inR_o _)
  rw [iI_o] at h
  show W p l e R s m args below meth c H locs cells slots Q (F0 m (pc + 1) ls (.int ((w j).1 k0 (((iI x).toNatClampNeg : Nat) : Int)) :: rest))
  rw [iI_clamp ⟨by omega, by omega⟩, Int.toNat_of_nonneg h0]
  exact h
theorem r_zld (C0 : cx p s m args meth c y cc nL ret) (hW : wo G w s H locs) {j k0 n : Nat} (hj : j < 11 ∧ k0 < bs j) (he : ceX G j k0 ((w j).1 k0) ((w j).2 k0) = cZ G n ((w j).1 k0)) {x : Int} (h0 : 0 ≤ x) (h1 : x < n) (hn : n < 2147483648) (hdg : decode cc pc = .ok (.baload, 1))
    (kk : ∀ z : Int, z = ((w j).1 k0 x).toInt → inR z → W p l e R s m args below meth c H locs cells slots Q (F0 m (pc + 1) ls (.int (iI z) :: rest))) : W p l e R s m args below meth c H locs cells slots Q (F0 m pc ls (.int (iI x) :: .ref (ad G j k0) :: rest)) := by
  obtain ⟨hx, hb, -⟩ := C0
  refine va_zald hx hb hW.2.1 hW.1 (bo j + k0) 1 (cA := G.2.1.2.1) (n := n) (f := fun i : Nat => (w j).1 k0 (i : Int)) ((WL_get G w hj).trans (by rw [he]; rfl)) rfl (iI_in h0 h1 hn) hdg ?_
  have h := kk _ rfl (inR_o _)
  rw [iI_o] at h
  show W p l e R s m args below meth c H locs cells slots Q (F0 m (pc + 1) ls (.int ((w j).1 k0 (((iI x).toNatClampNeg : Nat) : Int)) :: rest))
  rw [iI_clamp ⟨by omega, by omega⟩, Int.toNat_of_nonneg h0]
  exact h
theorem r_cld (C0 : cx p s m args meth c y cc nL ret) (hW : wo G w s H locs) {j k0 n : Nat} (hj : j < 11 ∧ k0 < bs j) (he : ceX G j k0 ((w j).1 k0) ((w j).2 k0) = cC G n ((w j).1 k0)) {x : Int} (h0 : 0 ≤ x) (h1 : x < n) (hn : n < 2147483648) (hdg : decode cc pc = .ok (.caload, 1))
    (kk : ∀ z : Int, z = ((w j).1 k0 x).toInt → inR z → W p l e R s m args below meth c H locs cells slots Q (F0 m (pc + 1) ls (.int (iI z) :: rest))) : W p l e R s m args below meth c H locs cells slots Q (F0 m pc ls (.int (iI x) :: .ref (ad G j k0) :: rest)) := by
  obtain ⟨hx, hb, -⟩ := C0
  refine va_cald hx hb hW.2.1 hW.1 (bo j + k0) 2 (cA := G.2.1.2.2) (n := n) (f := fun i : Nat => (w j).1 k0 (i : Int)) ((WL_get G w hj).trans (by rw [he]; rfl)) rfl (iI_in h0 h1 hn) hdg ?_
  have h := kk _ rfl (inR_o _)
  rw [iI_o] at h
  show W p l e R s m args below meth c H locs cells slots Q (F0 m (pc + 1) ls (.int ((w j).1 k0 (((iI x).toNatClampNeg : Nat) : Int)) :: rest))
  rw [iI_clamp ⟨by omega, by omega⟩, Int.toNat_of_nonneg h0]
  exact h
theorem r_ist (C0 : cx p s m args meth c y cc nL ret) (hW : wo G w s H locs) {j k0 n : Nat} (hj : j < 11 ∧ k0 < bs j) (he : ∀ A : Int → Int32, ceX G j k0 A ((w j).2 k0) = cI G n A) {x : Int} {v : Int32} (h0 : 0 ≤ x) (h1 : x < n) (hn : n < 2147483648) (hdg : decode cc pc = .ok (.iastore, 1))
    (kk : ∀ (H1 : Heap) (locs1 : List Loc), wo G (up w j (sA (w j) k0 x v)) s H1 locs1 → W p l e R s m args below meth c H1 locs1 cells slots Q (F0 m (pc + 1) ls rest)) : W p l e R s m args below meth c H locs cells slots Q (F0 m pc ls (.int v :: .int (iI x) :: .ref (ad G j k0) :: rest)) := by
  obtain ⟨hx, hb, -⟩ := C0
  refine va_iast hx hb hW.2.1 hW.1 (WL_D G w) hW.2.2 (bo j + k0) 0 (cA := G.2.1.1) (n := n) (f := fun i : Nat => (w j).1 k0 (i : Int)) ((WL_get G w hj).trans (by rw [he]; rfl)) rfl (iI_in h0 h1 hn) hdg (fun H1 locs1 hP _ hS => kk H1 locs1 ?_)
  have h := wo_set hj (A := fun i => if i = x then v else (w j).1 k0 i) (F := (w j).2 k0) hW.2.1 (he _) (by
    refine cast (congrArg (fun f => va_P G.1 vwCl ((WL G w).set (bo j + k0) (ad G j k0, .inl (G.2.1.1, n, .inl f))) H1) ?_) hP
    funext i
    show upd (fun i : Nat => (w j).1 k0 (i : Int)) (iI x).toNatClampNeg _ i = (if (i : Int) = x then v else (w j).1 k0 (i : Int))
    rw [iI_clamp ⟨by omega, by omega⟩]
    simp only [upd]
    by_cases hq : (i : Int) = x
    · rw [if_pos hq, if_pos (by omega)]
    · rw [if_neg hq, if_neg (by omega)]) hS
  rwa [sC_F] at h
theorem r_zst (C0 : cx p s m args meth c y cc nL ret) (hW : wo G w s H locs) {j k0 n : Nat} (hj : j < 11 ∧ k0 < bs j) (he : ∀ A : Int → Int32, ceX G j k0 A ((w j).2 k0) = cZ G n A) {x : Int} {v : Int32} (hv : vp_nar .boolean v = v) (h0 : 0 ≤ x) (h1 : x < n) (hn : n < 2147483648) (hdg : decode cc pc = .ok (.bastore, 1))
    (kk : ∀ (H1 : Heap) (locs1 : List Loc), wo G (up w j (sA (w j) k0 x v)) s H1 locs1 → W p l e R s m args below meth c H1 locs1 cells slots Q (F0 m (pc + 1) ls rest)) : W p l e R s m args below meth c H locs cells slots Q (F0 m pc ls (.int v :: .int (iI x) :: .ref (ad G j k0) :: rest)) := by
  obtain ⟨hx, hb, -⟩ := C0
  refine va_zast hx hb hW.2.1 hW.1 (WL_D G w) hW.2.2 (bo j + k0) 1 (cA := G.2.1.2.1) (n := n) (f := fun i : Nat => (w j).1 k0 (i : Int)) ((WL_get G w hj).trans (by rw [he]; rfl)) rfl (iI_in h0 h1 hn) hdg (fun H1 locs1 hP _ hS => kk H1 locs1 ?_)
  have h := wo_set hj (A := fun i => if i = x then v else (w j).1 k0 i) (F := (w j).2 k0) hW.2.1 (he _) (by
    refine cast (congrArg (fun f => va_P G.1 vwCl ((WL G w).set (bo j + k0) (ad G j k0, .inl (G.2.1.2.1, n, .inl f))) H1) ?_) hP
    funext i
    show upd (fun i : Nat => (w j).1 k0 (i : Int)) (iI x).toNatClampNeg _ i = (if (i : Int) = x then v else (w j).1 k0 (i : Int))
    rw [iI_clamp ⟨by omega, by omega⟩]
    simp only [upd]
    by_cases hq : (i : Int) = x
    · rw [if_pos hq, if_pos (by omega)]; exact hv
    · rw [if_neg hq, if_neg (by omega)]) hS
  rwa [sC_F] at h
theorem r_cst (C0 : cx p s m args meth c y cc nL ret) (hW : wo G w s H locs) {j k0 n : Nat} (hj : j < 11 ∧ k0 < bs j) (he : ∀ A : Int → Int32, ceX G j k0 A ((w j).2 k0) = cC G n A) {x : Int} {v : Int32} (hv : vp_nar .char v = v) (h0 : 0 ≤ x) (h1 : x < n) (hn : n < 2147483648) (hdg : decode cc pc = .ok (.castore, 1))
    (kk : ∀ (H1 : Heap) (locs1 : List Loc), wo G (up w j (sA (w j) k0 x v)) s H1 locs1 → W p l e R s m args below meth c H1 locs1 cells slots Q (F0 m (pc + 1) ls rest)) : W p l e R s m args below meth c H locs cells slots Q (F0 m pc ls (.int v :: .int (iI x) :: .ref (ad G j k0) :: rest)) := by
  obtain ⟨hx, hb, -⟩ := C0
  refine va_cast hx hb hW.2.1 hW.1 (WL_D G w) hW.2.2 (bo j + k0) 2 (cA := G.2.1.2.2) (n := n) (f := fun i : Nat => (w j).1 k0 (i : Int)) ((WL_get G w hj).trans (by rw [he]; rfl)) rfl (iI_in h0 h1 hn) hdg (fun H1 locs1 hP _ hS => kk H1 locs1 ?_)
  have h := wo_set hj (A := fun i => if i = x then v else (w j).1 k0 i) (F := (w j).2 k0) hW.2.1 (he _) (by
    refine cast (congrArg (fun f => va_P G.1 vwCl ((WL G w).set (bo j + k0) (ad G j k0, .inl (G.2.1.2.2, n, .inl f))) H1) ?_) hP
    funext i
    show upd (fun i : Nat => (w j).1 k0 (i : Int)) (iI x).toNatClampNeg _ i = (if (i : Int) = x then v else (w j).1 k0 (i : Int))
    rw [iI_clamp ⟨by omega, by omega⟩]
    simp only [upd]
    by_cases hq : (i : Int) = x
    · rw [if_pos hq, if_pos (by omega)]; exact hv
    · rw [if_neg hq, if_neg (by omega)]) hS
  rwa [sC_F] at h
end RH
end
section
section RC
variable {p : Program} {l : Launch} {e : Env} {R : Room} {s : State} {m : MethodId} {args : Array Value} {below : List Frame} {meth : Method} {c : Code} {H : Heap} {locs : List Loc} {Q : State → Prop}
variable {cc : ByteArray} {pc : Nat} {ls : Array Slot} {rest : List Value} {G : gG} {w : gW} {y : MethodName} {nL : Nat} {ret : Option FieldType}
theorem r_iret (C0 : cx p s m args meth c y cc nL (some .int)) (hW : wo G w s H locs) {post : Int → gW → Prop} {z : Int} (hz : inR z) (hp : post z w) (hdg : decode cc pc = .ok (.ireturn, 1)) : W p l e R s m args below meth c H locs 0 0 (QI G post below args s) (F0 m pc ls [.int (iI z)]) := by
  obtain ⟨hx, hb, hr, -, -, -, hlk, -⟩ := C0
  exact W.iret hx hb hr (fun t ht _ => ⟨⟨iI z, w, rfl, ⟨z, hz, rfl, hp⟩, by show va_P G.1 vwCl (WL G w) t.heap; rw [ht]; exact hW.1⟩, hW.2.2.F ht⟩) hW.2.2.2.2 hdg hlk
theorem iI_bool {z : Int} (hz : z = 0 ∨ z = 1) : narrow .boolean (.int (iI z)) = .int (iI z) := by
  rcases hz with rfl | rfl <;> rfl
theorem r_zret (C0 : cx p s m args meth c y cc nL (some .boolean)) (hW : wo G w s H locs) {post : Int → gW → Prop} {z : Int} (hz : z = 0 ∨ z = 1) (hp : post z w) (hdg : decode cc pc = .ok (.ireturn, 1)) : W p l e R s m args below meth c H locs 0 0 (QI G post below args s) (F0 m pc ls [.int (iI z)]) := by
  obtain ⟨hx, hb, hr, -, -, -, hlk, -⟩ := C0
  exact W.zret hx hb hr (iI_bool hz) (fun t ht _ => ⟨⟨iI z, w, rfl, ⟨z, by rcases hz with rfl | rfl <;> exact ⟨by omega, by omega⟩, rfl, hp⟩, by show va_P G.1 vwCl (WL G w) t.heap; rw [ht]; exact hW.1⟩, hW.2.2.F ht⟩) hW.2.2.2.2 hdg hlk
theorem r_vret (C0 : cx p s m args meth c y cc nL none) (hW : wo G w s H locs) {post : gW → Prop} (hp : post w) (hdg : decode cc pc = .ok (.return_, 1)) : W p l e R s m args below meth c H locs 0 0 (QV G post below args s) (F0 m pc ls []) := by
  obtain ⟨hx, hb, hr, -, -, -, hlk, -⟩ := C0
  exact W.vret hx hb hr (fun t ht _ => ⟨⟨w, rfl, hp, by show va_P G.1 vwCl (WL G w) t.heap; rw [ht]; exact hW.1⟩, hW.2.2.F ht⟩) hW.2.2.2.2 hdg hlk
theorem cx.fix (C0 : cx p s m args meth c y cc nL ret) : CallFix p m c cc nL s args (wU y cc nL ret) y.cls := ⟨C0.1, C0.2.1, C0.2.2.2.1, C0.2.2.2.2.2.1, C0.2.2.2.2.1⟩
theorem cx.hx (C0 : cx p s m args meth c y cc nL ret) : p.tables.exec = Jvm.exec := C0.1
theorem cx.hb (C0 : cx p s m args meth c y cc nL ret) : c.code = cc := C0.2.1
theorem cx.ml (C0 : cx p s m args meth c y cc nL ret) : c.maxLocals = nL := C0.2.2.2.1
theorem cx.nst (C0 : cx p s m args meth c y cc nL ret) : nst s := C0.2.2.2.2.2.2.2
theorem k_Vi (C0 : cx p s m args meth c y cc nL ret) (hW : wo G w s H locs) {y1 : MethodName} {cc1 : ByteArray} {n1 d1 k1 index n j k0 ci N : Nat} {ret1 : Option FieldType} {own C : String} {T : u_T} {fs : List Value} {As st0 : List Value} {post : Int → gW → Prop} (hM : mI l G y1 (wU y1 cc1 n1 ret1) (rmL d1 k1) (.ref (ad G j k0) :: As) w post)
    (h1 : Cond.methodLink own index y1 ∈ wsG) (h2 : Cond.instanceMethod y1 ∈ wsG) (h3 : Cond.selects C y1 y1 ∈ wsG) (h4 : Cond.initialized C ∈ wsG) (h5 : Cond.code y1 cc1 n1 ret1 ∈ wsG) (ho : own = y.cls)
    (hd : y1.cls = C ∧ y1.cls ≠ "java/lang/invoke/MethodHandle" ∧ y1.cls ≠ "java/lang/invoke/VarHandle" ∧ (parseMethodDescriptor y1.desc).map (fun d => d.parameters.length) = some n) (hR : d1 + 1 ≤ R.frames ∧ 8 + (n1 + 11) + k1 ≤ R.locals)
    (hj : j < 11 ∧ k0 < bs j) (he : ceX G j k0 ((w j).1 k0) ((w j).2 k0) = .inr (ci, fs)) (hcl : vwCl[ci]? = some (C, T, N)) (hn : As.length = n) (hsz : ls.size = nL) (hst : st0 = As.reverse ++ .ref (ad G j k0) :: rest) (hr : (rest.map fun v => v.category).sum ≤ 8) (hdg : decode cc pc = .ok (.invokevirtual index, 3))
    (kk : ∀ (z : Int) (w1 : gW) (H1 : Heap) (locs1 : List Loc), inR z → post z w1 → wo G w1 s H1 locs1 → W p l e R s m args below meth c H1 locs1 0 0 Q (F0 m (pc + 3) ls (.int (iI z) :: rest))) : W p l e R s m args below meth c H locs 0 0 Q (F0 m pc ls st0) := by
  subst ho
  have hWL := WL_get G w hj
  rw [he] at hWL
  have hr := va_runV (H := H) (locs := locs) (cells := 0) (slots := 0) (e := e) (meth := meth) (below := below) (R := R) (As := As) (rest := rest) (g := F0 m pc ls st0) C0.fix hM (cwV n C0.fix.2.2.2.2 (gV (fun _ h => wU_in h) h1 h2 h3 h4 h5) rfl rfl rfl hd hR) ⟨wpre_blind _, va_recv hW.2.1 hW.1 hcl hWL, fun U hU hWm => wpre_at _ hW C0.nst U hU hWm⟩ rfl hn hsz hst (lv_room hr) hdg ⟨Nat.zero_le _, Nat.zero_le _⟩
  refine va_calli hr hW.2.2 (fun q _ h => h) (fun q h => h) (fun r u t H1 locs1 ht hvm hw hB hz1 hk1 hS => ?_)
  obtain ⟨z, hz, rfl, hp⟩ := hw
  exact kk z u H1 locs1 hz hp ⟨by rw [← ht]; exact hB, hW.2.1, hS⟩
theorem k_Vv (C0 : cx p s m args meth c y cc nL ret) (hW : wo G w s H locs) {y1 : MethodName} {cc1 : ByteArray} {n1 d1 k1 index n j k0 ci N : Nat} {ret1 : Option FieldType} {own C : String} {T : u_T} {fs : List Value} {As st0 : List Value} {post : gW → Prop} (hM : mV l G y1 (wU y1 cc1 n1 ret1) (rmL d1 k1) (.ref (ad G j k0) :: As) w post)
    (h1 : Cond.methodLink own index y1 ∈ wsG) (h2 : Cond.instanceMethod y1 ∈ wsG) (h3 : Cond.selects C y1 y1 ∈ wsG) (h4 : Cond.initialized C ∈ wsG) (h5 : Cond.code y1 cc1 n1 ret1 ∈ wsG) (ho : own = y.cls)
    (hd : y1.cls = C ∧ y1.cls ≠ "java/lang/invoke/MethodHandle" ∧ y1.cls ≠ "java/lang/invoke/VarHandle" ∧ (parseMethodDescriptor y1.desc).map (fun d => d.parameters.length) = some n) (hR : d1 + 1 ≤ R.frames ∧ 8 + (n1 + 11) + k1 ≤ R.locals)
    (hj : j < 11 ∧ k0 < bs j) (he : ceX G j k0 ((w j).1 k0) ((w j).2 k0) = .inr (ci, fs)) (hcl : vwCl[ci]? = some (C, T, N)) (hn : As.length = n) (hsz : ls.size = nL) (hst : st0 = As.reverse ++ .ref (ad G j k0) :: rest) (hr : (rest.map fun v => v.category).sum ≤ 8) (hdg : decode cc pc = .ok (.invokevirtual index, 3))
    (kk : ∀ (w1 : gW) (H1 : Heap) (locs1 : List Loc), post w1 → wo G w1 s H1 locs1 → W p l e R s m args below meth c H1 locs1 0 0 Q (F0 m (pc + 3) ls rest)) : W p l e R s m args below meth c H locs 0 0 Q (F0 m pc ls st0) := by
  subst ho
  have hWL := WL_get G w hj
  rw [he] at hWL
  have hr := va_runV (H := H) (locs := locs) (cells := 0) (slots := 0) (e := e) (meth := meth) (below := below) (R := R) (As := As) (rest := rest) (g := F0 m pc ls st0) C0.fix hM (cwV n C0.fix.2.2.2.2 (gV (fun _ h => wU_in h) h1 h2 h3 h4 h5) rfl rfl rfl hd hR) ⟨wpre_blind _, va_recv hW.2.1 hW.1 hcl hWL, fun U hU hWm => wpre_at _ hW C0.nst U hU hWm⟩ rfl hn hsz hst (lv_room hr) hdg ⟨Nat.zero_le _, Nat.zero_le _⟩
  refine va_callv hr hW.2.2 (fun q _ h => h) (fun q h => h) (fun u t H1 locs1 ht hvm hp hB hz1 hk1 hS => ?_)
  exact kk u H1 locs1 hp ⟨by rw [← ht]; exact hB, hW.2.1, hS⟩
theorem k_Si (C0 : cx p s m args meth c y cc nL ret) (hW : wo G w s H locs) {y1 : MethodName} {cc1 : ByteArray} {n1 d1 k1 index n : Nat} {ret1 : Option FieldType} {own host : String} {As st0 : List Value} {post : Int → gW → Prop} (hM : mI l G y1 (wU y1 cc1 n1 ret1) (rmL d1 k1) As w post)
    (h1 : Cond.methodLink own index y1 ∈ wsG) (h2 : Cond.static y1 ∈ wsG) (h4 : Cond.initialized y1.cls ∈ wsG) (h5 : Cond.code y1 cc1 n1 ret1 ∈ wsG) (ho : own = y.cls)
    (hd : y1.cls ≠ "java/lang/invoke/MethodHandle" ∧ y1.cls ≠ "java/lang/invoke/VarHandle" ∧ (parseMethodDescriptor y1.desc).map (fun d => d.parameters.length) = some n) (hR : d1 + 1 ≤ R.frames ∧ 8 + (n1 + 11) + k1 ≤ R.locals)
    (hn : As.length = n) (hsz : ls.size = nL) (hst : st0 = As.reverse ++ rest) (hr : (rest.map fun v => v.category).sum ≤ 8) (hdg : decode cc pc = .ok (.invokestatic index, 3))
    (kk : ∀ (z : Int) (w1 : gW) (H1 : Heap) (locs1 : List Loc), inR z → post z w1 → wo G w1 s H1 locs1 → W p l e R s m args below meth c H1 locs1 0 0 Q (F0 m (pc + 3) ls (.int (iI z) :: rest))) : W p l e R s m args below meth c H locs 0 0 Q (F0 m pc ls st0) := by
  subst ho
  have hr := va_runS (H := H) (locs := locs) (cells := 0) (slots := 0) (e := e) (meth := meth) (below := below) (R := R) (As := As) (rest := rest) (g := F0 m pc ls st0) C0.fix hM (va_cwS n C0.fix.2.2.2.2 (gS (fun _ h => wU_in h) h1 h2 h4 h5) rfl rfl rfl hd hR) ⟨wpre_blind _, fun U hU hWm => wpre_at _ hW C0.nst U hU hWm⟩ rfl hn hsz hst (lv_room hr) hdg ⟨Nat.zero_le _, Nat.zero_le _⟩
  refine va_calli hr hW.2.2 (fun q _ h => h) (fun q h => h) (fun r u t H1 locs1 ht hvm hw hB hz1 hk1 hS => ?_)
  obtain ⟨z, hz, rfl, hp⟩ := hw
  exact kk z u H1 locs1 hz hp ⟨by rw [← ht]; exact hB, hW.2.1, hS⟩
theorem k_Sv (C0 : cx p s m args meth c y cc nL ret) (hW : wo G w s H locs) {y1 : MethodName} {cc1 : ByteArray} {n1 d1 k1 index n : Nat} {ret1 : Option FieldType} {own host : String} {As st0 : List Value} {post : gW → Prop} (hM : mV l G y1 (wU y1 cc1 n1 ret1) (rmL d1 k1) As w post)
    (h1 : Cond.methodLink own index y1 ∈ wsG) (h2 : Cond.static y1 ∈ wsG) (h4 : Cond.initialized y1.cls ∈ wsG) (h5 : Cond.code y1 cc1 n1 ret1 ∈ wsG) (ho : own = y.cls)
    (hd : y1.cls ≠ "java/lang/invoke/MethodHandle" ∧ y1.cls ≠ "java/lang/invoke/VarHandle" ∧ (parseMethodDescriptor y1.desc).map (fun d => d.parameters.length) = some n) (hR : d1 + 1 ≤ R.frames ∧ 8 + (n1 + 11) + k1 ≤ R.locals)
    (hn : As.length = n) (hsz : ls.size = nL) (hst : st0 = As.reverse ++ rest) (hr : (rest.map fun v => v.category).sum ≤ 8) (hdg : decode cc pc = .ok (.invokestatic index, 3))
    (kk : ∀ (w1 : gW) (H1 : Heap) (locs1 : List Loc), post w1 → wo G w1 s H1 locs1 → W p l e R s m args below meth c H1 locs1 0 0 Q (F0 m (pc + 3) ls rest)) : W p l e R s m args below meth c H locs 0 0 Q (F0 m pc ls st0) := by
  subst ho
  have hr := va_runS (H := H) (locs := locs) (cells := 0) (slots := 0) (e := e) (meth := meth) (below := below) (R := R) (As := As) (rest := rest) (g := F0 m pc ls st0) C0.fix hM (va_cwS n C0.fix.2.2.2.2 (gS (fun _ h => wU_in h) h1 h2 h4 h5) rfl rfl rfl hd hR) ⟨wpre_blind _, fun U hU hWm => wpre_at _ hW C0.nst U hU hWm⟩ rfl hn hsz hst (lv_room hr) hdg ⟨Nat.zero_le _, Nat.zero_le _⟩
  refine va_callv hr hW.2.2 (fun q _ h => h) (fun q h => h) (fun u t H1 locs1 ht hvm hp hB hz1 hk1 hS => ?_)
  exact kk u H1 locs1 hp ⟨by rw [← ht]; exact hB, hW.2.1, hS⟩
theorem k_Ni (C0 : cx p s m args meth c y cc nL ret) (hW : wo G w s H locs) {y1 : MethodName} {cc1 : ByteArray} {n1 d1 k1 index n : Nat} {ret1 : Option FieldType} {own host : String} {As st0 : List Value} {post : Int → gW → Prop} (hM : mI l G y1 (wU y1 cc1 n1 ret1) (rmL d1 k1) As w post)
    (h1 : va_Nw (.methodLinkNest y.cls index y1 host) s) (h2 : Cond.static y1 ∈ wsG) (h4 : Cond.initialized y1.cls ∈ wsG) (h5 : Cond.code y1 cc1 n1 ret1 ∈ wsG) 
    (hd : y1.cls ≠ "java/lang/invoke/MethodHandle" ∧ y1.cls ≠ "java/lang/invoke/VarHandle" ∧ (parseMethodDescriptor y1.desc).map (fun d => d.parameters.length) = some n) (hR : d1 + 1 ≤ R.frames ∧ 8 + (n1 + 11) + k1 ≤ R.locals)
    (hn : As.length = n) (hsz : ls.size = nL) (hst : st0 = As.reverse ++ rest) (hr : (rest.map fun v => v.category).sum ≤ 8) (hdg : decode cc pc = .ok (.invokestatic index, 3))
    (kk : ∀ (z : Int) (w1 : gW) (H1 : Heap) (locs1 : List Loc), inR z → post z w1 → wo G w1 s H1 locs1 → W p l e R s m args below meth c H1 locs1 0 0 Q (F0 m (pc + 3) ls (.int (iI z) :: rest))) : W p l e R s m args below meth c H locs 0 0 Q (F0 m pc ls st0) := by
  have hr := va_runSN (H := H) (locs := locs) (cells := 0) (slots := 0) (e := e) (meth := meth) (below := below) (R := R) (As := As) (rest := rest) (g := F0 m pc ls st0) C0.fix hM ⟨va_cnB n C0.fix.2.2.2.2 (gU (fun _ h => wU_in h) h5) rfl rfl rfl h1 (C0.w h4) hd hR, C0.w h2, trivial⟩ ⟨wpre_blind _, fun U hU hWm => wpre_at _ hW C0.nst U hU hWm⟩ rfl hn hsz hst (lv_room hr) hdg ⟨Nat.zero_le _, Nat.zero_le _⟩
  refine va_calli hr hW.2.2 (fun q _ h => h) (fun q h => h) (fun r u t H1 locs1 ht hvm hw hB hz1 hk1 hS => ?_)
  obtain ⟨z, hz, rfl, hp⟩ := hw
  exact kk z u H1 locs1 hz hp ⟨by rw [← ht]; exact hB, hW.2.1, hS⟩
theorem k_Nv (C0 : cx p s m args meth c y cc nL ret) (hW : wo G w s H locs) {y1 : MethodName} {cc1 : ByteArray} {n1 d1 k1 index n : Nat} {ret1 : Option FieldType} {own host : String} {As st0 : List Value} {post : gW → Prop} (hM : mV l G y1 (wU y1 cc1 n1 ret1) (rmL d1 k1) As w post)
    (h1 : va_Nw (.methodLinkNest y.cls index y1 host) s) (h2 : Cond.static y1 ∈ wsG) (h4 : Cond.initialized y1.cls ∈ wsG) (h5 : Cond.code y1 cc1 n1 ret1 ∈ wsG) 
    (hd : y1.cls ≠ "java/lang/invoke/MethodHandle" ∧ y1.cls ≠ "java/lang/invoke/VarHandle" ∧ (parseMethodDescriptor y1.desc).map (fun d => d.parameters.length) = some n) (hR : d1 + 1 ≤ R.frames ∧ 8 + (n1 + 11) + k1 ≤ R.locals)
    (hn : As.length = n) (hsz : ls.size = nL) (hst : st0 = As.reverse ++ rest) (hr : (rest.map fun v => v.category).sum ≤ 8) (hdg : decode cc pc = .ok (.invokestatic index, 3))
    (kk : ∀ (w1 : gW) (H1 : Heap) (locs1 : List Loc), post w1 → wo G w1 s H1 locs1 → W p l e R s m args below meth c H1 locs1 0 0 Q (F0 m (pc + 3) ls rest)) : W p l e R s m args below meth c H locs 0 0 Q (F0 m pc ls st0) := by
  have hr := va_runSN (H := H) (locs := locs) (cells := 0) (slots := 0) (e := e) (meth := meth) (below := below) (R := R) (As := As) (rest := rest) (g := F0 m pc ls st0) C0.fix hM ⟨va_cnB n C0.fix.2.2.2.2 (gU (fun _ h => wU_in h) h5) rfl rfl rfl h1 (C0.w h4) hd hR, C0.w h2, trivial⟩ ⟨wpre_blind _, fun U hU hWm => wpre_at _ hW C0.nst U hU hWm⟩ rfl hn hsz hst (lv_room hr) hdg ⟨Nat.zero_le _, Nat.zero_le _⟩
  refine va_callv hr hW.2.2 (fun q _ h => h) (fun q h => h) (fun u t H1 locs1 ht hvm hp hB hz1 hk1 hS => ?_)
  exact kk u H1 locs1 hp ⟨by rw [← ht]; exact hB, hW.2.1, hS⟩
theorem r_max (C0 : cx p s m args meth c y cc nL ret) {own : String} {index : Nat} {x1 x2 : Int} (g1 : inR x1) (g2 : inR x2) (hlink : Cond.methodLink own index Lib.Math.max.name ∈ wsG) (hstat : Cond.static Lib.Math.max.name ∈ wsG) (hini : Cond.initialized "java/lang/Math" ∈ wsG) (hcode : Cond.code Lib.Math.max.name Lib.Math.max.code 2 (some .int) ∈ wsG) (ho : own = y.cls) (hsz : ls.size = nL) (hframes : 1 ≤ R.frames) (hlocals : (rest.map fun v => v.category).sum + 13 ≤ R.locals) (hdg : decode cc pc = .ok (.invokestatic index, 3))
    (kk : W p l e R s m args below meth c H locs 0 0 Q (F0 m (pc + 3) ls (.int (iI (max x1 x2)) :: rest))) : W p l e R s m args below meth c H locs 0 0 Q (F0 m pc ls (.int (iI x2) :: .int (iI x1) :: rest)) := by
  subst ho
  refine va_mmax C0.hx C0.hb (C0.ml.trans hsz.symm) C0.fix.2.2.2.1 (C0.w hlink) (C0.w hstat) (C0.w hini) (C0.w hcode) hframes hlocals (Nat.zero_le _) (Nat.zero_le _) hdg ?_
  have q : (if iI x1 < iI x2 then iI x2 else iI x1) = iI (max x1 x2) := by
    by_cases h : x1 < x2
    · rw [if_pos ((iI_lt g1 g2).mpr h), show max x1 x2 = x2 by omega]
    · rw [if_neg (fun t => h ((iI_lt g1 g2).mp t)), show max x1 x2 = x1 by omega]
  rw [q]
  exact kk
theorem r_min (C0 : cx p s m args meth c y cc nL ret) {own : String} {index : Nat} {x1 x2 : Int} (g1 : inR x1) (g2 : inR x2) (hlink : Cond.methodLink own index Lib.Math.min.name ∈ wsG) (hstat : Cond.static Lib.Math.min.name ∈ wsG) (hini : Cond.initialized "java/lang/Math" ∈ wsG) (hcode : Cond.code Lib.Math.min.name Lib.Math.min.code 2 (some .int) ∈ wsG) (ho : own = y.cls) (hsz : ls.size = nL) (hframes : 1 ≤ R.frames) (hlocals : (rest.map fun v => v.category).sum + 13 ≤ R.locals) (hdg : decode cc pc = .ok (.invokestatic index, 3))
    (kk : W p l e R s m args below meth c H locs 0 0 Q (F0 m (pc + 3) ls (.int (iI (min x1 x2)) :: rest))) : W p l e R s m args below meth c H locs 0 0 Q (F0 m pc ls (.int (iI x2) :: .int (iI x1) :: rest)) := by
  subst ho
  refine va_mmin C0.hx C0.hb (C0.ml.trans hsz.symm) C0.fix.2.2.2.1 (C0.w hlink) (C0.w hstat) (C0.w hini) (C0.w hcode) hframes hlocals (Nat.zero_le _) (Nat.zero_le _) hdg ?_
  have q : (if iI x2 < iI x1 then iI x2 else iI x1) = iI (min x1 x2) := by
    by_cases h : x2 < x1
    · rw [if_pos ((iI_lt g2 g1).mpr h), show min x1 x2 = x2 by omega]
    · rw [if_neg (fun t => h ((iI_lt g2 g1).mp t)), show min x1 x2 = x1 by omega]
  rw [q]
  exact kk
theorem va_P_fun {D : va_G} {cl : List vw_C} {ws : va_W} {p0 a n : Nat} {c0 : ClassId} {f g : Nat → Int32} {H0 : Heap} (hP : va_P D cl (ws.set p0 (a, .inl (c0, n, .inl f))) H0) (hfg : ∀ i : Nat, i < n → f i = g i) : va_P D cl (ws.set p0 (a, .inl (c0, n, .inl g))) H0 := by
  have hc : vp_cell c0 (n, .inl f) = vp_cell c0 (n, .inl g) := by
    rw [vp_cell_i, vp_cell_i]
    unfold arrV
    congr 2
    funext j
    exact congrArg Value.int (hfg j.val j.isLt)
  intro k q hk
  by_cases hkp : p0 = k
  · subst hkp
    by_cases hl : p0 < ws.length
    · have h0 := hP p0 (a, .inl (c0, n, .inl f)) (List.getElem?_set_self hl)
      rw [List.getElem?_set_self hl] at hk
      cases hk
      show H0[a]? = some (vp_cell c0 (n, .inl g))
      rw [← hc]
      exact h0
    · rw [List.getElem?_eq_none (by rw [List.length_set]; omega)] at hk
      cases hk
  · rw [List.getElem?_set_ne hkp] at hk
    exact hP k q (by rw [List.getElem?_set_ne hkp]; exact hk)
theorem r_alen (C0 : cx p s m args meth c y cc nL ret) (hW : wo G w s H locs) {j k0 n : Nat} (hj : j < 11 ∧ k0 < bs j) (hn : n < 2147483648) (he : ceX G j k0 ((w j).1 k0) ((w j).2 k0) = cI G n ((w j).1 k0) ∨ ceX G j k0 ((w j).1 k0) ((w j).2 k0) = cZ G n ((w j).1 k0)) (hdg : decode cc pc = .ok (.arraylength, 1))
    (kk : W p l e R s m args below meth c H locs 0 0 Q (F0 m (pc + 1) ls (.int (iI (n : Int)) :: rest))) : W p l e R s m args below meth c H locs 0 0 Q (F0 m pc ls (.ref (ad G j k0) :: rest)) := by
  rcases he with he | he
  · exact va_alen (ws := WL G w) C0.hx C0.hb hW.2.1 hW.1 (bo j + k0) 0 (cA := G.2.1.1) (x := (n, .inl (fun i : Nat => (w j).1 k0 (i : Int)))) ((WL_get G w hj).trans (by rw [he]; rfl)) (ty := .int) rfl (iI_nI n) hdg kk
  · exact va_alen (ws := WL G w) C0.hx C0.hb hW.2.1 hW.1 (bo j + k0) 1 (cA := G.2.1.2.1) (x := (n, .inl (fun i : Nat => (w j).1 k0 (i : Int)))) ((WL_get G w hj).trans (by rw [he]; rfl)) (ty := .boolean) rfl (iI_nI n) hdg kk
/-- System.arraycopy of a whole row onto another: the whole function -/
theorem r_copyI (C0 : cx p s m args meth c y cc nL ret) (hW : wo G w s H locs) {own : String} {index j1 k1 j2 k2 n : Nat} (hj1 : j1 < 11 ∧ k1 < bs j1) (hj2 : j2 < 11 ∧ k2 < bs j2) (hn : n < 2147483648) (he1 : ceX G j1 k1 ((w j1).1 k1) ((w j1).2 k1) = cI G n ((w j1).1 k1)) (he2 : ∀ A : Int → Int32, ceX G j2 k2 A ((w j2).2 k2) = cI G n A) (hlink : Cond.methodLink own index arraycopyName ∈ wsG) (hnat : Cond.native arraycopyName ∈ wsG) (hstat : Cond.static arraycopyName ∈ wsG) (hini : Cond.initialized "java/lang/System" ∈ wsG) (ho : own = y.cls) (hsz : ls.size = nL) (hframes : 1 ≤ R.frames) (hlocals : (rest.map fun v => v.category).sum + (nativeFrameWords "java/lang/System" "arraycopy" 5 + 11) ≤ R.locals) (hdg : decode cc pc = .ok (.invokestatic index, 3))
    (kk : ∀ (H1 : Heap) (locs1 : List Loc), wo G (up w j2 (sF (w j2) k2 ((w j1).1 k1))) s H1 locs1 → W p l e R s m args below meth c H1 locs1 0 0 Q (F0 m (pc + 3) ls rest)) : W p l e R s m args below meth c H locs 0 0 Q (F0 m pc ls (.int (iI (n : Int)) :: .int (iI 0) :: .ref (ad G j2 k2) :: .int (iI 0) :: .ref (ad G j1 k1) :: rest)) := by
  subst ho
  have z0 : (iI 0).toNatClampNeg = 0 := iI_clamp inR_0
  have zn : (iI (n : Int)).toNatClampNeg = n := by rw [iI_clamp ⟨by omega, by omega⟩]; omega
  refine va_copyi C0.hx C0.hb (C0.ml.trans hsz.symm) C0.fix.2.2.2.1 (C0.w hlink) (C0.w hnat) (C0.w hstat) (C0.w hini) hW.2.1 hW.1 (WL_D G w) hW.2.2 (bo j1 + k1) (bo j2 + k2) 0 0 (c0 := G.2.1.1) (c1 := G.2.1.1) (n0 := n) (n1 := n) (f := fun i : Nat => (w j1).1 k1 (i : Int)) (g := fun i : Nat => (w j2).1 k2 (i : Int)) (ty := .int) ((WL_get G w hj1).trans (by rw [he1]; rfl)) ((WL_get G w hj2).trans (by rw [he2]; rfl)) rfl rfl rfl ?_ ?_ ?_ ?_ ?_ ?_ hframes hlocals hdg (fun H1 locs1 hP _ hS => kk H1 locs1 ?_)
  · rw [iI_zero, iI_lt inR_0 inR_0]; omega
  · rw [iI_zero, iI_lt inR_0 inR_0]; omega
  · rw [iI_zero, iI_lt ⟨by omega, by omega⟩ inR_0]; omega
  · rw [z0, zn]; omega
  · rw [z0, zn]; omega
  · intro i hi; rfl
  · have hP2 := va_P_fun (g := fun i : Nat => (w j1).1 k1 (i : Int)) hP (fun i hi => by
      simp only [va_cpy, z0, zn]
      rw [if_pos ⟨by omega, by omega⟩, show 0 + (i - 0) = i by omega])
    have h := wo_set hj2 (A := (w j1).1 k1) (F := (w j2).2 k2) hW.2.1 (he2 _) hP2 hS
    rwa [sC_F] at h
theorem r_copyZ (C0 : cx p s m args meth c y cc nL ret) (hW : wo G w s H locs) {own : String} {index j1 k1 j2 k2 n : Nat} (hj1 : j1 < 11 ∧ k1 < bs j1) (hj2 : j2 < 11 ∧ k2 < bs j2) (hn : n < 2147483648) (he1 : ceX G j1 k1 ((w j1).1 k1) ((w j1).2 k1) = cZ G n ((w j1).1 k1)) (he2 : ∀ A : Int → Int32, ceX G j2 k2 A ((w j2).2 k2) = cZ G n A) (hz : ∀ i : Int, 0 ≤ i → i < n → (w j1).1 k1 i = 0 ∨ (w j1).1 k1 i = 1) (hlink : Cond.methodLink own index arraycopyName ∈ wsG) (hnat : Cond.native arraycopyName ∈ wsG) (hstat : Cond.static arraycopyName ∈ wsG) (hini : Cond.initialized "java/lang/System" ∈ wsG) (ho : own = y.cls) (hsz : ls.size = nL) (hframes : 1 ≤ R.frames) (hlocals : (rest.map fun v => v.category).sum + (nativeFrameWords "java/lang/System" "arraycopy" 5 + 11) ≤ R.locals) (hdg : decode cc pc = .ok (.invokestatic index, 3))
    (kk : ∀ (H1 : Heap) (locs1 : List Loc), wo G (up w j2 (sF (w j2) k2 ((w j1).1 k1))) s H1 locs1 → W p l e R s m args below meth c H1 locs1 0 0 Q (F0 m (pc + 3) ls rest)) : W p l e R s m args below meth c H locs 0 0 Q (F0 m pc ls (.int (iI (n : Int)) :: .int (iI 0) :: .ref (ad G j2 k2) :: .int (iI 0) :: .ref (ad G j1 k1) :: rest)) := by
  subst ho
  have z0 : (iI 0).toNatClampNeg = 0 := iI_clamp inR_0
  have zn : (iI (n : Int)).toNatClampNeg = n := by rw [iI_clamp ⟨by omega, by omega⟩]; omega
  refine va_copyi C0.hx C0.hb (C0.ml.trans hsz.symm) C0.fix.2.2.2.1 (C0.w hlink) (C0.w hnat) (C0.w hstat) (C0.w hini) hW.2.1 hW.1 (WL_D G w) hW.2.2 (bo j1 + k1) (bo j2 + k2) 1 1 (c0 := G.2.1.2.1) (c1 := G.2.1.2.1) (n0 := n) (n1 := n) (f := fun i : Nat => (w j1).1 k1 (i : Int)) (g := fun i : Nat => (w j2).1 k2 (i : Int)) (ty := .boolean) ((WL_get G w hj1).trans (by rw [he1]; rfl)) ((WL_get G w hj2).trans (by rw [he2]; rfl)) rfl rfl rfl ?_ ?_ ?_ ?_ ?_ ?_ hframes hlocals hdg (fun H1 locs1 hP _ hS => kk H1 locs1 ?_)
  · rw [iI_zero, iI_lt inR_0 inR_0]; omega
  · rw [iI_zero, iI_lt inR_0 inR_0]; omega
  · rw [iI_zero, iI_lt ⟨by omega, by omega⟩ inR_0]; omega
  · rw [z0, zn]; omega
  · rw [z0, zn]; omega
  · intro i hi
    rw [z0, zn] at *
    have hq := hz ((0 + i : Nat) : Int) (by omega) (by omega)
    show (((w j1).1 k1 ((0 + i : Nat) : Int)) == 0 || ((w j1).1 k1 ((0 + i : Nat) : Int)) == 1) = true
    rcases hq with hq | hq <;> rw [hq] <;> rfl
  · have hP2 := va_P_fun (g := fun i : Nat => (w j1).1 k1 (i : Int)) hP (fun i hi => by
      simp only [va_cpy, z0, zn]
      rw [if_pos ⟨by omega, by omega⟩, show 0 + (i - 0) = i by omega])
    have h := wo_set hj2 (A := (w j1).1 k1) (F := (w j2).2 k2) hW.2.1 (he2 _) hP2 hS
    rwa [sC_F] at h
end RC
end
section
/-! numbers that a block holds, read as whole numbers -/
def gA (M : gM) (c : Nat) (x : Int) : Int := (M.1 c x).toInt
def gN (M : gM) (c f : Nat) : Int := (M.2 c f).toInt
theorem gA_r (M : gM) (c : Nat) (x : Int) : inR (gA M c x) := inR_o _
theorem gN_r (M : gM) (c f : Nat) : inR (gN M c f) := inR_o _
theorem gA_i (M : gM) (c : Nat) (x : Int) : iI (gA M c x) = M.1 c x := iI_o _
theorem gN_i (M : gM) (c f : Nat) : iI (gN M c f) = M.2 c f := iI_o _
theorem up_s (w : gW) (j : Nat) (M : gM) : up w j M j = M := if_pos rfl
theorem up_n (w : gW) {j j' : Nat} (M : gM) (h : ¬ j' = j) : up w j M j' = w j' := if_neg h
theorem up_up (w : gW) (j : Nat) (M N : gM) : up (up w j M) j N = up w j N := by
  funext j'
  simp only [up]
  split <;> rfl
theorem up_id (w : gW) (j : Nat) : up w j (w j) = w := by
  funext j'
  simp only [up]
  split
  · next h => rw [h]
  · rfl
theorem gA_sF (M : gM) (c c' : Nat) (A : Int → Int32) (x : Int) : gA (sF M c A) c' x = if c' = c then (A x).toInt else gA M c' x := by
  simp only [gA, sF]
  split <;> rfl
theorem gA_sA (M : gM) (c c' : Nat) (x x' : Int) (v : Int32) : gA (sA M c x v) c' x' = if c' = c ∧ x' = x then v.toInt else gA M c' x' := by
  unfold sA
  rw [gA_sF]
  by_cases h : c' = c
  · subst h
    by_cases h2 : x' = x
    · simp [h2]
    · simp [h2, gA]
  · simp [h]
theorem gN_sF (M : gM) (c c' : Nat) (A : Int → Int32) (f : Nat) : gN (sF M c A) c' f = gN M c' f := rfl
theorem gN_sA (M : gM) (c c' : Nat) (x : Int) (v : Int32) (f : Nat) : gN (sA M c x v) c' f = gN M c' f := rfl
theorem gA_sS (M : gM) (c f c' : Nat) (v : Int32) (x : Int) : gA (sS M c f v) c' x = gA M c' x := rfl
theorem gN_sS (M : gM) (c f c' f' : Nat) (v : Int32) : gN (sS M c f v) c' f' = if c' = c ∧ f' = f then v.toInt else gN M c' f' := by
  simp only [gN, sS]
  split <;> rfl
theorem gv_i {z : Int} (h1 : -2147483648 ≤ z) (h2 : z < 2147483648) : (iI z).toInt = z := iI_t ⟨h1, h2⟩
theorem iI_fitz {z : Int} (hz : z = 0 ∨ z = 1) : fits .boolean (.int (iI z)) = true := by
  rcases hz with rfl | rfl <;> rfl
theorem iI_narz {z : Int} (hz : z = 0 ∨ z = 1) : vp_nar .boolean (iI z) = iI z := by
  rcases hz with rfl | rfl <;> rfl
/-- how many of the places below n have it -/
noncomputable def cnt (p : Int → Prop) : Nat → Int
  | 0 => 0
  | n + 1 => cnt p n + @ite _ (p n) (Classical.propDecidable _) 1 0
noncomputable def cntI (p : Int → Prop) (x : Int) : Int := cnt p x.toNat
theorem cntI_0 (p : Int → Prop) : cntI p 0 = 0 := rfl
theorem toNat_s {x : Int} (h : 0 ≤ x) : (x + 1).toNat = x.toNat + 1 := by omega
theorem cntI_t {p : Int → Prop} {x : Int} (h : 0 ≤ x) (hp : p x) : cntI p (x + 1) = cntI p x + 1 := by
  unfold cntI
  rw [toNat_s h]
  show cnt p x.toNat + _ = _
  rw [@if_pos _ (Classical.propDecidable _) (by rw [Int.toNat_of_nonneg h]; exact hp)]
theorem cntI_f {p : Int → Prop} {x : Int} (h : 0 ≤ x) (hp : ¬ p x) : cntI p (x + 1) = cntI p x := by
  unfold cntI
  rw [toNat_s h]
  show cnt p x.toNat + _ = _
  rw [@if_neg _ (Classical.propDecidable _) (by rw [Int.toNat_of_nonneg h]; exact hp), Int.add_zero]
theorem cnt_le (p : Int → Prop) : ∀ n : Nat, 0 ≤ cnt p n ∧ cnt p n ≤ n
  | 0 => ⟨Int.le_refl _, Int.le_refl _⟩
  | n + 1 => by
    have h := cnt_le p n
    show 0 ≤ cnt p n + _ ∧ cnt p n + _ ≤ _
    by_cases hp : p n
    · rw [@if_pos _ (Classical.propDecidable _) hp]; omega
    · rw [@if_neg _ (Classical.propDecidable _) hp]; omega
theorem cntI_le (p : Int → Prop) {x : Int} (h : 0 ≤ x) : 0 ≤ cntI p x ∧ cntI p x ≤ x := by
  have := cnt_le p x.toNat
  unfold cntI
  omega
section RT
variable {p : Program} {l : Launch} {e : Env} {R : Room} {s : State} {m : MethodId} {args : Array Value} {below : List Frame} {meth : Method} {c : Code} {H : Heap} {locs : List Loc} {cells slots : Nat} {Q : State → Prop}
variable {cc : ByteArray} {pc : Nat} {ls : Array Slot} {rest : List Value}
theorem r_tabOut (hx : p.tables.exec = Jvm.exec) (hb : c.code = cc) {dflt lo hi : Int} {offs : Array Int} {len : Nat} {x : Int} {tgt : Nat} (rx : inR x) (hdg : decode cc pc = .ok (.tableswitch dflt lo hi offs, len)) (h : x < lo ∨ hi < x) (ht : (pc : Int) + dflt = (tgt : Int)) (k : W p l e R s m args below meth c H locs cells slots Q (F0 m tgt ls rest)) : W p l e R s m args below meth c H locs cells slots Q (F0 m pc ls (.int (iI x) :: rest)) := lv_tableOut hx hb hdg (by rw [iI_t rx]; exact h) ht k
theorem r_tabIn (hx : p.tables.exec = Jvm.exec) (hb : c.code = cc) {dflt lo hi : Int} {offs : Array Int} {len : Nat} {x : Int} {off : Int} {tgt : Nat} (rx : inR x) (hdg : decode cc pc = .ok (.tableswitch dflt lo hi offs, len)) (h1 : ¬ x < lo) (h2 : ¬ hi < x) (ho : offs[(x - lo).toNat]? = some off) (ht : (pc : Int) + off = (tgt : Int)) (k : W p l e R s m args below meth c H locs cells slots Q (F0 m tgt ls rest)) : W p l e R s m args below meth c H locs cells slots Q (F0 m pc ls (.int (iI x) :: rest)) := lv_tableIn hx hb hdg (by rw [iI_t rx]; exact h1) (by rw [iI_t rx]; exact h2) (by rw [iI_t rx]; exact ho) ht k
end RT
/-! a state of the class: what its rows are -/
def lyi (M : gM) (r : Int) : Prop := 0 ≤ r ∧ r < gN M 7 6 ∧ ¬ gA M 13 r = 0
def pLy (M : gM) (r : Int) : Prop := ¬ gA M 13 r = 0
def pSt (M : gM) (r : Int) : Prop := lyi M r ∧ ¬ gA M 12 r = 0
def pDr (M : gM) (r : Int) : Prop := lyi M r ∧ gA M 10 r ≤ 20
def pOf (M : gM) (c r : Int) : Prop := lyi M r ∧ gA M 8 r = c
def pSO (M : gM) (c r : Int) : Prop := (lyi M r ∧ ¬ gA M 12 r = 0) ∧ gA M 8 r = c
/-- what every state keeps to -/
def wf (M : gM) : Prop := (0 ≤ gN M 7 6 ∧ gN M 7 6 ≤ 120) ∧ (0 ≤ gN M 14 4 ∧ gN M 14 4 ≤ gN M 14 5 ∧ gN M 14 5 ≤ 120) ∧ (∀ r : Int, 0 ≤ gA M 10 r ∧ gA M 10 r ≤ 60) ∧ (∀ r : Int, M.1 11 r = 0 ∨ M.1 11 r = 1) ∧ (∀ r : Int, M.1 12 r = 0 ∨ M.1 12 r = 1) ∧ (∀ r : Int, M.1 13 r = 0 ∨ M.1 13 r = 1) ∧ (0 ≤ gN M 0 10 ∧ gN M 0 10 ≤ 9) ∧ (1 ≤ gN M 0 8 ∧ gN M 0 8 ≤ 6) ∧ gN M 14 5 ≤ gN M 7 6
/-- before another row of the same commoner -/
def pBf (M : gM) (r co o : Int) : Prop := pOf M co o ∧ (gA M 10 o < gA M 10 r ∨ (gA M 10 o = gA M 10 r ∧ o < r))
def pDO (M : gM) (co k r : Int) : Prop := pOf M co r ∧ cntI (pBf M r co) (gN M 7 6) = k
/-- a stacked row of a commoner; the driest of those below n -/
def pQ (M : gM) (co r : Int) : Prop := ¬ gA M 13 r = 0 ∧ ¬ gA M 12 r = 0 ∧ gA M 8 r = co
noncomputable def bst (M : gM) (co : Int) : Nat → Int
  | 0 => -5
  | n + 1 => @ite _ (pQ M co n ∧ (bst M co n = -5 ∨ gA M 10 n < gA M 10 (bst M co n))) (Classical.propDecidable _) (n : Int) (bst M co n)
theorem bst_s (M : gM) (co : Int) (n : Nat) : bst M co (n + 1) = @ite _ (pQ M co n ∧ (bst M co n = -5 ∨ gA M 10 n < gA M 10 (bst M co n))) (Classical.propDecidable _) (n : Int) (bst M co n) := rfl
noncomputable def bstI (M : gM) (co x : Int) : Int := bst M co x.toNat
theorem bstI_0 (M : gM) (co : Int) : bstI M co 0 = -5 := rfl
theorem bstI_t {M : gM} {co x : Int} (h : 0 ≤ x) (hq : pQ M co x) (hd : bstI M co x = -5 ∨ gA M 10 x < gA M 10 (bstI M co x)) : bstI M co (x + 1) = x := by
  unfold bstI at *
  rw [toNat_s h, bst_s, @if_pos _ (Classical.propDecidable _) (by rw [Int.toNat_of_nonneg h]; exact ⟨hq, hd⟩), Int.toNat_of_nonneg h]
theorem bstI_f {M : gM} {co x : Int} (h : 0 ≤ x) (hq : ¬ (pQ M co x ∧ (bstI M co x = -5 ∨ gA M 10 x < gA M 10 (bstI M co x)))) : bstI M co (x + 1) = bstI M co x := by
  unfold bstI at *
  rw [toNat_s h, bst_s, @if_neg _ (Classical.propDecidable _) (by rw [Int.toNat_of_nonneg h]; exact hq)]
theorem bst_le (M : gM) (co : Int) : ∀ n : Nat, bst M co n = -5 ∨ (0 ≤ bst M co n ∧ bst M co n < n ∧ pQ M co (bst M co n))
  | 0 => Or.inl rfl
  | n + 1 => by
    have h := bst_le M co n
    rw [bst_s]
    by_cases hq : pQ M co n ∧ (bst M co n = -5 ∨ gA M 10 n < gA M 10 (bst M co n))
    · rw [@if_pos _ (Classical.propDecidable _) hq]; exact Or.inr ⟨by omega, by omega, hq.1⟩
    · rw [@if_neg _ (Classical.propDecidable _) hq]
      rcases h with h | ⟨h1, h2, h3⟩
      · exact Or.inl h
      · exact Or.inr ⟨h1, by omega, h3⟩
theorem bstI_le (M : gM) (co : Int) {x : Int} (h : 0 ≤ x) : bstI M co x = -5 ∨ (0 ≤ bstI M co x ∧ bstI M co x < x ∧ pQ M co (bstI M co x)) := by
  have := bst_le M co x.toNat
  unfold bstI
  rcases this with q | ⟨q1, q2, q3⟩
  · exact Or.inl q
  · exact Or.inr ⟨q1, by omega, q3⟩
/-- how a day changes the wetness -/
def chg (wt t : Int) : Int := if wt = 0 then (if t = 0 then -6 else -8) else if wt = 1 then (if t = 0 then -3 else -5) else 4
theorem chg_le (wt t : Int) : -8 ≤ chg wt t ∧ chg wt t ≤ 4 := by
  unfold chg
  repeat' split
  all_goals omega
def wetF (M : gM) (wt n : Int) : Int → Int32 := fun r => if 0 ≤ r ∧ r < n ∧ ¬ gA M 13 r = 0 ∧ gA M 12 r = 0 then iI (max 0 (min 60 (gA M 10 r + chg wt (gA M 11 r)))) else M.1 10 r
theorem sF_sF (M : gM) (c : Nat) (A B : Int → Int32) : sF (sF M c A) c B = sF M c B := by
  refine Prod.ext ?_ rfl
  funext c'
  simp only [sF]
  split <;> rfl
theorem sA_sF (M : gM) (c : Nat) (A : Int → Int32) (x : Int) (v : Int32) : sA (sF M c A) c x v = sF M c (fun i => if i = x then v else A i) := by
  unfold sA
  rw [sF_sF]
  simp [sF]
theorem sF_id (M : gM) (c : Nat) : sF M c (M.1 c) = M := by
  refine Prod.ext ?_ rfl
  funext c'
  simp only [sF]
  split
  · next h => rw [h]
  · rfl
theorem wetF_0 (M : gM) (wt : Int) : wetF M wt 0 = M.1 10 := by
  funext r
  unfold wetF
  rw [if_neg (by omega)]
theorem wetF_t {M : gM} {wt x : Int} (h : 0 ≤ x) (h1 : ¬ gA M 13 x = 0) (h2 : gA M 12 x = 0) : wetF M wt (x + 1) = fun i => if i = x then iI (max 0 (min 60 (gA M 10 x + chg wt (gA M 11 x)))) else wetF M wt x i := by
  funext r
  unfold wetF
  by_cases hr : r = x
  · subst hr
    rw [if_pos ⟨h, by omega, h1, h2⟩, if_pos rfl]
  · rw [if_neg hr]
    by_cases hq : 0 ≤ r ∧ r < x ∧ ¬ gA M 13 r = 0 ∧ gA M 12 r = 0
    · rw [if_pos hq, if_pos ⟨hq.1, by omega, hq.2.2⟩]
    · rw [if_neg hq, if_neg (fun z => hq ⟨z.1, by omega, z.2.2⟩)]
theorem wetF_f {M : gM} {wt x : Int} (h1 : ¬ (¬ gA M 13 x = 0 ∧ gA M 12 x = 0)) : wetF M wt (x + 1) = wetF M wt x := by
  funext r
  unfold wetF
  by_cases hr : r = x
  · subst hr
    rw [if_neg (fun z => h1 z.2.2), if_neg (fun z => h1 z.2.2)]
  · by_cases hq : 0 ≤ r ∧ r < x ∧ ¬ gA M 13 r = 0 ∧ gA M 12 r = 0
    · rw [if_pos hq, if_pos ⟨hq.1, by omega, hq.2.2⟩]
    · rw [if_neg hq, if_neg (fun z => hq ⟨z.1, by omega, z.2.2⟩)]
theorem gA_wet (M : gM) (wt n x : Int) (h : n ≤ x) : gA (sF M 10 (wetF M wt n)) 10 x = gA M 10 x := by
  rw [gA_sF, if_pos rfl]
  unfold wetF
  rw [if_neg (by omega)]
  rfl
/-- places below n are emptied -/
def zeF (M : gM) (c : Nat) (n : Int) : Int → Int32 := fun r => if 0 ≤ r ∧ r < n then iI 0 else M.1 c r
theorem zeF_0 (M : gM) (c : Nat) : zeF M c 0 = M.1 c := by
  funext r
  unfold zeF
  rw [if_neg (by omega)]
theorem zeF_s (M : gM) (c : Nat) {x : Int} (h : 0 ≤ x) : zeF M c (x + 1) = fun i => if i = x then iI 0 else zeF M c x i := by
  funext r
  unfold zeF
  by_cases hr : r = x
  · subst hr
    rw [if_pos ⟨h, by omega⟩, if_pos rfl]
  · rw [if_neg hr]
    by_cases hq : 0 ≤ r ∧ r < x
    · rw [if_pos hq, if_pos ⟨hq.1, by omega⟩]
    · rw [if_neg hq, if_neg (fun z => hq ⟨z.1, by omega⟩)]
/-- a fresh row -/
def layM (M : gM) (co pl : Int) : gM := sS (sA (sA (sA (sA (sA (sA M 8 (gN M 7 6) (iI co)) 9 (gN M 7 6) (iI pl)) 10 (gN M 7 6) (iI 50)) 11 (gN M 7 6) (iI 0)) 12 (gN M 7 6) (iI 0)) 13 (gN M 7 6) (iI 1)) 7 6 (iI (gN M 7 6 + 1))
def pDi (M : gM) (co d : Int) : Prop := gA M 15 d = co ∨ gA M 16 d = co
def opnM (M : gM) (co wr ro pl : Int) : gM := sS (sA (sA (sA (sA M 15 (gN M 14 5) (iI co)) 16 (gN M 14 5) (iI wr)) 17 (gN M 14 5) (iI ro)) 18 (gN M 14 5) (iI pl)) 14 5 (iI (gN M 14 5 + 1))
theorem wetF_x (M : gM) (wt n : Int) : wetF M wt n n = M.1 10 n := by
  unfold wetF
  rw [if_neg (by omega)]
theorem gA_wx (M : gM) (wt n : Int) : (wetF M wt n n).toInt = gA M 10 n := by rw [wetF_x]; rfl
def rowC (M N : gM) : gM := sS (sF (sF (sF (sF (sF (sF M 8 (N.1 8)) 9 (N.1 9)) 10 (N.1 10)) 11 (N.1 11)) 12 (N.1 12)) 13 (N.1 13)) 7 6 (N.2 7 6)
def disC (M N : gM) : gM := sS (sS (sF (sF (sF (sF M 15 (N.1 15)) 16 (N.1 16)) 17 (N.1 17)) 18 (N.1 18)) 14 4 (N.2 14 4)) 14 5 (N.2 14 5)
/-- what the picture shows of a state is all that counts of it -/
theorem WL_eqM (G : gG) (w : gW) {j : Nat} (M N : gM) (h : ∀ c, c < bs j → ceX G j c (M.1 c) (M.2 c) = ceX G j c (N.1 c) (N.2 c)) : WL G (up w j M) = WL G (up w j N) := by
  unfold WL
  apply List.map_congr_left
  intro k hk
  obtain ⟨g1, g2, g3⟩ := bo_bj k (List.mem_range.mp hk)
  by_cases hj : bj k = j
  · rw [hj] at g3 ⊢
    rw [up_s, up_s, h _ g3]
  · rw [up_n _ _ hj, up_n _ _ hj]
theorem wo_eqM {G : gG} {w : gW} {s : State} {H : Heap} {locs : List Loc} {j : Nat} {M : gM} (N : gM) (h : ∀ c, c < bs j → ceX G j c (M.1 c) (M.2 c) = ceX G j c (N.1 c) (N.2 c)) (hW : wo G (up w j M) s H locs) : wo G (up w j N) s H locs := by
  unfold wo at *
  rw [← WL_eqM G w M N h]
  exact hW
def sumI (f : Int → Int) : Nat → Int
  | 0 => 0
  | n + 1 => sumI f n + f n
def sumX (f : Int → Int) (x : Int) : Int := sumI f x.toNat
theorem sumX_0 (f : Int → Int) : sumX f 0 = 0 := rfl
theorem sumX_s (f : Int → Int) {x : Int} (h : 0 ≤ x) : sumX f (x + 1) = sumX f x + f x := by
  unfold sumX
  rw [toNat_s h]
  show sumI f x.toNat + f (x.toNat : Int) = _
  rw [Int.toNat_of_nonneg h]
def pEq (M : gM) (k0 : Nat) (v x : Int) : Prop := gA M k0 x = v
theorem wf_A {M N : gM} (h : wf M) (h10 : N.1 10 = M.1 10) (h11 : N.1 11 = M.1 11) (h12 : N.1 12 = M.1 12) (h13 : N.1 13 = M.1 13) (a1 : N.2 7 6 = M.2 7 6) (a2 : N.2 14 4 = M.2 14 4) (a3 : N.2 14 5 = M.2 14 5) (a4 : N.2 0 10 = M.2 0 10) (a5 : N.2 0 8 = M.2 0 8) : wf N := by
  unfold wf gN gA at *
  rw [h10, h11, h12, h13, a1, a2, a3, a4, a5]
  exact h
def pD (M : gM) (co : Int) : Prop := (0 ≤ co ∧ co ≤ 9) ∧ gA M 5 co < gA M 4 co
def pR (M : gM) (co pl : Int) : Prop := (0 ≤ pl ∧ pl ≤ 19) ∧ gA M 3 pl = co
/-- the reason against a cut -/
def rsn (M : gM) (co pl z : Int) : Prop := (z = 1 ∧ ¬ pD M co) ∨ (z = 2 ∧ pD M co ∧ (¬ (0 ≤ pl ∧ pl ≤ 19) ∨ gA M 1 pl ≤ 0)) ∨ (pD M co ∧ (0 ≤ pl ∧ pl ≤ 19) ∧ 0 < gA M 1 pl ∧ ((z = 3 ∧ 60 ≤ cntI (pLy M) (gN M 7 6)) ∨ (cntI (pLy M) (gN M 7 6) < 60 ∧ ((z = 0 ∧ (pR M co pl ∨ pR M co (pl - 1) ∨ pR M co (pl + 1))) ∨ (z = 4 ∧ ¬ pR M co pl ∧ ¬ pR M co (pl - 1) ∧ ¬ pR M co (pl + 1))))))
def takM0 (M : gM) (co pl : Int) : gM := layM (sA (sA M 1 pl (iI (gA M 1 pl - 1))) 5 co (iI (gA M 5 co + 1))) co pl
def takM (M : gM) (co pl : Int) : gM := if gA M 3 pl = co then takM0 M co pl else opnM (takM0 M co pl) co (gA M 3 pl) (gN M 7 6) pl
/-- a row is brought home -/
def tak1 (M : gM) (co r : Int) : gM := sS (sA (sA M 6 co (iI (gA M 6 co + max 0 (40 - gA M 10 r)))) 13 r (iI 0)) 0 13 (iI (gN M 0 13 + 1))
noncomputable def tk (M : gM) (co : Int) : Nat → gM
  | 0 => M
  | n + 1 => if bstI (tk M co n) co (gN (tk M co n) 7 6) = -5 then tk M co n else tak1 (tk M co n) co (bstI (tk M co n) co (gN (tk M co n) 7 6))
noncomputable def srvM (M : gM) (co : Int) : gM := tk M co (gN M 0 8).toNat
theorem tk_s (M : gM) (co : Int) (n : Nat) : tk M co (n + 1) = if bstI (tk M co n) co (gN (tk M co n) 7 6) = -5 then tk M co n else tak1 (tk M co n) co (bstI (tk M co n) co (gN (tk M co n) 7 6)) := rfl
theorem tk_stop {M : gM} {co : Int} {n : Nat} (h : bstI (tk M co n) co (gN (tk M co n) 7 6) = -5) : ∀ k, tk M co (n + k) = tk M co n
  | 0 => rfl
  | k + 1 => by
    rw [show n + (k + 1) = (n + k) + 1 from rfl, tk_s, tk_stop h k, if_pos h]
theorem pQ_lyi {M : gM} {co : Int} (h : 0 ≤ gN M 7 6) : bstI M co (gN M 7 6) = -5 ∨ lyi M (bstI M co (gN M 7 6)) := by
  rcases bstI_le M co h with q | ⟨q1, q2, q3⟩
  · exact Or.inl q
  · exact Or.inr ⟨q1, q2, q3.1⟩
theorem tak1_keep (M : gM) (co r : Int) : (∀ c f, ¬ (c = 0 ∧ f = 13) → (tak1 M co r).2 c f = M.2 c f) ∧ ∀ c, ¬ c = 6 → ¬ c = 13 → (tak1 M co r).1 c = M.1 c := by
  refine ⟨fun c f h => ?_, fun c h1 h2 => ?_⟩
  · show (if c = 0 ∧ f = 13 then _ else M.2 c f) = M.2 c f
    rw [if_neg h]
  · show (if c = 13 then _ else (if c = 6 then _ else M.1 c)) = M.1 c
    rw [if_neg h2, if_neg h1]
theorem tk_keep (M : gM) (co : Int) : ∀ n : Nat, (∀ c f, ¬ (c = 0 ∧ f = 13) → (tk M co n).2 c f = M.2 c f) ∧ ∀ c, ¬ c = 6 → ¬ c = 13 → (tk M co n).1 c = M.1 c
  | 0 => ⟨fun _ _ _ => rfl, fun _ _ _ => rfl⟩
  | n + 1 => by
    have h := tk_keep M co n
    rw [tk_s]
    by_cases hb : bstI (tk M co n) co (gN (tk M co n) 7 6) = -5
    · rw [if_pos hb]; exact h
    · rw [if_neg hb]
      have h2 := tak1_keep (tk M co n) co (bstI (tk M co n) co (gN (tk M co n) 7 6))
      exact ⟨fun c f q => (h2.1 c f q).trans (h.1 c f q), fun c q1 q2 => (h2.2 c q1 q2).trans (h.2 c q1 q2)⟩
theorem tk_13 {M : gM} (co : Int) (hb : ∀ r : Int, M.1 13 r = 0 ∨ M.1 13 r = 1) : ∀ (n : Nat) (r : Int), (tk M co n).1 13 r = 0 ∨ (tk M co n).1 13 r = 1
  | 0, r => hb r
  | n + 1, r => by
    rw [tk_s]
    by_cases hq : bstI (tk M co n) co (gN (tk M co n) 7 6) = -5
    · rw [if_pos hq]; exact tk_13 co hb n r
    · rw [if_neg hq]
      show (if r = bstI (tk M co n) co (gN (tk M co n) 7 6) then iI 0 else (tk M co n).1 13 r) = 0 ∨ (if r = bstI (tk M co n) co (gN (tk M co n) 7 6) then iI 0 else (tk M co n).1 13 r) = 1
      split
      · exact Or.inl rfl
      · exact tk_13 co hb n r
theorem wf_tk {M : gM} (co : Int) (n : Nat) (h : wf M) : wf (tk M co n) := by
  obtain ⟨k1, k2⟩ := tk_keep M co n
  obtain ⟨a1, a2, a3, a4, a5, a6, a7⟩ := h
  unfold wf gN gA at *
  rw [k1 7 6 (by decide), k1 14 4 (by decide), k1 14 5 (by decide), k1 0 10 (by decide), k1 0 8 (by decide), k2 10 (by decide) (by decide), k2 11 (by decide) (by decide), k2 12 (by decide) (by decide)]
  exact ⟨a1, a2, a3, a4, a5, tk_13 co a6 n, a7⟩
theorem gN_tk (M : gM) (co : Int) (n : Nat) {c f : Nat} (h : ¬ (c = 0 ∧ f = 13)) : gN (tk M co n) c f = gN M c f := by
  unfold gN
  rw [(tk_keep M co n).1 c f h]
/-- a day -/
def wet1 (M : gM) (wt : Int) : gM := sF M 10 (wetF M wt (gN M 7 6))
theorem wf_wet {M : gM} (wt : Int) (h : wf M) : wf (wet1 M wt) := by
  obtain ⟨a1, a2, a3, a4⟩ := h
  refine ⟨a1, a2, fun r => ?_, a4⟩
  show 0 ≤ gA (sF M 10 (wetF M wt (gN M 7 6))) 10 r ∧ gA (sF M 10 (wetF M wt (gN M 7 6))) 10 r ≤ 60
  rw [gA_sF, if_pos rfl]
  unfold wetF
  split
  · rw [iI_t ⟨by omega, by omega⟩]; omega
  · exact a3 r
noncomputable def dayM (M : gM) (wt : Int) : gM := let N := srvM (srvM (wet1 M wt) (gN M 0 10 % 10)) ((gN M 0 10 + 5) % 10); sS (sS N 0 10 (iI ((gN M 0 10 + 1) % 10))) 0 11 (iI (gN M 0 11 + 1))
theorem wf_day {M : gM} (wt : Int) (h : wf M) : wf (dayM M wt) := by
  have h1 := wf_tk ((gN M 0 10 + 5) % 10) (gN (srvM (wet1 M wt) (gN M 0 10 % 10)) 0 8).toNat (wf_tk (gN M 0 10 % 10) (gN (wet1 M wt) 0 8).toNat (wf_wet wt h))
  have hr := h.2.2.2.2.2.2.1
  obtain ⟨a1, a2, a3, a4, a5, a6, a7, a8⟩ := h1
  refine ⟨a1, a2, a3, a4, a5, a6, ?_, a8⟩
  show 0 ≤ (iI ((gN M 0 10 + 1) % 10)).toInt ∧ (iI ((gN M 0 10 + 1) % 10)).toInt ≤ 9
  rw [iI_t ⟨by omega, by omega⟩]
  omega
noncomputable def dyM (M : gM) (wt : Int) : Nat → gM
  | 0 => M
  | n + 1 => dayM (dyM M wt n) wt
theorem wf_dy {M : gM} (wt : Int) (h : wf M) : ∀ n : Nat, wf (dyM M wt n)
  | 0 => h
  | n + 1 => wf_day wt (wf_dy wt h n)
noncomputable def dyX (M : gM) (wt n : Int) : gM := dyM M wt n.toNat
theorem dyX_s (M : gM) (wt : Int) {n : Int} (h : 0 ≤ n) : dyX M wt (n + 1) = dayM (dyX M wt n) wt := by
  unfold dyX
  rw [toNat_s h]
  rfl
/-- a dispute is settled -/
def givM (M : gM) (a b : Int) : gM := if (0 ≤ a ∧ a ≤ 9) ∧ (0 ≤ b ∧ b ≤ 9) then sA (sA M 6 a (iI (gA M 6 a - min 20 (gA M 6 a)))) 6 b (iI (gA (sA M 6 a (iI (gA M 6 a - min 20 (gA M 6 a)))) 6 b + min 20 (gA M 6 a))) else M
noncomputable def usdM (M : gM) (co : Int) : gM := @ite _ (pD M co) (Classical.propDecidable _) (sA M 5 co (iI (gA M 5 co + 1))) M
def yrM (M : gM) : gM :=
  let M1 := sF M 13 (zeF M 13 (gN M 7 6))
  let M2 := sS M1 14 4 (iI (gN M1 14 5))
  let M3 := sF M2 3 (M2.1 2)
  let M4 := sF M3 5 (zeF M3 5 10)
  let M5 := sS M4 0 11 (iI 0)
  sS M5 0 12 (iI (gN M5 0 12 + 1))
theorem lay_keep (M : gM) (co pl : Int) : (∀ c f, ¬ (c = 7 ∧ f = 6) → (layM M co pl).2 c f = M.2 c f) ∧ ∀ c, (c < 8 ∨ 13 < c) → (layM M co pl).1 c = M.1 c := by
  refine ⟨fun c f h => if_neg h, fun c h => ?_⟩
  show (if c = 13 then _ else if c = 12 then _ else if c = 11 then _ else if c = 10 then _ else if c = 9 then _ else if c = 8 then _ else M.1 c) = M.1 c
  rw [if_neg (by omega), if_neg (by omega), if_neg (by omega), if_neg (by omega), if_neg (by omega), if_neg (by omega)]
theorem wf_lay {M : gM} (co pl : Int) (h : wf M) (hn : gN M 7 6 < 120) : wf (layM M co pl) := by
  obtain ⟨a1, a2, a3, a4, a5, a6, a7, a8, a9⟩ := h
  have e76 : gN (layM M co pl) 7 6 = gN M 7 6 + 1 := iI_t ⟨by omega, by omega⟩
  have bz : ∀ (A : Int → Int32) (x : Int) (v : Int), (v = 0 ∨ v = 1) → (∀ r : Int, A r = 0 ∨ A r = 1) → ∀ r : Int, (if r = x then iI v else A r) = 0 ∨ (if r = x then iI v else A r) = 1 := by
    intro A x v hv hA r
    by_cases q : r = x
    · rw [if_pos q]; rcases hv with rfl | rfl
      · exact Or.inl rfl
      · exact Or.inr rfl
    · rw [if_neg q]; exact hA r
  refine ⟨by rw [e76]; omega, a2, fun r => ?_, bz _ _ 0 (Or.inl rfl) a4, bz _ _ 0 (Or.inl rfl) a5, bz _ _ 1 (Or.inr rfl) a6, a7, a8, by rw [e76]; show gN M 14 5 ≤ _; omega⟩
  have e : gA (layM M co pl) 10 r = if r = gN M 7 6 then 50 else gA M 10 r := by
    show (if r = gN M 7 6 then iI 50 else M.1 10 r).toInt = _
    split
    · rfl
    · rfl
  rw [e]
  split
  · omega
  · exact a3 r
theorem wf_opn {M : gM} (co wr ro pl : Int) (h : wf M) (hn : gN M 14 5 < gN M 7 6) : wf (opnM M co wr ro pl) := by
  obtain ⟨a1, a2, a3, a4, a5, a6, a7, a8, a9⟩ := h
  have e : gN (opnM M co wr ro pl) 14 5 = gN M 14 5 + 1 := iI_t ⟨by omega, by omega⟩
  exact ⟨a1, ⟨a2.1, by rw [e]; show gN M 14 4 ≤ _; omega, by rw [e]; omega⟩, a3, a4, a5, a6, a7, a8, by rw [e]; show _ ≤ gN M 7 6; omega⟩
theorem tkw_keep (M : gM) (co pl : Int) : wf M → wf (sA (sA M 1 pl (iI (gA M 1 pl - 1))) 5 co (iI (gA M 5 co + 1))) := fun h => wf_A h rfl rfl rfl rfl rfl rfl rfl rfl rfl
theorem wf_tak0 {M : gM} (co pl : Int) (h : wf M) (hn : gN M 7 6 < 120) : wf (takM0 M co pl) := wf_lay co pl (tkw_keep M co pl h) hn
theorem wf_tak {M : gM} (co pl : Int) (h : wf M) (hn : gN M 7 6 < 120) : wf (takM M co pl) := by
  unfold takM
  split
  · exact wf_tak0 co pl h hn
  · refine wf_opn _ _ _ _ (wf_tak0 co pl h hn) ?_
    have e76 : gN (takM0 M co pl) 7 6 = gN M 7 6 + 1 := iI_t (z := gN M 7 6 + 1) ⟨by have := h.1; omega, by omega⟩
    rw [e76]
    show gN M 14 5 < _
    have := h.2.2.2.2.2.2.2.2
    omega
end
section
/-- X5_isWithin: its end -/
def po_X5_isWithin (w : gW) (v : Int) (a : Int) (b : Int) : Int → gW → Prop := fun z w1 => ((z = 1 ∧ (a ≤ v ∧ v ≤ b)) ∨ (z = 0 ∧ ¬ (a ≤ v ∧ v ≤ b))) ∧ w = w1
theorem hdS_X5_isWithin : yX5_isWithin.cls ≠ "java/lang/invoke/MethodHandle" ∧ yX5_isWithin.cls ≠ "java/lang/invoke/VarHandle" ∧ (parseMethodDescriptor yX5_isWithin.desc).map (fun d => d.parameters.length) = some 3 := by decide +kernel
set_option maxHeartbeats 4000000 in
set_option maxRecDepth 100000 in
theorem c_X5_isWithin (l : Launch) (G : gG) (w : gW) (v : Int) (a : Int) (b : Int) (rv : inR v) (ra : inR a) (rb : inR b) : mI l G yX5_isWithin (wU yX5_isWithin cX5_isWithin 3 (some .boolean)) (rmL 0 0) [.int (iI v), .int (iI a), .int (iI b)] w (po_X5_isWithin w v a b) := by
  refine mI_of (by decide +kernel) (Nat.le_of_ble_eq_true rfl) (fun p e s m args below meth c ls C0 hW hl => ?_)
  have hl : lv_has ls 3 [(0, .int (iI v)), (1, .int (iI a)), (2, .int (iI b))] := hl
  have hx := C0.hx
  have hb := C0.hb
  refine lv_iload_n hx hb dX5_isWithin_0 rfl (lv_at hl 0 rfl) ?_
  refine lv_iload_n hx hb dX5_isWithin_1 rfl (lv_at hl 1 rfl) ?_
  refine r_icmp_lt (tgt := 14) hx hb rv ra dX5_isWithin_2 (by decide) (fun c1 => ?_) (fun c1 => ?_)
  · refine r_iconst hx hb dX5_isWithin_14 ?_
    exact r_zret C0 hW (by first | exact Or.inl rfl | exact Or.inr rfl | omega) (⟨by omega, rfl⟩) dX5_isWithin_15
  · refine lv_iload_n hx hb dX5_isWithin_5 rfl (lv_at hl 0 rfl) ?_
    refine lv_iload_n hx hb dX5_isWithin_6 rfl (lv_at hl 2 rfl) ?_
    refine r_icmp_gt (tgt := 14) hx hb rv rb dX5_isWithin_7 (by decide) (fun c2 => ?_) (fun c2 => ?_)
    · refine r_iconst hx hb dX5_isWithin_14 ?_
      exact r_zret C0 hW (by first | exact Or.inl rfl | exact Or.inr rfl | omega) (⟨by omega, rfl⟩) dX5_isWithin_15
    · refine r_iconst hx hb dX5_isWithin_10 ?_
      refine lv_goto (tgt := 15) hx hb dX5_isWithin_11 (by decide) ?_
      exact r_zret C0 hW (by first | exact Or.inl rfl | exact Or.inr rfl | omega) (⟨by omega, rfl⟩) dX5_isWithin_15

/-- X5_isCommoner: its end -/
def po_X5_isCommoner (w : gW) (v : Int) : Int → gW → Prop := fun z w1 => ((z = 1 ∧ (0 ≤ v ∧ v ≤ 9)) ∨ (z = 0 ∧ ¬ (0 ≤ v ∧ v ≤ 9))) ∧ w = w1
theorem hdS_X5_isCommoner : yX5_isCommoner.cls ≠ "java/lang/invoke/MethodHandle" ∧ yX5_isCommoner.cls ≠ "java/lang/invoke/VarHandle" ∧ (parseMethodDescriptor yX5_isCommoner.desc).map (fun d => d.parameters.length) = some 1 := by decide +kernel
set_option maxHeartbeats 4000000 in
set_option maxRecDepth 100000 in
theorem c_X5_isCommoner (l : Launch) (G : gG) (w : gW) (v : Int) (rv : inR v) : mI l G yX5_isCommoner (wU yX5_isCommoner cX5_isCommoner 1 (some .boolean)) (rmL 1 22) [.int (iI v)] w (po_X5_isCommoner w v) := by
  refine mI_of (by decide +kernel) (Nat.le_of_ble_eq_true rfl) (fun p e s m args below meth c ls C0 hW hl => ?_)
  have hl : lv_has ls 1 [(0, .int (iI v))] := hl
  have hx := C0.hx
  have hb := C0.hb
  refine lv_iload_n hx hb dX5_isCommoner_0 rfl (lv_at hl 0 rfl) ?_
  refine r_iconst hx hb dX5_isCommoner_1 ?_
  refine r_bipush hx hb dX5_isCommoner_2 (by decide) ?_
  refine k_Si (host := "") C0 hW (As := [.int (iI v), .int (iI 0), .int (iI 9)]) (c_X5_isWithin l G w v 0 9 rv ⟨by omega, by omega⟩ ⟨by omega, by omega⟩) km_X5_58 ks_X5_isWithin kn_X5 kc_X5_isWithin rfl hdS_X5_isWithin ⟨by decide, by decide⟩ rfl hl.1 rfl (Nat.le_of_ble_eq_true rfl) dX5_isCommoner_4 (fun z1 w1 H1 locs1 rz1 hp1 hW => ?_)
  obtain ⟨hp1, hq1⟩ := hp1
  subst hq1
  have rz1a := rz1.1
  have rz1b := rz1.2
  rcases hp1 with ⟨e1, hp1⟩ | ⟨e1, hp1⟩
  · subst e1
    exact r_zret C0 hW (by first | exact Or.inl rfl | exact Or.inr rfl | omega) (⟨by omega, rfl⟩) dX5_isCommoner_7
  · subst e1
    exact r_zret C0 hW (by first | exact Or.inl rfl | exact Or.inr rfl | omega) (⟨by omega, rfl⟩) dX5_isCommoner_7

/-- X5_isPlot: its end -/
def po_X5_isPlot (w : gW) (v : Int) : Int → gW → Prop := fun z w1 => ((z = 1 ∧ (0 ≤ v ∧ v ≤ 19)) ∨ (z = 0 ∧ ¬ (0 ≤ v ∧ v ≤ 19))) ∧ w = w1
theorem hdS_X5_isPlot : yX5_isPlot.cls ≠ "java/lang/invoke/MethodHandle" ∧ yX5_isPlot.cls ≠ "java/lang/invoke/VarHandle" ∧ (parseMethodDescriptor yX5_isPlot.desc).map (fun d => d.parameters.length) = some 1 := by decide +kernel
set_option maxHeartbeats 4000000 in
set_option maxRecDepth 100000 in
theorem c_X5_isPlot (l : Launch) (G : gG) (w : gW) (v : Int) (rv : inR v) : mI l G yX5_isPlot (wU yX5_isPlot cX5_isPlot 1 (some .boolean)) (rmL 1 22) [.int (iI v)] w (po_X5_isPlot w v) := by
  refine mI_of (by decide +kernel) (Nat.le_of_ble_eq_true rfl) (fun p e s m args below meth c ls C0 hW hl => ?_)
  have hl : lv_has ls 1 [(0, .int (iI v))] := hl
  have hx := C0.hx
  have hb := C0.hb
  refine lv_iload_n hx hb dX5_isPlot_0 rfl (lv_at hl 0 rfl) ?_
  refine r_iconst hx hb dX5_isPlot_1 ?_
  refine r_bipush hx hb dX5_isPlot_2 (by decide) ?_
  refine k_Si (host := "") C0 hW (As := [.int (iI v), .int (iI 0), .int (iI 19)]) (c_X5_isWithin l G w v 0 19 rv ⟨by omega, by omega⟩ ⟨by omega, by omega⟩) km_X5_58 ks_X5_isWithin kn_X5 kc_X5_isWithin rfl hdS_X5_isWithin ⟨by decide, by decide⟩ rfl hl.1 rfl (Nat.le_of_ble_eq_true rfl) dX5_isPlot_4 (fun z1 w1 H1 locs1 rz1 hp1 hW => ?_)
  obtain ⟨hp1, hq1⟩ := hp1
  subst hq1
  have rz1a := rz1.1
  have rz1b := rz1.2
  rcases hp1 with ⟨e1, hp1⟩ | ⟨e1, hp1⟩
  · subst e1
    exact r_zret C0 hW (by first | exact Or.inl rfl | exact Or.inr rfl | omega) (⟨by omega, rfl⟩) dX5_isPlot_7
  · subst e1
    exact r_zret C0 hW (by first | exact Or.inl rfl | exact Or.inr rfl | omega) (⟨by omega, rfl⟩) dX5_isPlot_7

/-- X5_isWeather: its end -/
def po_X5_isWeather (w : gW) (v : Int) : Int → gW → Prop := fun z w1 => ((z = 1 ∧ (0 ≤ v ∧ v ≤ 2)) ∨ (z = 0 ∧ ¬ (0 ≤ v ∧ v ≤ 2))) ∧ w = w1
theorem hdS_X5_isWeather : yX5_isWeather.cls ≠ "java/lang/invoke/MethodHandle" ∧ yX5_isWeather.cls ≠ "java/lang/invoke/VarHandle" ∧ (parseMethodDescriptor yX5_isWeather.desc).map (fun d => d.parameters.length) = some 1 := by decide +kernel
set_option maxHeartbeats 4000000 in
set_option maxRecDepth 100000 in
theorem c_X5_isWeather (l : Launch) (G : gG) (w : gW) (v : Int) (rv : inR v) : mI l G yX5_isWeather (wU yX5_isWeather cX5_isWeather 1 (some .boolean)) (rmL 1 22) [.int (iI v)] w (po_X5_isWeather w v) := by
  refine mI_of (by decide +kernel) (Nat.le_of_ble_eq_true rfl) (fun p e s m args below meth c ls C0 hW hl => ?_)
  have hl : lv_has ls 1 [(0, .int (iI v))] := hl
  have hx := C0.hx
  have hb := C0.hb
  refine lv_iload_n hx hb dX5_isWeather_0 rfl (lv_at hl 0 rfl) ?_
  refine r_iconst hx hb dX5_isWeather_1 ?_
  refine r_iconst hx hb dX5_isWeather_2 ?_
  refine k_Si (host := "") C0 hW (As := [.int (iI v), .int (iI 0), .int (iI 2)]) (c_X5_isWithin l G w v 0 2 rv ⟨by omega, by omega⟩ ⟨by omega, by omega⟩) km_X5_58 ks_X5_isWithin kn_X5 kc_X5_isWithin rfl hdS_X5_isWithin ⟨by decide, by decide⟩ rfl hl.1 rfl (Nat.le_of_ble_eq_true rfl) dX5_isWeather_3 (fun z1 w1 H1 locs1 rz1 hp1 hW => ?_)
  obtain ⟨hp1, hq1⟩ := hp1
  subst hq1
  have rz1a := rz1.1
  have rz1b := rz1.2
  rcases hp1 with ⟨e1, hp1⟩ | ⟨e1, hp1⟩
  · subst e1
    exact r_zret C0 hW (by first | exact Or.inl rfl | exact Or.inr rfl | omega) (⟨by omega, rfl⟩) dX5_isWeather_6
  · subst e1
    exact r_zret C0 hW (by first | exact Or.inl rfl | exact Or.inr rfl | omega) (⟨by omega, rfl⟩) dX5_isWeather_6

/-- X5_isSettingValue: its end -/
def po_X5_isSettingValue (w : gW) (v : Int) (x : Int) : Int → gW → Prop := fun z w1 => ((z = 1 ∧ ((v = 0 ∧ 1 ≤ x ∧ x ≤ 6) ∨ (v = 1 ∧ 0 ≤ x ∧ x ≤ 1))) ∨ (z = 0 ∧ ¬ ((v = 0 ∧ 1 ≤ x ∧ x ≤ 6) ∨ (v = 1 ∧ 0 ≤ x ∧ x ≤ 1)))) ∧ w = w1
theorem hdS_X5_isSettingValue : yX5_isSettingValue.cls ≠ "java/lang/invoke/MethodHandle" ∧ yX5_isSettingValue.cls ≠ "java/lang/invoke/VarHandle" ∧ (parseMethodDescriptor yX5_isSettingValue.desc).map (fun d => d.parameters.length) = some 2 := by decide +kernel
set_option maxHeartbeats 4000000 in
set_option maxRecDepth 100000 in
theorem c_X5_isSettingValue (l : Launch) (G : gG) (w : gW) (v : Int) (x : Int) (rv : inR v) (rx : inR x) : mI l G yX5_isSettingValue (wU yX5_isSettingValue cX5_isSettingValue 2 (some .boolean)) (rmL 1 22) [.int (iI v), .int (iI x)] w (po_X5_isSettingValue w v x) := by
  refine mI_of (by decide +kernel) (Nat.le_of_ble_eq_true rfl) (fun p e s m args below meth c ls C0 hW hl => ?_)
  have hl : lv_has ls 2 [(0, .int (iI v)), (1, .int (iI x))] := hl
  have hx := C0.hx
  have hb := C0.hb
  refine lv_iload_n hx hb dX5_isSettingValue_0 rfl (lv_at hl 0 rfl) ?_
  refine r_if_ne (tgt := 12) hx hb rv dX5_isSettingValue_1 (by decide) (fun c1 => ?_) (fun c1 => ?_)
  · refine lv_iload_n hx hb dX5_isSettingValue_12 rfl (lv_at hl 0 rfl) ?_
    refine r_iconst hx hb dX5_isSettingValue_13 ?_
    refine r_icmp_ne (tgt := 30) hx hb rv ⟨by omega, by omega⟩ dX5_isSettingValue_14 (by decide) (fun c2 => ?_) (fun c2 => ?_)
    · refine r_iconst hx hb dX5_isSettingValue_30 ?_
      exact r_zret C0 hW (by first | exact Or.inl rfl | exact Or.inr rfl | omega) (⟨by omega, rfl⟩) dX5_isSettingValue_31
    · refine lv_iload_n hx hb dX5_isSettingValue_17 rfl (lv_at hl 1 rfl) ?_
      refine r_iconst hx hb dX5_isSettingValue_18 ?_
      refine r_iconst hx hb dX5_isSettingValue_19 ?_
      refine k_Si (host := "") C0 hW (As := [.int (iI x), .int (iI 0), .int (iI 1)]) (c_X5_isWithin l G w x 0 1 rx ⟨by omega, by omega⟩ ⟨by omega, by omega⟩) km_X5_58 ks_X5_isWithin kn_X5 kc_X5_isWithin rfl hdS_X5_isWithin ⟨by decide, by decide⟩ rfl hl.1 rfl (Nat.le_of_ble_eq_true rfl) dX5_isSettingValue_20 (fun z3 w3 H1 locs1 rz3 hp3 hW => ?_)
      obtain ⟨hp3, hq3⟩ := hp3
      subst hq3
      have rz3a := rz3.1
      have rz3b := rz3.2
      rcases hp3 with ⟨e3, hp3⟩ | ⟨e3, hp3⟩
      · subst e3
        refine r_if_eq (tgt := 30) hx hb ⟨by omega, by omega⟩ dX5_isSettingValue_23 (by decide) (fun q => absurd q (by decide)) (fun _ => ?_)
        refine r_iconst hx hb dX5_isSettingValue_26 ?_
        refine lv_goto (tgt := 31) hx hb dX5_isSettingValue_27 (by decide) ?_
        exact r_zret C0 hW (by first | exact Or.inl rfl | exact Or.inr rfl | omega) (⟨by omega, rfl⟩) dX5_isSettingValue_31
      · subst e3
        refine r_if_eq (tgt := 30) hx hb ⟨by omega, by omega⟩ dX5_isSettingValue_23 (by decide) (fun _ => ?_) (fun q => absurd q (by decide))
        refine r_iconst hx hb dX5_isSettingValue_30 ?_
        exact r_zret C0 hW (by first | exact Or.inl rfl | exact Or.inr rfl | omega) (⟨by omega, rfl⟩) dX5_isSettingValue_31
  · refine lv_iload_n hx hb dX5_isSettingValue_4 rfl (lv_at hl 1 rfl) ?_
    refine r_iconst hx hb dX5_isSettingValue_5 ?_
    refine r_bipush hx hb dX5_isSettingValue_6 (by decide) ?_
    refine k_Si (host := "") C0 hW (As := [.int (iI x), .int (iI 1), .int (iI 6)]) (c_X5_isWithin l G w x 1 6 rx ⟨by omega, by omega⟩ ⟨by omega, by omega⟩) km_X5_58 ks_X5_isWithin kn_X5 kc_X5_isWithin rfl hdS_X5_isWithin ⟨by decide, by decide⟩ rfl hl.1 rfl (Nat.le_of_ble_eq_true rfl) dX5_isSettingValue_8 (fun z4 w4 H1 locs1 rz4 hp4 hW => ?_)
    obtain ⟨hp4, hq4⟩ := hp4
    subst hq4
    have rz4a := rz4.1
    have rz4b := rz4.2
    rcases hp4 with ⟨e4, hp4⟩ | ⟨e4, hp4⟩
    · subst e4
      exact r_zret C0 hW (by first | exact Or.inl rfl | exact Or.inr rfl | omega) (⟨by omega, rfl⟩) dX5_isSettingValue_11
    · subst e4
      exact r_zret C0 hW (by first | exact Or.inl rfl | exact Or.inr rfl | omega) (⟨by omega, rfl⟩) dX5_isSettingValue_11

/-- X5_oneIf: its end -/
def po_X5_oneIf (w : gW) (v : Int) : Int → gW → Prop := fun z w1 => ((z = 1 ∧ ¬ v = 0) ∨ (z = 0 ∧ v = 0)) ∧ w = w1
theorem hdS_X5_oneIf : yX5_oneIf.cls ≠ "java/lang/invoke/MethodHandle" ∧ yX5_oneIf.cls ≠ "java/lang/invoke/VarHandle" ∧ (parseMethodDescriptor yX5_oneIf.desc).map (fun d => d.parameters.length) = some 1 := by decide +kernel
set_option maxHeartbeats 4000000 in
set_option maxRecDepth 100000 in
theorem c_X5_oneIf (l : Launch) (G : gG) (w : gW) (v : Int) (rv : inR v) : mI l G yX5_oneIf (wU yX5_oneIf cX5_oneIf 1 (some .int)) (rmL 0 0) [.int (iI v)] w (po_X5_oneIf w v) := by
  refine mI_of (by decide +kernel) (Nat.le_of_ble_eq_true rfl) (fun p e s m args below meth c ls C0 hW hl => ?_)
  have hl : lv_has ls 1 [(0, .int (iI v))] := hl
  have hx := C0.hx
  have hb := C0.hb
  refine lv_iload_n hx hb dX5_oneIf_0 rfl (lv_at hl 0 rfl) ?_
  refine r_if_eq (tgt := 8) hx hb rv dX5_oneIf_1 (by decide) (fun c1 => ?_) (fun c1 => ?_)
  · refine r_iconst hx hb dX5_oneIf_8 ?_
    exact r_iret C0 hW ⟨by omega, by omega⟩ (⟨by omega, rfl⟩) dX5_oneIf_9
  · refine r_iconst hx hb dX5_oneIf_4 ?_
    refine lv_goto (tgt := 9) hx hb dX5_oneIf_5 (by decide) ?_
    exact r_iret C0 hW ⟨by omega, by omega⟩ (⟨by omega, rfl⟩) dX5_oneIf_9

/-- X4_hasNumberLeft: its end -/
def po_X4_hasNumberLeft (w : gW) (j : Nat) : Int → gW → Prop := fun z w1 => ((z = 1 ∧ gN (w j) 7 6 < 120) ∨ (z = 0 ∧ ¬ gN (w j) 7 6 < 120)) ∧ w = w1
theorem hdV_X4_hasNumberLeft : yX4_hasNumberLeft.cls = RX4 ∧ yX4_hasNumberLeft.cls ≠ "java/lang/invoke/MethodHandle" ∧ yX4_hasNumberLeft.cls ≠ "java/lang/invoke/VarHandle" ∧ (parseMethodDescriptor yX4_hasNumberLeft.desc).map (fun d => d.parameters.length) = some 0 := by decide +kernel
set_option maxHeartbeats 4000000 in
set_option maxRecDepth 100000 in
theorem c_X4_hasNumberLeft (l : Launch) (G : gG) (w : gW) {j : Nat} (hj : ms j) (hwf : wf (w j)) : mI l G yX4_hasNumberLeft (wU yX4_hasNumberLeft cX4_hasNumberLeft 1 (some .boolean)) (rmL 0 0) [.ref (ad G j 7)] w (po_X4_hasNumberLeft w j) := by
  refine mI_of (by decide +kernel) (Nat.le_of_ble_eq_true rfl) (fun p e s m args below meth c ls C0 hW hl => ?_)
  have hl : lv_has ls 1 [(0, .ref (ad G j 7))] := hl
  have hx := C0.hx
  have hb := C0.hb
  obtain ⟨⟨hs1, hs2⟩, -⟩ := id hwf
  refine lv_aload_n hx hb dX4_hasNumberLeft_0 rfl (lv_at hl 0 rfl) ?_
  refine r_gI C0 hW (ms_lt hj 7 (by decide)) (ceX_m hj G 7 _ _) rfl hiX4 (k := 6) (by decide) kf_X4_39 rfl rfl rfl dX4_hasNumberLeft_1 (fun z1 (hz1 : z1 = gN (w j) 7 6) rz1 => ?_)
  have rz1a := rz1.1
  have rz1b := rz1.2
  refine r_bipush hx hb dX4_hasNumberLeft_4 (by decide) ?_
  refine r_icmp_ge (tgt := 13) hx hb rz1 ⟨by omega, by omega⟩ dX4_hasNumberLeft_6 (by decide) (fun c2 => ?_) (fun c2 => ?_)
  · refine r_iconst hx hb dX4_hasNumberLeft_13 ?_
    exact r_zret C0 hW (by first | exact Or.inl rfl | exact Or.inr rfl | omega) (⟨by omega, rfl⟩) dX4_hasNumberLeft_14
  · refine r_iconst hx hb dX4_hasNumberLeft_9 ?_
    refine lv_goto (tgt := 14) hx hb dX4_hasNumberLeft_10 (by decide) ?_
    exact r_zret C0 hW (by first | exact Or.inl rfl | exact Or.inr rfl | omega) (⟨by omega, rfl⟩) dX4_hasNumberLeft_14

/-- X4_isLying: its end -/
def po_X4_isLying (w : gW) (j : Nat) (r : Int) : Int → gW → Prop := fun z w1 => ((z = 1 ∧ lyi (w j) r) ∨ (z = 0 ∧ ¬ lyi (w j) r)) ∧ w = w1
theorem hdV_X4_isLying : yX4_isLying.cls = RX4 ∧ yX4_isLying.cls ≠ "java/lang/invoke/MethodHandle" ∧ yX4_isLying.cls ≠ "java/lang/invoke/VarHandle" ∧ (parseMethodDescriptor yX4_isLying.desc).map (fun d => d.parameters.length) = some 1 := by decide +kernel
set_option maxHeartbeats 4000000 in
set_option maxRecDepth 100000 in
theorem c_X4_isLying (l : Launch) (G : gG) (w : gW) {j : Nat} (hj : ms j) (hwf : wf (w j)) (r : Int) (rr : inR r) : mI l G yX4_isLying (wU yX4_isLying cX4_isLying 2 (some .boolean)) (rmL 1 22) [.ref (ad G j 7), .int (iI r)] w (po_X4_isLying w j r) := by
  refine mI_of (by decide +kernel) (Nat.le_of_ble_eq_true rfl) (fun p e s m args below meth c ls C0 hW hl => ?_)
  have hl : lv_has ls 2 [(0, .ref (ad G j 7)), (1, .int (iI r))] := hl
  have hx := C0.hx
  have hb := C0.hb
  obtain ⟨⟨hs1, hs2⟩, -⟩ := id hwf
  refine lv_iload_n hx hb dX4_isLying_0 rfl (lv_at hl 1 rfl) ?_
  refine r_iconst hx hb dX4_isLying_1 ?_
  refine lv_aload_n hx hb dX4_isLying_2 rfl (lv_at hl 0 rfl) ?_
  refine r_gI C0 hW (ms_lt hj 7 (by decide)) (ceX_m hj G 7 _ _) rfl hiX4 (k := 6) (by decide) kf_X4_39 rfl rfl rfl dX4_isLying_3 (fun z1 (hz1 : z1 = gN (w j) 7 6) rz1 => ?_)
  have rz1a := rz1.1
  have rz1b := rz1.2
  refine r_iconst hx hb dX4_isLying_6 ?_
  refine r_isub hx hb dX4_isLying_7 ?_
  refine k_Ni (own := "") C0 hW (As := [.int (iI r), .int (iI 0), .int (iI (z1 - 1))]) (c_X5_isWithin l G w r 0 (z1 - 1) rr ⟨by omega, by omega⟩ ⟨by omega, by omega⟩) C0.nst.2.2.2.2.2.2.2.1 ks_X5_isWithin kn_X5 kc_X5_isWithin hdS_X5_isWithin ⟨by decide, by decide⟩ rfl hl.1 rfl (Nat.le_of_ble_eq_true rfl) dX4_isLying_8 (fun z2 w2 H1 locs1 rz2 hp2 hW => ?_)
  obtain ⟨hp2, hq2⟩ := hp2
  subst hq2
  have rz2a := rz2.1
  have rz2b := rz2.2
  rcases hp2 with ⟨e2, hp2⟩ | ⟨e2, hp2⟩
  · subst e2
    refine r_if_eq (tgt := 27) hx hb ⟨by omega, by omega⟩ dX4_isLying_11 (by decide) (fun q => absurd q (by decide)) (fun _ => ?_)
    refine lv_aload_n hx hb dX4_isLying_14 rfl (lv_at hl 0 rfl) ?_
    refine r_gR C0 hW (ms_lt hj 7 (by decide)) (ceX_m hj G 7 _ _) rfl hiX4 (k := 5) (by decide) kf_X4_28 rfl rfl rfl dX4_isLying_15 ?_
    refine lv_iload_n hx hb dX4_isLying_18 rfl (lv_at hl 1 rfl) ?_
    refine r_zld C0 hW (ms_lt hj 13 (by decide)) (ceX_m hj G 13 _ _) (n := 120) (by omega) (by omega) (by decide) dX4_isLying_19 (fun z3 (hz3 : z3 = gA (w j) 13 r) rz3 => ?_)
    have rz3a := rz3.1
    have rz3b := rz3.2
    refine r_if_eq (tgt := 27) hx hb rz3 dX4_isLying_20 (by decide) (fun c4 => ?_) (fun c4 => ?_)
    · refine r_iconst hx hb dX4_isLying_27 ?_
      exact r_zret C0 hW (by first | exact Or.inl rfl | exact Or.inr rfl | omega) (⟨by unfold lyi; omega, rfl⟩) dX4_isLying_28
    · refine r_iconst hx hb dX4_isLying_23 ?_
      refine lv_goto (tgt := 28) hx hb dX4_isLying_24 (by decide) ?_
      exact r_zret C0 hW (by first | exact Or.inl rfl | exact Or.inr rfl | omega) (⟨by unfold lyi; omega, rfl⟩) dX4_isLying_28
  · subst e2
    refine r_if_eq (tgt := 27) hx hb ⟨by omega, by omega⟩ dX4_isLying_11 (by decide) (fun _ => ?_) (fun q => absurd q (by decide))
    refine r_iconst hx hb dX4_isLying_27 ?_
    exact r_zret C0 hW (by first | exact Or.inl rfl | exact Or.inr rfl | omega) (⟨by unfold lyi; omega, rfl⟩) dX4_isLying_28

/-- X4_isLyingOf: its end -/
def po_X4_isLyingOf (w : gW) (j : Nat) (r : Int) (co : Int) : Int → gW → Prop := fun z w1 => ((z = 1 ∧ pOf (w j) co r) ∨ (z = 0 ∧ ¬ pOf (w j) co r)) ∧ w = w1
theorem hdV_X4_isLyingOf : yX4_isLyingOf.cls = RX4 ∧ yX4_isLyingOf.cls ≠ "java/lang/invoke/MethodHandle" ∧ yX4_isLyingOf.cls ≠ "java/lang/invoke/VarHandle" ∧ (parseMethodDescriptor yX4_isLyingOf.desc).map (fun d => d.parameters.length) = some 2 := by decide +kernel
set_option maxHeartbeats 4000000 in
set_option maxRecDepth 100000 in
theorem c_X4_isLyingOf (l : Launch) (G : gG) (w : gW) {j : Nat} (hj : ms j) (hwf : wf (w j)) (r : Int) (co : Int) (rr : inR r) (rco : inR co) : mI l G yX4_isLyingOf (wU yX4_isLyingOf cX4_isLyingOf 3 (some .boolean)) (rmL 2 43) [.ref (ad G j 7), .int (iI r), .int (iI co)] w (po_X4_isLyingOf w j r co) := by
  refine mI_of (by decide +kernel) (Nat.le_of_ble_eq_true rfl) (fun p e s m args below meth c ls C0 hW hl => ?_)
  have hl : lv_has ls 3 [(0, .ref (ad G j 7)), (1, .int (iI r)), (2, .int (iI co))] := hl
  have hx := C0.hx
  have hb := C0.hb
  obtain ⟨⟨hs1, hs2⟩, -⟩ := id hwf
  refine lv_aload_n hx hb dX4_isLyingOf_0 rfl (lv_at hl 0 rfl) ?_
  refine lv_iload_n hx hb dX4_isLyingOf_1 rfl (lv_at hl 1 rfl) ?_
  refine k_Vi (j := j) (k0 := 7) C0 hW (c_X4_isLying l G w hj (hwf) r rr) km_X4_51 ki_X4_isLying ke_X4_isLying kn_X4 kc_X4_isLying rfl hdV_X4_isLying ⟨by decide, by decide⟩ (ms_lt hj 7 (by decide)) (ceX_m hj G 7 _ _) rfl rfl hl.1 rfl (Nat.le_of_ble_eq_true rfl) dX4_isLyingOf_2 (fun z1 w1 H1 locs1 rz1 hp1 hW => ?_)
  obtain ⟨hp1, hq1⟩ := hp1
  subst hq1
  have rz1a := rz1.1
  have rz1b := rz1.2
  rcases hp1 with ⟨e1, hp1⟩ | ⟨e1, hp1⟩
  · subst e1
    obtain ⟨hp11, hp12, hp13⟩ := id hp1
    refine r_if_eq (tgt := 22) hx hb ⟨by omega, by omega⟩ dX4_isLyingOf_5 (by decide) (fun q => absurd q (by decide)) (fun _ => ?_)
    refine lv_aload_n hx hb dX4_isLyingOf_8 rfl (lv_at hl 0 rfl) ?_
    refine r_gR C0 hW (ms_lt hj 7 (by decide)) (ceX_m hj G 7 _ _) rfl hiX4 (k := 0) (by decide) kf_X4_9 rfl rfl rfl dX4_isLyingOf_9 ?_
    refine lv_iload_n hx hb dX4_isLyingOf_12 rfl (lv_at hl 1 rfl) ?_
    refine r_ild C0 hW (ms_lt hj 8 (by decide)) (ceX_m hj G 8 _ _) (n := 120) (by omega) (by omega) (by decide) dX4_isLyingOf_13 (fun z2 (hz2 : z2 = gA (w j) 8 r) rz2 => ?_)
    have rz2a := rz2.1
    have rz2b := rz2.2
    refine lv_iload_n hx hb dX4_isLyingOf_14 rfl (lv_at hl 2 rfl) ?_
    refine r_icmp_ne (tgt := 22) hx hb rz2 rco dX4_isLyingOf_15 (by decide) (fun c3 => ?_) (fun c3 => ?_)
    · refine r_iconst hx hb dX4_isLyingOf_22 ?_
      exact r_zret C0 hW (by first | exact Or.inl rfl | exact Or.inr rfl | omega) (⟨by unfold pOf lyi at *; omega, rfl⟩) dX4_isLyingOf_23
    · refine r_iconst hx hb dX4_isLyingOf_18 ?_
      refine lv_goto (tgt := 23) hx hb dX4_isLyingOf_19 (by decide) ?_
      exact r_zret C0 hW (by first | exact Or.inl rfl | exact Or.inr rfl | omega) (⟨by unfold pOf lyi at *; omega, rfl⟩) dX4_isLyingOf_23
  · subst e1
    refine r_if_eq (tgt := 22) hx hb ⟨by omega, by omega⟩ dX4_isLyingOf_5 (by decide) (fun _ => ?_) (fun q => absurd q (by decide))
    refine r_iconst hx hb dX4_isLyingOf_22 ?_
    exact r_zret C0 hW (by first | exact Or.inl rfl | exact Or.inr rfl | omega) (⟨by unfold pOf lyi at *; omega, rfl⟩) dX4_isLyingOf_23

/-- X4_isStacked: its end -/
def po_X4_isStacked (w : gW) (j : Nat) (r : Int) : Int → gW → Prop := fun z w1 => ((z = 1 ∧ pSt (w j) r) ∨ (z = 0 ∧ ¬ pSt (w j) r)) ∧ w = w1
theorem hdV_X4_isStacked : yX4_isStacked.cls = RX4 ∧ yX4_isStacked.cls ≠ "java/lang/invoke/MethodHandle" ∧ yX4_isStacked.cls ≠ "java/lang/invoke/VarHandle" ∧ (parseMethodDescriptor yX4_isStacked.desc).map (fun d => d.parameters.length) = some 1 := by decide +kernel
set_option maxHeartbeats 4000000 in
set_option maxRecDepth 100000 in
theorem c_X4_isStacked (l : Launch) (G : gG) (w : gW) {j : Nat} (hj : ms j) (hwf : wf (w j)) (r : Int) (rr : inR r) : mI l G yX4_isStacked (wU yX4_isStacked cX4_isStacked 2 (some .boolean)) (rmL 2 43) [.ref (ad G j 7), .int (iI r)] w (po_X4_isStacked w j r) := by
  refine mI_of (by decide +kernel) (Nat.le_of_ble_eq_true rfl) (fun p e s m args below meth c ls C0 hW hl => ?_)
  have hl : lv_has ls 2 [(0, .ref (ad G j 7)), (1, .int (iI r))] := hl
  have hx := C0.hx
  have hb := C0.hb
  obtain ⟨⟨hs1, hs2⟩, -⟩ := id hwf
  refine lv_aload_n hx hb dX4_isStacked_0 rfl (lv_at hl 0 rfl) ?_
  refine lv_iload_n hx hb dX4_isStacked_1 rfl (lv_at hl 1 rfl) ?_
  refine k_Vi (j := j) (k0 := 7) C0 hW (c_X4_isLying l G w hj (hwf) r rr) km_X4_51 ki_X4_isLying ke_X4_isLying kn_X4 kc_X4_isLying rfl hdV_X4_isLying ⟨by decide, by decide⟩ (ms_lt hj 7 (by decide)) (ceX_m hj G 7 _ _) rfl rfl hl.1 rfl (Nat.le_of_ble_eq_true rfl) dX4_isStacked_2 (fun z1 w1 H1 locs1 rz1 hp1 hW => ?_)
  obtain ⟨hp1, hq1⟩ := hp1
  subst hq1
  have rz1a := rz1.1
  have rz1b := rz1.2
  rcases hp1 with ⟨e1, hp1⟩ | ⟨e1, hp1⟩
  · subst e1
    obtain ⟨hp11, hp12, hp13⟩ := id hp1
    refine r_if_eq (tgt := 21) hx hb ⟨by omega, by omega⟩ dX4_isStacked_5 (by decide) (fun q => absurd q (by decide)) (fun _ => ?_)
    refine lv_aload_n hx hb dX4_isStacked_8 rfl (lv_at hl 0 rfl) ?_
    refine r_gR C0 hW (ms_lt hj 7 (by decide)) (ceX_m hj G 7 _ _) rfl hiX4 (k := 4) (by decide) kf_X4_25 rfl rfl rfl dX4_isStacked_9 ?_
    refine lv_iload_n hx hb dX4_isStacked_12 rfl (lv_at hl 1 rfl) ?_
    refine r_zld C0 hW (ms_lt hj 12 (by decide)) (ceX_m hj G 12 _ _) (n := 120) (by omega) (by omega) (by decide) dX4_isStacked_13 (fun z2 (hz2 : z2 = gA (w j) 12 r) rz2 => ?_)
    have rz2a := rz2.1
    have rz2b := rz2.2
    refine r_if_eq (tgt := 21) hx hb rz2 dX4_isStacked_14 (by decide) (fun c3 => ?_) (fun c3 => ?_)
    · refine r_iconst hx hb dX4_isStacked_21 ?_
      exact r_zret C0 hW (by first | exact Or.inl rfl | exact Or.inr rfl | omega) (⟨by unfold pSt lyi at *; omega, rfl⟩) dX4_isStacked_22
    · refine r_iconst hx hb dX4_isStacked_17 ?_
      refine lv_goto (tgt := 22) hx hb dX4_isStacked_18 (by decide) ?_
      exact r_zret C0 hW (by first | exact Or.inl rfl | exact Or.inr rfl | omega) (⟨by unfold pSt lyi at *; omega, rfl⟩) dX4_isStacked_22
  · subst e1
    refine r_if_eq (tgt := 21) hx hb ⟨by omega, by omega⟩ dX4_isStacked_5 (by decide) (fun _ => ?_) (fun q => absurd q (by decide))
    refine r_iconst hx hb dX4_isStacked_21 ?_
    exact r_zret C0 hW (by first | exact Or.inl rfl | exact Or.inr rfl | omega) (⟨by unfold pSt lyi at *; omega, rfl⟩) dX4_isStacked_22

/-- X4_isDry: its end -/
def po_X4_isDry (w : gW) (j : Nat) (r : Int) : Int → gW → Prop := fun z w1 => ((z = 1 ∧ pDr (w j) r) ∨ (z = 0 ∧ ¬ pDr (w j) r)) ∧ w = w1
theorem hdV_X4_isDry : yX4_isDry.cls = RX4 ∧ yX4_isDry.cls ≠ "java/lang/invoke/MethodHandle" ∧ yX4_isDry.cls ≠ "java/lang/invoke/VarHandle" ∧ (parseMethodDescriptor yX4_isDry.desc).map (fun d => d.parameters.length) = some 1 := by decide +kernel
set_option maxHeartbeats 4000000 in
set_option maxRecDepth 100000 in
theorem c_X4_isDry (l : Launch) (G : gG) (w : gW) {j : Nat} (hj : ms j) (hwf : wf (w j)) (r : Int) (rr : inR r) : mI l G yX4_isDry (wU yX4_isDry cX4_isDry 2 (some .boolean)) (rmL 2 43) [.ref (ad G j 7), .int (iI r)] w (po_X4_isDry w j r) := by
  refine mI_of (by decide +kernel) (Nat.le_of_ble_eq_true rfl) (fun p e s m args below meth c ls C0 hW hl => ?_)
  have hl : lv_has ls 2 [(0, .ref (ad G j 7)), (1, .int (iI r))] := hl
  have hx := C0.hx
  have hb := C0.hb
  obtain ⟨⟨hs1, hs2⟩, -⟩ := id hwf
  refine lv_aload_n hx hb dX4_isDry_0 rfl (lv_at hl 0 rfl) ?_
  refine lv_iload_n hx hb dX4_isDry_1 rfl (lv_at hl 1 rfl) ?_
  refine k_Vi (j := j) (k0 := 7) C0 hW (c_X4_isLying l G w hj (hwf) r rr) km_X4_51 ki_X4_isLying ke_X4_isLying kn_X4 kc_X4_isLying rfl hdV_X4_isLying ⟨by decide, by decide⟩ (ms_lt hj 7 (by decide)) (ceX_m hj G 7 _ _) rfl rfl hl.1 rfl (Nat.le_of_ble_eq_true rfl) dX4_isDry_2 (fun z1 w1 H1 locs1 rz1 hp1 hW => ?_)
  obtain ⟨hp1, hq1⟩ := hp1
  subst hq1
  have rz1a := rz1.1
  have rz1b := rz1.2
  rcases hp1 with ⟨e1, hp1⟩ | ⟨e1, hp1⟩
  · subst e1
    obtain ⟨hp11, hp12, hp13⟩ := id hp1
    refine r_if_eq (tgt := 23) hx hb ⟨by omega, by omega⟩ dX4_isDry_5 (by decide) (fun q => absurd q (by decide)) (fun _ => ?_)
    refine lv_aload_n hx hb dX4_isDry_8 rfl (lv_at hl 0 rfl) ?_
    refine r_gR C0 hW (ms_lt hj 7 (by decide)) (ceX_m hj G 7 _ _) rfl hiX4 (k := 2) (by decide) kf_X4_18 rfl rfl rfl dX4_isDry_9 ?_
    refine lv_iload_n hx hb dX4_isDry_12 rfl (lv_at hl 1 rfl) ?_
    refine r_ild C0 hW (ms_lt hj 10 (by decide)) (ceX_m hj G 10 _ _) (n := 120) (by omega) (by omega) (by decide) dX4_isDry_13 (fun z2 (hz2 : z2 = gA (w j) 10 r) rz2 => ?_)
    have rz2a := rz2.1
    have rz2b := rz2.2
    refine r_bipush hx hb dX4_isDry_14 (by decide) ?_
    refine r_icmp_gt (tgt := 23) hx hb rz2 ⟨by omega, by omega⟩ dX4_isDry_16 (by decide) (fun c3 => ?_) (fun c3 => ?_)
    · refine r_iconst hx hb dX4_isDry_23 ?_
      exact r_zret C0 hW (by first | exact Or.inl rfl | exact Or.inr rfl | omega) (⟨by unfold pDr lyi at *; omega, rfl⟩) dX4_isDry_24
    · refine r_iconst hx hb dX4_isDry_19 ?_
      refine lv_goto (tgt := 24) hx hb dX4_isDry_20 (by decide) ?_
      exact r_zret C0 hW (by first | exact Or.inl rfl | exact Or.inr rfl | omega) (⟨by unfold pDr lyi at *; omega, rfl⟩) dX4_isDry_24
  · subst e1
    refine r_if_eq (tgt := 23) hx hb ⟨by omega, by omega⟩ dX4_isDry_5 (by decide) (fun _ => ?_) (fun q => absurd q (by decide))
    refine r_iconst hx hb dX4_isDry_23 ?_
    exact r_zret C0 hW (by first | exact Or.inl rfl | exact Or.inr rfl | omega) (⟨by unfold pDr lyi at *; omega, rfl⟩) dX4_isDry_24
end
section
/-- X4_countLying: its end -/
def po_X4_countLying (w : gW) (j : Nat) : Int → gW → Prop := fun z w1 => (z = cntI (pLy (w j)) (gN (w j) 7 6)) ∧ w = w1
theorem hdV_X4_countLying : yX4_countLying.cls = RX4 ∧ yX4_countLying.cls ≠ "java/lang/invoke/MethodHandle" ∧ yX4_countLying.cls ≠ "java/lang/invoke/VarHandle" ∧ (parseMethodDescriptor yX4_countLying.desc).map (fun d => d.parameters.length) = some 0 := by decide +kernel
set_option maxHeartbeats 4000000 in
set_option maxRecDepth 100000 in
theorem c_X4_countLying (l : Launch) (G : gG) (w : gW) {j : Nat} (hj : ms j) (hwf : wf (w j)) : mI l G yX4_countLying (wU yX4_countLying cX4_countLying 3 (some .int)) (rmL 1 20) [.ref (ad G j 7)] w (po_X4_countLying w j) := by
  refine mI_of (by decide +kernel) (Nat.le_of_ble_eq_true rfl) (fun p e s m args below meth c ls C0 hW hl => ?_)
  have hl : lv_has ls 3 [(0, .ref (ad G j 7))] := hl
  have hx := C0.hx
  have hb := C0.hb
  obtain ⟨⟨hs1, hs2⟩, -⟩ := id hwf
  refine r_iconst hx hb dX4_countLying_0 ?_
  refine lv_istore_n (lv' := [(1, .int (iI 0)), (0, .ref (ad G j 7))]) hx hb dX4_countLying_1 rfl hl (by decide) rfl (fun ls hl => ?_)
  refine r_iconst hx hb dX4_countLying_2 ?_
  refine lv_istore_n (lv' := [(2, .int (iI 0)), (1, .int (iI 0)), (0, .ref (ad G j 7))]) hx hb dX4_countLying_3 rfl hl (by decide) rfl (fun ls hl => ?_)
  have hL4 : ∀ (n : Nat) (x1 : Int) (x2 : Int) (H0 : Heap) (locs0 : List Loc) (ls : Array Slot) (hm : gN (w j) 7 6 - x2 < (n : Int)) (i4_0 : 0 ≤ x2) (i4_1 : x2 ≤ gN (w j) 7 6) (i4_2 : x1 = cntI (pLy (w j)) x2) (hW : wo G w s H0 locs0) (hl : lv_has ls 3 [(2, .int (iI x2)), (1, .int (iI x1)), (0, .ref (ad G j 7))]), W p l e (rmL 1 20) s m args below meth c H0 locs0 0 0 (QI G (po_X4_countLying w j) below args s) (F0 m 4 ls []) := by
    intro n
    induction n with
    | zero =>
      intro x1 x2 H0 locs0 ls hm i4_0 i4_1 i4_2 hW hl
      exact absurd hm (by omega)
    | succ n ih4 =>
      intro x1 x2 H0 locs0 ls hm i4_0 i4_1 i4_2 hW hl
      have hcl := cntI_le (pLy (w j)) i4_0
      refine lv_iload_n hx hb dX4_countLying_4 rfl (lv_at hl 0 rfl) ?_
      refine lv_aload_n hx hb dX4_countLying_5 rfl (lv_at hl 2 rfl) ?_
      refine r_gI C0 hW (ms_lt hj 7 (by decide)) (ceX_m hj G 7 _ _) rfl hiX4 (k := 6) (by decide) kf_X4_39 rfl rfl rfl dX4_countLying_6 (fun z1 (hz1 : z1 = gN (w j) 7 6) rz1 => ?_)
      have rz1a := rz1.1
      have rz1b := rz1.2
      refine r_icmp_ge (tgt := 30) hx hb ⟨by omega, by omega⟩ rz1 dX4_countLying_9 (by decide) (fun c2 => ?_) (fun c2 => ?_)
      · refine lv_iload_n hx hb dX4_countLying_30 rfl (lv_at hl 1 rfl) ?_
        exact r_iret C0 hW ⟨by omega, by omega⟩ (⟨by rw [show gN (w j) 7 6 = x2 from by omega]; omega, rfl⟩) dX4_countLying_31
      · refine lv_iload_n hx hb dX4_countLying_12 rfl (lv_at hl 1 rfl) ?_
        refine lv_aload_n hx hb dX4_countLying_13 rfl (lv_at hl 2 rfl) ?_
        refine r_gR C0 hW (ms_lt hj 7 (by decide)) (ceX_m hj G 7 _ _) rfl hiX4 (k := 5) (by decide) kf_X4_28 rfl rfl rfl dX4_countLying_14 ?_
        refine lv_iload_n hx hb dX4_countLying_17 rfl (lv_at hl 0 rfl) ?_
        refine r_zld C0 hW (ms_lt hj 13 (by decide)) (ceX_m hj G 13 _ _) (n := 120) (by omega) (by omega) (by decide) dX4_countLying_18 (fun z3 (hz3 : z3 = gA (w j) 13 x2) rz3 => ?_)
        have rz3a := rz3.1
        have rz3b := rz3.2
        refine k_Ni (own := "") C0 hW (As := [.int (iI z3)]) (c_X5_oneIf l G w z3 rz3) C0.nst.2.2.2.2.2.2.1 ks_X5_oneIf kn_X5 kc_X5_oneIf hdS_X5_oneIf ⟨by decide, by decide⟩ rfl hl.1 rfl (Nat.le_of_ble_eq_true rfl) dX4_countLying_19 (fun z4 w4 H1 locs1 rz4 hp4 hW => ?_)
        obtain ⟨hp4, hq4⟩ := hp4
        subst hq4
        have rz4a := rz4.1
        have rz4b := rz4.2
        rcases hp4 with ⟨e4, hp4⟩ | ⟨e4, hp4⟩
        · subst e4
          refine r_iadd hx hb dX4_countLying_22 ?_
          refine lv_istore_n (lv' := [(1, .int (iI (x1 + 1))), (2, .int (iI x2)), (0, .ref (ad G j 7))]) hx hb dX4_countLying_23 rfl hl (by decide) rfl (fun ls hl => ?_)
          refine r_iinc (lv' := [(2, .int (iI (x2 + 1))), (1, .int (iI (x1 + 1))), (0, .ref (ad G j 7))]) hx hb dX4_countLying_24 hl (k := 1) rfl (by decide) rfl (fun ls hl => ?_)
          refine lv_goto (tgt := 4) hx hb dX4_countLying_27 (by decide) ?_
          exact ih4 (x1 + 1) (x2 + 1) _ _ ls (by omega) (by omega) (by omega) (by first | (rw [cntI_t (by omega) (by first | assumption | (unfold pLy at *; omega))]; omega) | (rw [cntI_f (by omega) (by first | assumption | (unfold pLy at *; omega))]; omega)) hW (lv_sub hl [0, 1, 2] rfl)
        · subst e4
          refine r_iadd hx hb dX4_countLying_22 ?_
          refine lv_istore_n (lv' := [(1, .int (iI (x1 + 0))), (2, .int (iI x2)), (0, .ref (ad G j 7))]) hx hb dX4_countLying_23 rfl hl (by decide) rfl (fun ls hl => ?_)
          refine r_iinc (lv' := [(2, .int (iI (x2 + 1))), (1, .int (iI (x1 + 0))), (0, .ref (ad G j 7))]) hx hb dX4_countLying_24 hl (k := 1) rfl (by decide) rfl (fun ls hl => ?_)
          refine lv_goto (tgt := 4) hx hb dX4_countLying_27 (by decide) ?_
          exact ih4 (x1 + 0) (x2 + 1) _ _ ls (by omega) (by omega) (by omega) (by first | (rw [cntI_t (by omega) (by first | assumption | (unfold pLy at *; omega))]; omega) | (rw [cntI_f (by omega) (by first | assumption | (unfold pLy at *; omega))]; omega)) hW (lv_sub hl [0, 1, 2] rfl)
  exact hL4 121 0 0 _ _ ls (by omega) (by omega) (by omega) (by rw [cntI_0]) hW (lv_sub hl [0, 1, 2] rfl)

/-- X4_countStacked: its end -/
def po_X4_countStacked (w : gW) (j : Nat) : Int → gW → Prop := fun z w1 => (z = cntI (pSt (w j)) (gN (w j) 7 6)) ∧ w = w1
theorem hdV_X4_countStacked : yX4_countStacked.cls = RX4 ∧ yX4_countStacked.cls ≠ "java/lang/invoke/MethodHandle" ∧ yX4_countStacked.cls ≠ "java/lang/invoke/VarHandle" ∧ (parseMethodDescriptor yX4_countStacked.desc).map (fun d => d.parameters.length) = some 0 := by decide +kernel
set_option maxHeartbeats 4000000 in
set_option maxRecDepth 100000 in
theorem c_X4_countStacked (l : Launch) (G : gG) (w : gW) {j : Nat} (hj : ms j) (hwf : wf (w j)) : mI l G yX4_countStacked (wU yX4_countStacked cX4_countStacked 3 (some .int)) (rmL 3 64) [.ref (ad G j 7)] w (po_X4_countStacked w j) := by
  refine mI_of (by decide +kernel) (Nat.le_of_ble_eq_true rfl) (fun p e s m args below meth c ls C0 hW hl => ?_)
  have hl : lv_has ls 3 [(0, .ref (ad G j 7))] := hl
  have hx := C0.hx
  have hb := C0.hb
  obtain ⟨⟨hs1, hs2⟩, -⟩ := id hwf
  refine r_iconst hx hb dX4_countStacked_0 ?_
  refine lv_istore_n (lv' := [(1, .int (iI 0)), (0, .ref (ad G j 7))]) hx hb dX4_countStacked_1 rfl hl (by decide) rfl (fun ls hl => ?_)
  refine r_iconst hx hb dX4_countStacked_2 ?_
  refine lv_istore_n (lv' := [(2, .int (iI 0)), (1, .int (iI 0)), (0, .ref (ad G j 7))]) hx hb dX4_countStacked_3 rfl hl (by decide) rfl (fun ls hl => ?_)
  have hL4 : ∀ (n : Nat) (x1 : Int) (x2 : Int) (H0 : Heap) (locs0 : List Loc) (ls : Array Slot) (hm : gN (w j) 7 6 - x2 < (n : Int)) (i4_0 : 0 ≤ x2) (i4_1 : x2 ≤ gN (w j) 7 6) (i4_2 : x1 = cntI (pSt (w j)) x2) (hW : wo G w s H0 locs0) (hl : lv_has ls 3 [(2, .int (iI x2)), (1, .int (iI x1)), (0, .ref (ad G j 7))]), W p l e (rmL 3 64) s m args below meth c H0 locs0 0 0 (QI G (po_X4_countStacked w j) below args s) (F0 m 4 ls []) := by
    intro n
    induction n with
    | zero =>
      intro x1 x2 H0 locs0 ls hm i4_0 i4_1 i4_2 hW hl
      exact absurd hm (by omega)
    | succ n ih4 =>
      intro x1 x2 H0 locs0 ls hm i4_0 i4_1 i4_2 hW hl
      have hcl := cntI_le (pSt (w j)) i4_0
      refine lv_iload_n hx hb dX4_countStacked_4 rfl (lv_at hl 0 rfl) ?_
      refine lv_aload_n hx hb dX4_countStacked_5 rfl (lv_at hl 2 rfl) ?_
      refine r_gI C0 hW (ms_lt hj 7 (by decide)) (ceX_m hj G 7 _ _) rfl hiX4 (k := 6) (by decide) kf_X4_39 rfl rfl rfl dX4_countStacked_6 (fun z1 (hz1 : z1 = gN (w j) 7 6) rz1 => ?_)
      have rz1a := rz1.1
      have rz1b := rz1.2
      refine r_icmp_ge (tgt := 29) hx hb ⟨by omega, by omega⟩ rz1 dX4_countStacked_9 (by decide) (fun c2 => ?_) (fun c2 => ?_)
      · refine lv_iload_n hx hb dX4_countStacked_29 rfl (lv_at hl 1 rfl) ?_
        exact r_iret C0 hW ⟨by omega, by omega⟩ (⟨by rw [show gN (w j) 7 6 = x2 from by omega]; omega, rfl⟩) dX4_countStacked_30
      · refine lv_iload_n hx hb dX4_countStacked_12 rfl (lv_at hl 1 rfl) ?_
        refine lv_aload_n hx hb dX4_countStacked_13 rfl (lv_at hl 2 rfl) ?_
        refine lv_iload_n hx hb dX4_countStacked_14 rfl (lv_at hl 0 rfl) ?_
        refine k_Vi (j := j) (k0 := 7) C0 hW (c_X4_isStacked l G w hj (hwf) x2 ⟨by omega, by omega⟩) km_X4_65 ki_X4_isStacked ke_X4_isStacked kn_X4 kc_X4_isStacked rfl hdV_X4_isStacked ⟨by decide, by decide⟩ (ms_lt hj 7 (by decide)) (ceX_m hj G 7 _ _) rfl rfl hl.1 rfl (Nat.le_of_ble_eq_true rfl) dX4_countStacked_15 (fun z3 w3 H1 locs1 rz3 hp3 hW => ?_)
        obtain ⟨hp3, hq3⟩ := hp3
        subst hq3
        have rz3a := rz3.1
        have rz3b := rz3.2
        rcases hp3 with ⟨e3, hp3⟩ | ⟨e3, hp3⟩
        · subst e3
          refine k_Ni (own := "") C0 hW (As := [.int (iI 1)]) (c_X5_oneIf l G w 1 ⟨by omega, by omega⟩) C0.nst.2.2.2.2.2.2.1 ks_X5_oneIf kn_X5 kc_X5_oneIf hdS_X5_oneIf ⟨by decide, by decide⟩ rfl hl.1 rfl (Nat.le_of_ble_eq_true rfl) dX4_countStacked_18 (fun z4 w4 H1 locs1 rz4 hp4 hW => ?_)
          obtain ⟨hp4, hq4⟩ := hp4
          subst hq4
          have rz4a := rz4.1
          have rz4b := rz4.2
          rcases hp4 with ⟨e4, hp4⟩ | ⟨e4, hp4⟩
          · subst e4
            refine r_iadd hx hb dX4_countStacked_21 ?_
            refine lv_istore_n (lv' := [(1, .int (iI (x1 + 1))), (2, .int (iI x2)), (0, .ref (ad G j 7))]) hx hb dX4_countStacked_22 rfl hl (by decide) rfl (fun ls hl => ?_)
            refine r_iinc (lv' := [(2, .int (iI (x2 + 1))), (1, .int (iI (x1 + 1))), (0, .ref (ad G j 7))]) hx hb dX4_countStacked_23 hl (k := 1) rfl (by decide) rfl (fun ls hl => ?_)
            refine lv_goto (tgt := 4) hx hb dX4_countStacked_26 (by decide) ?_
            exact ih4 (x1 + 1) (x2 + 1) _ _ ls (by omega) (by omega) (by omega) (by first | (rw [cntI_t (by omega) (by first | assumption | (unfold pSt lyi at *; omega))]; omega) | (rw [cntI_f (by omega) (by first | assumption | (unfold pSt lyi at *; omega))]; omega)) hW (lv_sub hl [0, 1, 2] rfl)
          · subst e4
            refine r_iadd hx hb dX4_countStacked_21 ?_
            refine lv_istore_n (lv' := [(1, .int (iI (x1 + 0))), (2, .int (iI x2)), (0, .ref (ad G j 7))]) hx hb dX4_countStacked_22 rfl hl (by decide) rfl (fun ls hl => ?_)
            refine r_iinc (lv' := [(2, .int (iI (x2 + 1))), (1, .int (iI (x1 + 0))), (0, .ref (ad G j 7))]) hx hb dX4_countStacked_23 hl (k := 1) rfl (by decide) rfl (fun ls hl => ?_)
            refine lv_goto (tgt := 4) hx hb dX4_countStacked_26 (by decide) ?_
            exact ih4 (x1 + 0) (x2 + 1) _ _ ls (by omega) (by omega) (by omega) (by first | (rw [cntI_t (by omega) (by first | assumption | (unfold pSt lyi at *; omega))]; omega) | (rw [cntI_f (by omega) (by first | assumption | (unfold pSt lyi at *; omega))]; omega)) hW (lv_sub hl [0, 1, 2] rfl)
        · subst e3
          refine k_Ni (own := "") C0 hW (As := [.int (iI 0)]) (c_X5_oneIf l G w 0 ⟨by omega, by omega⟩) C0.nst.2.2.2.2.2.2.1 ks_X5_oneIf kn_X5 kc_X5_oneIf hdS_X5_oneIf ⟨by decide, by decide⟩ rfl hl.1 rfl (Nat.le_of_ble_eq_true rfl) dX4_countStacked_18 (fun z5 w5 H1 locs1 rz5 hp5 hW => ?_)
          obtain ⟨hp5, hq5⟩ := hp5
          subst hq5
          have rz5a := rz5.1
          have rz5b := rz5.2
          rcases hp5 with ⟨e5, hp5⟩ | ⟨e5, hp5⟩
          · subst e5
            refine r_iadd hx hb dX4_countStacked_21 ?_
            refine lv_istore_n (lv' := [(1, .int (iI (x1 + 1))), (2, .int (iI x2)), (0, .ref (ad G j 7))]) hx hb dX4_countStacked_22 rfl hl (by decide) rfl (fun ls hl => ?_)
            refine r_iinc (lv' := [(2, .int (iI (x2 + 1))), (1, .int (iI (x1 + 1))), (0, .ref (ad G j 7))]) hx hb dX4_countStacked_23 hl (k := 1) rfl (by decide) rfl (fun ls hl => ?_)
            refine lv_goto (tgt := 4) hx hb dX4_countStacked_26 (by decide) ?_
            exact ih4 (x1 + 1) (x2 + 1) _ _ ls (by omega) (by omega) (by omega) (by first | (rw [cntI_t (by omega) (by first | assumption | (unfold pSt lyi at *; omega))]; omega) | (rw [cntI_f (by omega) (by first | assumption | (unfold pSt lyi at *; omega))]; omega)) hW (lv_sub hl [0, 1, 2] rfl)
          · subst e5
            refine r_iadd hx hb dX4_countStacked_21 ?_
            refine lv_istore_n (lv' := [(1, .int (iI (x1 + 0))), (2, .int (iI x2)), (0, .ref (ad G j 7))]) hx hb dX4_countStacked_22 rfl hl (by decide) rfl (fun ls hl => ?_)
            refine r_iinc (lv' := [(2, .int (iI (x2 + 1))), (1, .int (iI (x1 + 0))), (0, .ref (ad G j 7))]) hx hb dX4_countStacked_23 hl (k := 1) rfl (by decide) rfl (fun ls hl => ?_)
            refine lv_goto (tgt := 4) hx hb dX4_countStacked_26 (by decide) ?_
            exact ih4 (x1 + 0) (x2 + 1) _ _ ls (by omega) (by omega) (by omega) (by first | (rw [cntI_t (by omega) (by first | assumption | (unfold pSt lyi at *; omega))]; omega) | (rw [cntI_f (by omega) (by first | assumption | (unfold pSt lyi at *; omega))]; omega)) hW (lv_sub hl [0, 1, 2] rfl)
  exact hL4 121 0 0 _ _ ls (by omega) (by omega) (by omega) (by rw [cntI_0]) hW (lv_sub hl [0, 1, 2] rfl)

/-- X4_countDry: its end -/
def po_X4_countDry (w : gW) (j : Nat) : Int → gW → Prop := fun z w1 => (z = cntI (pDr (w j)) (gN (w j) 7 6)) ∧ w = w1
theorem hdV_X4_countDry : yX4_countDry.cls = RX4 ∧ yX4_countDry.cls ≠ "java/lang/invoke/MethodHandle" ∧ yX4_countDry.cls ≠ "java/lang/invoke/VarHandle" ∧ (parseMethodDescriptor yX4_countDry.desc).map (fun d => d.parameters.length) = some 0 := by decide +kernel
set_option maxHeartbeats 4000000 in
set_option maxRecDepth 100000 in
theorem c_X4_countDry (l : Launch) (G : gG) (w : gW) {j : Nat} (hj : ms j) (hwf : wf (w j)) : mI l G yX4_countDry (wU yX4_countDry cX4_countDry 3 (some .int)) (rmL 3 64) [.ref (ad G j 7)] w (po_X4_countDry w j) := by
  refine mI_of (by decide +kernel) (Nat.le_of_ble_eq_true rfl) (fun p e s m args below meth c ls C0 hW hl => ?_)
  have hl : lv_has ls 3 [(0, .ref (ad G j 7))] := hl
  have hx := C0.hx
  have hb := C0.hb
  obtain ⟨⟨hs1, hs2⟩, -⟩ := id hwf
  refine r_iconst hx hb dX4_countDry_0 ?_
  refine lv_istore_n (lv' := [(1, .int (iI 0)), (0, .ref (ad G j 7))]) hx hb dX4_countDry_1 rfl hl (by decide) rfl (fun ls hl => ?_)
  refine r_iconst hx hb dX4_countDry_2 ?_
  refine lv_istore_n (lv' := [(2, .int (iI 0)), (1, .int (iI 0)), (0, .ref (ad G j 7))]) hx hb dX4_countDry_3 rfl hl (by decide) rfl (fun ls hl => ?_)
  have hL4 : ∀ (n : Nat) (x1 : Int) (x2 : Int) (H0 : Heap) (locs0 : List Loc) (ls : Array Slot) (hm : gN (w j) 7 6 - x2 < (n : Int)) (i4_0 : 0 ≤ x2) (i4_1 : x2 ≤ gN (w j) 7 6) (i4_2 : x1 = cntI (pDr (w j)) x2) (hW : wo G w s H0 locs0) (hl : lv_has ls 3 [(2, .int (iI x2)), (1, .int (iI x1)), (0, .ref (ad G j 7))]), W p l e (rmL 3 64) s m args below meth c H0 locs0 0 0 (QI G (po_X4_countDry w j) below args s) (F0 m 4 ls []) := by
    intro n
    induction n with
    | zero =>
      intro x1 x2 H0 locs0 ls hm i4_0 i4_1 i4_2 hW hl
      exact absurd hm (by omega)
    | succ n ih4 =>
      intro x1 x2 H0 locs0 ls hm i4_0 i4_1 i4_2 hW hl
      have hcl := cntI_le (pDr (w j)) i4_0
      refine lv_iload_n hx hb dX4_countDry_4 rfl (lv_at hl 0 rfl) ?_
      refine lv_aload_n hx hb dX4_countDry_5 rfl (lv_at hl 2 rfl) ?_
      refine r_gI C0 hW (ms_lt hj 7 (by decide)) (ceX_m hj G 7 _ _) rfl hiX4 (k := 6) (by decide) kf_X4_39 rfl rfl rfl dX4_countDry_6 (fun z1 (hz1 : z1 = gN (w j) 7 6) rz1 => ?_)
      have rz1a := rz1.1
      have rz1b := rz1.2
      refine r_icmp_ge (tgt := 29) hx hb ⟨by omega, by omega⟩ rz1 dX4_countDry_9 (by decide) (fun c2 => ?_) (fun c2 => ?_)
      · refine lv_iload_n hx hb dX4_countDry_29 rfl (lv_at hl 1 rfl) ?_
        exact r_iret C0 hW ⟨by omega, by omega⟩ (⟨by rw [show gN (w j) 7 6 = x2 from by omega]; omega, rfl⟩) dX4_countDry_30
      · refine lv_iload_n hx hb dX4_countDry_12 rfl (lv_at hl 1 rfl) ?_
        refine lv_aload_n hx hb dX4_countDry_13 rfl (lv_at hl 2 rfl) ?_
        refine lv_iload_n hx hb dX4_countDry_14 rfl (lv_at hl 0 rfl) ?_
        refine k_Vi (j := j) (k0 := 7) C0 hW (c_X4_isDry l G w hj (hwf) x2 ⟨by omega, by omega⟩) km_X4_68 ki_X4_isDry ke_X4_isDry kn_X4 kc_X4_isDry rfl hdV_X4_isDry ⟨by decide, by decide⟩ (ms_lt hj 7 (by decide)) (ceX_m hj G 7 _ _) rfl rfl hl.1 rfl (Nat.le_of_ble_eq_true rfl) dX4_countDry_15 (fun z3 w3 H1 locs1 rz3 hp3 hW => ?_)
        obtain ⟨hp3, hq3⟩ := hp3
        subst hq3
        have rz3a := rz3.1
        have rz3b := rz3.2
        rcases hp3 with ⟨e3, hp3⟩ | ⟨e3, hp3⟩
        · subst e3
          refine k_Ni (own := "") C0 hW (As := [.int (iI 1)]) (c_X5_oneIf l G w 1 ⟨by omega, by omega⟩) C0.nst.2.2.2.2.2.2.1 ks_X5_oneIf kn_X5 kc_X5_oneIf hdS_X5_oneIf ⟨by decide, by decide⟩ rfl hl.1 rfl (Nat.le_of_ble_eq_true rfl) dX4_countDry_18 (fun z4 w4 H1 locs1 rz4 hp4 hW => ?_)
          obtain ⟨hp4, hq4⟩ := hp4
          subst hq4
          have rz4a := rz4.1
          have rz4b := rz4.2
          rcases hp4 with ⟨e4, hp4⟩ | ⟨e4, hp4⟩
          · subst e4
            refine r_iadd hx hb dX4_countDry_21 ?_
            refine lv_istore_n (lv' := [(1, .int (iI (x1 + 1))), (2, .int (iI x2)), (0, .ref (ad G j 7))]) hx hb dX4_countDry_22 rfl hl (by decide) rfl (fun ls hl => ?_)
            refine r_iinc (lv' := [(2, .int (iI (x2 + 1))), (1, .int (iI (x1 + 1))), (0, .ref (ad G j 7))]) hx hb dX4_countDry_23 hl (k := 1) rfl (by decide) rfl (fun ls hl => ?_)
            refine lv_goto (tgt := 4) hx hb dX4_countDry_26 (by decide) ?_
            exact ih4 (x1 + 1) (x2 + 1) _ _ ls (by omega) (by omega) (by omega) (by first | (rw [cntI_t (by omega) (by first | assumption | (unfold pDr lyi at *; omega))]; omega) | (rw [cntI_f (by omega) (by first | assumption | (unfold pDr lyi at *; omega))]; omega)) hW (lv_sub hl [0, 1, 2] rfl)
          · subst e4
            refine r_iadd hx hb dX4_countDry_21 ?_
            refine lv_istore_n (lv' := [(1, .int (iI (x1 + 0))), (2, .int (iI x2)), (0, .ref (ad G j 7))]) hx hb dX4_countDry_22 rfl hl (by decide) rfl (fun ls hl => ?_)
            refine r_iinc (lv' := [(2, .int (iI (x2 + 1))), (1, .int (iI (x1 + 0))), (0, .ref (ad G j 7))]) hx hb dX4_countDry_23 hl (k := 1) rfl (by decide) rfl (fun ls hl => ?_)
            refine lv_goto (tgt := 4) hx hb dX4_countDry_26 (by decide) ?_
            exact ih4 (x1 + 0) (x2 + 1) _ _ ls (by omega) (by omega) (by omega) (by first | (rw [cntI_t (by omega) (by first | assumption | (unfold pDr lyi at *; omega))]; omega) | (rw [cntI_f (by omega) (by first | assumption | (unfold pDr lyi at *; omega))]; omega)) hW (lv_sub hl [0, 1, 2] rfl)
        · subst e3
          refine k_Ni (own := "") C0 hW (As := [.int (iI 0)]) (c_X5_oneIf l G w 0 ⟨by omega, by omega⟩) C0.nst.2.2.2.2.2.2.1 ks_X5_oneIf kn_X5 kc_X5_oneIf hdS_X5_oneIf ⟨by decide, by decide⟩ rfl hl.1 rfl (Nat.le_of_ble_eq_true rfl) dX4_countDry_18 (fun z5 w5 H1 locs1 rz5 hp5 hW => ?_)
          obtain ⟨hp5, hq5⟩ := hp5
          subst hq5
          have rz5a := rz5.1
          have rz5b := rz5.2
          rcases hp5 with ⟨e5, hp5⟩ | ⟨e5, hp5⟩
          · subst e5
            refine r_iadd hx hb dX4_countDry_21 ?_
            refine lv_istore_n (lv' := [(1, .int (iI (x1 + 1))), (2, .int (iI x2)), (0, .ref (ad G j 7))]) hx hb dX4_countDry_22 rfl hl (by decide) rfl (fun ls hl => ?_)
            refine r_iinc (lv' := [(2, .int (iI (x2 + 1))), (1, .int (iI (x1 + 1))), (0, .ref (ad G j 7))]) hx hb dX4_countDry_23 hl (k := 1) rfl (by decide) rfl (fun ls hl => ?_)
            refine lv_goto (tgt := 4) hx hb dX4_countDry_26 (by decide) ?_
            exact ih4 (x1 + 1) (x2 + 1) _ _ ls (by omega) (by omega) (by omega) (by first | (rw [cntI_t (by omega) (by first | assumption | (unfold pDr lyi at *; omega))]; omega) | (rw [cntI_f (by omega) (by first | assumption | (unfold pDr lyi at *; omega))]; omega)) hW (lv_sub hl [0, 1, 2] rfl)
          · subst e5
            refine r_iadd hx hb dX4_countDry_21 ?_
            refine lv_istore_n (lv' := [(1, .int (iI (x1 + 0))), (2, .int (iI x2)), (0, .ref (ad G j 7))]) hx hb dX4_countDry_22 rfl hl (by decide) rfl (fun ls hl => ?_)
            refine r_iinc (lv' := [(2, .int (iI (x2 + 1))), (1, .int (iI (x1 + 0))), (0, .ref (ad G j 7))]) hx hb dX4_countDry_23 hl (k := 1) rfl (by decide) rfl (fun ls hl => ?_)
            refine lv_goto (tgt := 4) hx hb dX4_countDry_26 (by decide) ?_
            exact ih4 (x1 + 0) (x2 + 1) _ _ ls (by omega) (by omega) (by omega) (by first | (rw [cntI_t (by omega) (by first | assumption | (unfold pDr lyi at *; omega))]; omega) | (rw [cntI_f (by omega) (by first | assumption | (unfold pDr lyi at *; omega))]; omega)) hW (lv_sub hl [0, 1, 2] rfl)
  exact hL4 121 0 0 _ _ ls (by omega) (by omega) (by omega) (by rw [cntI_0]) hW (lv_sub hl [0, 1, 2] rfl)

/-- X4_countLyingOf: its end -/
def po_X4_countLyingOf (w : gW) (j : Nat) (co : Int) : Int → gW → Prop := fun z w1 => (z = cntI (pOf (w j) co) (gN (w j) 7 6)) ∧ w = w1
theorem hdV_X4_countLyingOf : yX4_countLyingOf.cls = RX4 ∧ yX4_countLyingOf.cls ≠ "java/lang/invoke/MethodHandle" ∧ yX4_countLyingOf.cls ≠ "java/lang/invoke/VarHandle" ∧ (parseMethodDescriptor yX4_countLyingOf.desc).map (fun d => d.parameters.length) = some 1 := by decide +kernel
set_option maxHeartbeats 4000000 in
set_option maxRecDepth 100000 in
theorem c_X4_countLyingOf (l : Launch) (G : gG) (w : gW) {j : Nat} (hj : ms j) (hwf : wf (w j)) (co : Int) (rco : inR co) : mI l G yX4_countLyingOf (wU yX4_countLyingOf cX4_countLyingOf 4 (some .int)) (rmL 3 65) [.ref (ad G j 7), .int (iI co)] w (po_X4_countLyingOf w j co) := by
  refine mI_of (by decide +kernel) (Nat.le_of_ble_eq_true rfl) (fun p e s m args below meth c ls C0 hW hl => ?_)
  have hl : lv_has ls 4 [(0, .ref (ad G j 7)), (1, .int (iI co))] := hl
  have hx := C0.hx
  have hb := C0.hb
  obtain ⟨⟨hs1, hs2⟩, -⟩ := id hwf
  refine r_iconst hx hb dX4_countLyingOf_0 ?_
  refine lv_istore_n (lv' := [(2, .int (iI 0)), (0, .ref (ad G j 7)), (1, .int (iI co))]) hx hb dX4_countLyingOf_1 rfl hl (by decide) rfl (fun ls hl => ?_)
  refine r_iconst hx hb dX4_countLyingOf_2 ?_
  refine lv_istore_n (lv' := [(3, .int (iI 0)), (2, .int (iI 0)), (0, .ref (ad G j 7)), (1, .int (iI co))]) hx hb dX4_countLyingOf_3 rfl hl (by decide) rfl (fun ls hl => ?_)
  have hL4 : ∀ (n : Nat) (x2 : Int) (x3 : Int) (H0 : Heap) (locs0 : List Loc) (ls : Array Slot) (hm : gN (w j) 7 6 - x3 < (n : Int)) (i4_0 : 0 ≤ x3) (i4_1 : x3 ≤ gN (w j) 7 6) (i4_2 : x2 = cntI (pOf (w j) co) x3) (hW : wo G w s H0 locs0) (hl : lv_has ls 4 [(3, .int (iI x3)), (2, .int (iI x2)), (0, .ref (ad G j 7)), (1, .int (iI co))]), W p l e (rmL 3 65) s m args below meth c H0 locs0 0 0 (QI G (po_X4_countLyingOf w j co) below args s) (F0 m 4 ls []) := by
    intro n
    induction n with
    | zero =>
      intro x2 x3 H0 locs0 ls hm i4_0 i4_1 i4_2 hW hl
      exact absurd hm (by omega)
    | succ n ih4 =>
      intro x2 x3 H0 locs0 ls hm i4_0 i4_1 i4_2 hW hl
      have hcl := cntI_le (pOf (w j) co) i4_0
      refine lv_iload_n hx hb dX4_countLyingOf_4 rfl (lv_at hl 0 rfl) ?_
      refine lv_aload_n hx hb dX4_countLyingOf_5 rfl (lv_at hl 2 rfl) ?_
      refine r_gI C0 hW (ms_lt hj 7 (by decide)) (ceX_m hj G 7 _ _) rfl hiX4 (k := 6) (by decide) kf_X4_39 rfl rfl rfl dX4_countLyingOf_6 (fun z1 (hz1 : z1 = gN (w j) 7 6) rz1 => ?_)
      have rz1a := rz1.1
      have rz1b := rz1.2
      refine r_icmp_ge (tgt := 30) hx hb ⟨by omega, by omega⟩ rz1 dX4_countLyingOf_9 (by decide) (fun c2 => ?_) (fun c2 => ?_)
      · refine lv_iload_n hx hb dX4_countLyingOf_30 rfl (lv_at hl 1 rfl) ?_
        exact r_iret C0 hW ⟨by omega, by omega⟩ (⟨by rw [show gN (w j) 7 6 = x3 from by omega]; omega, rfl⟩) dX4_countLyingOf_31
      · refine lv_iload_n hx hb dX4_countLyingOf_12 rfl (lv_at hl 1 rfl) ?_
        refine lv_aload_n hx hb dX4_countLyingOf_13 rfl (lv_at hl 2 rfl) ?_
        refine lv_iload_n hx hb dX4_countLyingOf_14 rfl (lv_at hl 0 rfl) ?_
        refine lv_iload_n hx hb dX4_countLyingOf_15 rfl (lv_at hl 3 rfl) ?_
        refine k_Vi (j := j) (k0 := 7) C0 hW (c_X4_isLyingOf l G w hj (hwf) x3 co ⟨by omega, by omega⟩ rco) km_X4_71 ki_X4_isLyingOf ke_X4_isLyingOf kn_X4 kc_X4_isLyingOf rfl hdV_X4_isLyingOf ⟨by decide, by decide⟩ (ms_lt hj 7 (by decide)) (ceX_m hj G 7 _ _) rfl rfl hl.1 rfl (Nat.le_of_ble_eq_true rfl) dX4_countLyingOf_16 (fun z3 w3 H1 locs1 rz3 hp3 hW => ?_)
        obtain ⟨hp3, hq3⟩ := hp3
        subst hq3
        have rz3a := rz3.1
        have rz3b := rz3.2
        rcases hp3 with ⟨e3, hp3⟩ | ⟨e3, hp3⟩
        · subst e3
          refine k_Ni (own := "") C0 hW (As := [.int (iI 1)]) (c_X5_oneIf l G w 1 ⟨by omega, by omega⟩) C0.nst.2.2.2.2.2.2.1 ks_X5_oneIf kn_X5 kc_X5_oneIf hdS_X5_oneIf ⟨by decide, by decide⟩ rfl hl.1 rfl (Nat.le_of_ble_eq_true rfl) dX4_countLyingOf_19 (fun z4 w4 H1 locs1 rz4 hp4 hW => ?_)
          obtain ⟨hp4, hq4⟩ := hp4
          subst hq4
          have rz4a := rz4.1
          have rz4b := rz4.2
          rcases hp4 with ⟨e4, hp4⟩ | ⟨e4, hp4⟩
          · subst e4
            refine r_iadd hx hb dX4_countLyingOf_22 ?_
            refine lv_istore_n (lv' := [(2, .int (iI (x2 + 1))), (3, .int (iI x3)), (0, .ref (ad G j 7)), (1, .int (iI co))]) hx hb dX4_countLyingOf_23 rfl hl (by decide) rfl (fun ls hl => ?_)
            refine r_iinc (lv' := [(3, .int (iI (x3 + 1))), (2, .int (iI (x2 + 1))), (0, .ref (ad G j 7)), (1, .int (iI co))]) hx hb dX4_countLyingOf_24 hl (k := 1) rfl (by decide) rfl (fun ls hl => ?_)
            refine lv_goto (tgt := 4) hx hb dX4_countLyingOf_27 (by decide) ?_
            exact ih4 (x2 + 1) (x3 + 1) _ _ ls (by omega) (by omega) (by omega) (by first | (rw [cntI_t (by omega) (by first | assumption | (unfold pOf lyi at *; omega))]; omega) | (rw [cntI_f (by omega) (by first | assumption | (unfold pOf lyi at *; omega))]; omega)) hW (lv_sub hl [0, 1, 2, 3] rfl)
          · subst e4
            refine r_iadd hx hb dX4_countLyingOf_22 ?_
            refine lv_istore_n (lv' := [(2, .int (iI (x2 + 0))), (3, .int (iI x3)), (0, .ref (ad G j 7)), (1, .int (iI co))]) hx hb dX4_countLyingOf_23 rfl hl (by decide) rfl (fun ls hl => ?_)
            refine r_iinc (lv' := [(3, .int (iI (x3 + 1))), (2, .int (iI (x2 + 0))), (0, .ref (ad G j 7)), (1, .int (iI co))]) hx hb dX4_countLyingOf_24 hl (k := 1) rfl (by decide) rfl (fun ls hl => ?_)
            refine lv_goto (tgt := 4) hx hb dX4_countLyingOf_27 (by decide) ?_
            exact ih4 (x2 + 0) (x3 + 1) _ _ ls (by omega) (by omega) (by omega) (by first | (rw [cntI_t (by omega) (by first | assumption | (unfold pOf lyi at *; omega))]; omega) | (rw [cntI_f (by omega) (by first | assumption | (unfold pOf lyi at *; omega))]; omega)) hW (lv_sub hl [0, 1, 2, 3] rfl)
        · subst e3
          refine k_Ni (own := "") C0 hW (As := [.int (iI 0)]) (c_X5_oneIf l G w 0 ⟨by omega, by omega⟩) C0.nst.2.2.2.2.2.2.1 ks_X5_oneIf kn_X5 kc_X5_oneIf hdS_X5_oneIf ⟨by decide, by decide⟩ rfl hl.1 rfl (Nat.le_of_ble_eq_true rfl) dX4_countLyingOf_19 (fun z5 w5 H1 locs1 rz5 hp5 hW => ?_)
          obtain ⟨hp5, hq5⟩ := hp5
          subst hq5
          have rz5a := rz5.1
          have rz5b := rz5.2
          rcases hp5 with ⟨e5, hp5⟩ | ⟨e5, hp5⟩
          · subst e5
            refine r_iadd hx hb dX4_countLyingOf_22 ?_
            refine lv_istore_n (lv' := [(2, .int (iI (x2 + 1))), (3, .int (iI x3)), (0, .ref (ad G j 7)), (1, .int (iI co))]) hx hb dX4_countLyingOf_23 rfl hl (by decide) rfl (fun ls hl => ?_)
            refine r_iinc (lv' := [(3, .int (iI (x3 + 1))), (2, .int (iI (x2 + 1))), (0, .ref (ad G j 7)), (1, .int (iI co))]) hx hb dX4_countLyingOf_24 hl (k := 1) rfl (by decide) rfl (fun ls hl => ?_)
            refine lv_goto (tgt := 4) hx hb dX4_countLyingOf_27 (by decide) ?_
            exact ih4 (x2 + 1) (x3 + 1) _ _ ls (by omega) (by omega) (by omega) (by first | (rw [cntI_t (by omega) (by first | assumption | (unfold pOf lyi at *; omega))]; omega) | (rw [cntI_f (by omega) (by first | assumption | (unfold pOf lyi at *; omega))]; omega)) hW (lv_sub hl [0, 1, 2, 3] rfl)
          · subst e5
            refine r_iadd hx hb dX4_countLyingOf_22 ?_
            refine lv_istore_n (lv' := [(2, .int (iI (x2 + 0))), (3, .int (iI x3)), (0, .ref (ad G j 7)), (1, .int (iI co))]) hx hb dX4_countLyingOf_23 rfl hl (by decide) rfl (fun ls hl => ?_)
            refine r_iinc (lv' := [(3, .int (iI (x3 + 1))), (2, .int (iI (x2 + 0))), (0, .ref (ad G j 7)), (1, .int (iI co))]) hx hb dX4_countLyingOf_24 hl (k := 1) rfl (by decide) rfl (fun ls hl => ?_)
            refine lv_goto (tgt := 4) hx hb dX4_countLyingOf_27 (by decide) ?_
            exact ih4 (x2 + 0) (x3 + 1) _ _ ls (by omega) (by omega) (by omega) (by first | (rw [cntI_t (by omega) (by first | assumption | (unfold pOf lyi at *; omega))]; omega) | (rw [cntI_f (by omega) (by first | assumption | (unfold pOf lyi at *; omega))]; omega)) hW (lv_sub hl [0, 1, 2, 3] rfl)
  exact hL4 121 0 0 _ _ ls (by omega) (by omega) (by omega) (by rw [cntI_0]) hW (lv_sub hl [0, 1, 2, 3] rfl)

/-- X4_countStackedOf: its end -/
def po_X4_countStackedOf (w : gW) (j : Nat) (co : Int) : Int → gW → Prop := fun z w1 => (z = cntI (pSO (w j) co) (gN (w j) 7 6)) ∧ w = w1
theorem hdV_X4_countStackedOf : yX4_countStackedOf.cls = RX4 ∧ yX4_countStackedOf.cls ≠ "java/lang/invoke/MethodHandle" ∧ yX4_countStackedOf.cls ≠ "java/lang/invoke/VarHandle" ∧ (parseMethodDescriptor yX4_countStackedOf.desc).map (fun d => d.parameters.length) = some 1 := by decide +kernel
set_option maxHeartbeats 4000000 in
set_option maxRecDepth 100000 in
theorem c_X4_countStackedOf (l : Launch) (G : gG) (w : gW) {j : Nat} (hj : ms j) (hwf : wf (w j)) (co : Int) (rco : inR co) : mI l G yX4_countStackedOf (wU yX4_countStackedOf cX4_countStackedOf 4 (some .int)) (rmL 3 64) [.ref (ad G j 7), .int (iI co)] w (po_X4_countStackedOf w j co) := by
  refine mI_of (by decide +kernel) (Nat.le_of_ble_eq_true rfl) (fun p e s m args below meth c ls C0 hW hl => ?_)
  have hl : lv_has ls 4 [(0, .ref (ad G j 7)), (1, .int (iI co))] := hl
  have hx := C0.hx
  have hb := C0.hb
  obtain ⟨⟨hs1, hs2⟩, -⟩ := id hwf
  refine r_iconst hx hb dX4_countStackedOf_0 ?_
  refine lv_istore_n (lv' := [(2, .int (iI 0)), (0, .ref (ad G j 7)), (1, .int (iI co))]) hx hb dX4_countStackedOf_1 rfl hl (by decide) rfl (fun ls hl => ?_)
  refine r_iconst hx hb dX4_countStackedOf_2 ?_
  refine lv_istore_n (lv' := [(3, .int (iI 0)), (2, .int (iI 0)), (0, .ref (ad G j 7)), (1, .int (iI co))]) hx hb dX4_countStackedOf_3 rfl hl (by decide) rfl (fun ls hl => ?_)
  have hL4 : ∀ (n : Nat) (x2 : Int) (x3 : Int) (H0 : Heap) (locs0 : List Loc) (ls : Array Slot) (hm : gN (w j) 7 6 - x3 < (n : Int)) (i4_0 : 0 ≤ x3) (i4_1 : x3 ≤ gN (w j) 7 6) (i4_2 : x2 = cntI (pSO (w j) co) x3) (hW : wo G w s H0 locs0) (hl : lv_has ls 4 [(3, .int (iI x3)), (2, .int (iI x2)), (0, .ref (ad G j 7)), (1, .int (iI co))]), W p l e (rmL 3 64) s m args below meth c H0 locs0 0 0 (QI G (po_X4_countStackedOf w j co) below args s) (F0 m 4 ls []) := by
    intro n
    induction n with
    | zero =>
      intro x2 x3 H0 locs0 ls hm i4_0 i4_1 i4_2 hW hl
      exact absurd hm (by omega)
    | succ n ih4 =>
      intro x2 x3 H0 locs0 ls hm i4_0 i4_1 i4_2 hW hl
      have hcl := cntI_le (pSO (w j) co) i4_0
      refine lv_iload_n hx hb dX4_countStackedOf_4 rfl (lv_at hl 0 rfl) ?_
      refine lv_aload_n hx hb dX4_countStackedOf_5 rfl (lv_at hl 2 rfl) ?_
      refine r_gI C0 hW (ms_lt hj 7 (by decide)) (ceX_m hj G 7 _ _) rfl hiX4 (k := 6) (by decide) kf_X4_39 rfl rfl rfl dX4_countStackedOf_6 (fun z1 (hz1 : z1 = gN (w j) 7 6) rz1 => ?_)
      have rz1a := rz1.1
      have rz1b := rz1.2
      refine r_icmp_ge (tgt := 47) hx hb ⟨by omega, by omega⟩ rz1 dX4_countStackedOf_9 (by decide) (fun c2 => ?_) (fun c2 => ?_)
      · refine lv_iload_n hx hb dX4_countStackedOf_47 rfl (lv_at hl 1 rfl) ?_
        exact r_iret C0 hW ⟨by omega, by omega⟩ (⟨by rw [show gN (w j) 7 6 = x3 from by omega]; omega, rfl⟩) dX4_countStackedOf_48
      · refine lv_iload_n hx hb dX4_countStackedOf_12 rfl (lv_at hl 1 rfl) ?_
        refine lv_aload_n hx hb dX4_countStackedOf_13 rfl (lv_at hl 2 rfl) ?_
        refine lv_iload_n hx hb dX4_countStackedOf_14 rfl (lv_at hl 0 rfl) ?_
        refine k_Vi (j := j) (k0 := 7) C0 hW (c_X4_isStacked l G w hj (hwf) x3 ⟨by omega, by omega⟩) km_X4_65 ki_X4_isStacked ke_X4_isStacked kn_X4 kc_X4_isStacked rfl hdV_X4_isStacked ⟨by decide, by decide⟩ (ms_lt hj 7 (by decide)) (ceX_m hj G 7 _ _) rfl rfl hl.1 rfl (Nat.le_of_ble_eq_true rfl) dX4_countStackedOf_15 (fun z3 w3 H1 locs1 rz3 hp3 hW => ?_)
        obtain ⟨hp3, hq3⟩ := hp3
        subst hq3
        have rz3a := rz3.1
        have rz3b := rz3.2
        rcases hp3 with ⟨e3, hp3⟩ | ⟨e3, hp3⟩
        · subst e3
          refine r_if_eq (tgt := 35) hx hb ⟨by omega, by omega⟩ dX4_countStackedOf_18 (by decide) (fun q => absurd q (by decide)) (fun _ => ?_)
          refine lv_aload_n hx hb dX4_countStackedOf_21 rfl (lv_at hl 2 rfl) ?_
          refine r_gR C0 hW (ms_lt hj 7 (by decide)) (ceX_m hj G 7 _ _) rfl hiX4 (k := 0) (by decide) kf_X4_9 rfl rfl rfl dX4_countStackedOf_22 ?_
          refine lv_iload_n hx hb dX4_countStackedOf_25 rfl (lv_at hl 0 rfl) ?_
          refine r_ild C0 hW (ms_lt hj 8 (by decide)) (ceX_m hj G 8 _ _) (n := 120) (by omega) (by omega) (by decide) dX4_countStackedOf_26 (fun z4 (hz4 : z4 = gA (w j) 8 x3) rz4 => ?_)
          have rz4a := rz4.1
          have rz4b := rz4.2
          refine lv_iload_n hx hb dX4_countStackedOf_27 rfl (lv_at hl 3 rfl) ?_
          refine r_icmp_ne (tgt := 35) hx hb rz4 rco dX4_countStackedOf_28 (by decide) (fun c5 => ?_) (fun c5 => ?_)
          · refine r_iconst hx hb dX4_countStackedOf_35 ?_
            refine k_Ni (own := "") C0 hW (As := [.int (iI 0)]) (c_X5_oneIf l G w 0 ⟨by omega, by omega⟩) C0.nst.2.2.2.2.2.2.1 ks_X5_oneIf kn_X5 kc_X5_oneIf hdS_X5_oneIf ⟨by decide, by decide⟩ rfl hl.1 rfl (Nat.le_of_ble_eq_true rfl) dX4_countStackedOf_36 (fun z6 w6 H1 locs1 rz6 hp6 hW => ?_)
            obtain ⟨hp6, hq6⟩ := hp6
            subst hq6
            have rz6a := rz6.1
            have rz6b := rz6.2
            rcases hp6 with ⟨e6, hp6⟩ | ⟨e6, hp6⟩
            · subst e6
              refine r_iadd hx hb dX4_countStackedOf_39 ?_
              refine lv_istore_n (lv' := [(2, .int (iI (x2 + 1))), (3, .int (iI x3)), (0, .ref (ad G j 7)), (1, .int (iI co))]) hx hb dX4_countStackedOf_40 rfl hl (by decide) rfl (fun ls hl => ?_)
              refine r_iinc (lv' := [(3, .int (iI (x3 + 1))), (2, .int (iI (x2 + 1))), (0, .ref (ad G j 7)), (1, .int (iI co))]) hx hb dX4_countStackedOf_41 hl (k := 1) rfl (by decide) rfl (fun ls hl => ?_)
              refine lv_goto (tgt := 4) hx hb dX4_countStackedOf_44 (by decide) ?_
              exact ih4 (x2 + 1) (x3 + 1) _ _ ls (by omega) (by omega) (by omega) (by first | (rw [cntI_t (by omega) (by first | assumption | (unfold pSO pSt lyi at *; omega))]; omega) | (rw [cntI_f (by omega) (by first | assumption | (unfold pSO pSt lyi at *; omega))]; omega)) hW (lv_sub hl [0, 1, 2, 3] rfl)
            · subst e6
              refine r_iadd hx hb dX4_countStackedOf_39 ?_
              refine lv_istore_n (lv' := [(2, .int (iI (x2 + 0))), (3, .int (iI x3)), (0, .ref (ad G j 7)), (1, .int (iI co))]) hx hb dX4_countStackedOf_40 rfl hl (by decide) rfl (fun ls hl => ?_)
              refine r_iinc (lv' := [(3, .int (iI (x3 + 1))), (2, .int (iI (x2 + 0))), (0, .ref (ad G j 7)), (1, .int (iI co))]) hx hb dX4_countStackedOf_41 hl (k := 1) rfl (by decide) rfl (fun ls hl => ?_)
              refine lv_goto (tgt := 4) hx hb dX4_countStackedOf_44 (by decide) ?_
              exact ih4 (x2 + 0) (x3 + 1) _ _ ls (by omega) (by omega) (by omega) (by first | (rw [cntI_t (by omega) (by first | assumption | (unfold pSO pSt lyi at *; omega))]; omega) | (rw [cntI_f (by omega) (by first | assumption | (unfold pSO pSt lyi at *; omega))]; omega)) hW (lv_sub hl [0, 1, 2, 3] rfl)
          · refine r_iconst hx hb dX4_countStackedOf_31 ?_
            refine lv_goto (tgt := 36) hx hb dX4_countStackedOf_32 (by decide) ?_
            refine k_Ni (own := "") C0 hW (As := [.int (iI 1)]) (c_X5_oneIf l G w 1 ⟨by omega, by omega⟩) C0.nst.2.2.2.2.2.2.1 ks_X5_oneIf kn_X5 kc_X5_oneIf hdS_X5_oneIf ⟨by decide, by decide⟩ rfl hl.1 rfl (Nat.le_of_ble_eq_true rfl) dX4_countStackedOf_36 (fun z7 w7 H1 locs1 rz7 hp7 hW => ?_)
            obtain ⟨hp7, hq7⟩ := hp7
            subst hq7
            have rz7a := rz7.1
            have rz7b := rz7.2
            rcases hp7 with ⟨e7, hp7⟩ | ⟨e7, hp7⟩
            · subst e7
              refine r_iadd hx hb dX4_countStackedOf_39 ?_
              refine lv_istore_n (lv' := [(2, .int (iI (x2 + 1))), (3, .int (iI x3)), (0, .ref (ad G j 7)), (1, .int (iI co))]) hx hb dX4_countStackedOf_40 rfl hl (by decide) rfl (fun ls hl => ?_)
              refine r_iinc (lv' := [(3, .int (iI (x3 + 1))), (2, .int (iI (x2 + 1))), (0, .ref (ad G j 7)), (1, .int (iI co))]) hx hb dX4_countStackedOf_41 hl (k := 1) rfl (by decide) rfl (fun ls hl => ?_)
              refine lv_goto (tgt := 4) hx hb dX4_countStackedOf_44 (by decide) ?_
              exact ih4 (x2 + 1) (x3 + 1) _ _ ls (by omega) (by omega) (by omega) (by first | (rw [cntI_t (by omega) (by first | assumption | (unfold pSO pSt lyi at *; omega))]; omega) | (rw [cntI_f (by omega) (by first | assumption | (unfold pSO pSt lyi at *; omega))]; omega)) hW (lv_sub hl [0, 1, 2, 3] rfl)
            · subst e7
              refine r_iadd hx hb dX4_countStackedOf_39 ?_
              refine lv_istore_n (lv' := [(2, .int (iI (x2 + 0))), (3, .int (iI x3)), (0, .ref (ad G j 7)), (1, .int (iI co))]) hx hb dX4_countStackedOf_40 rfl hl (by decide) rfl (fun ls hl => ?_)
              refine r_iinc (lv' := [(3, .int (iI (x3 + 1))), (2, .int (iI (x2 + 0))), (0, .ref (ad G j 7)), (1, .int (iI co))]) hx hb dX4_countStackedOf_41 hl (k := 1) rfl (by decide) rfl (fun ls hl => ?_)
              refine lv_goto (tgt := 4) hx hb dX4_countStackedOf_44 (by decide) ?_
              exact ih4 (x2 + 0) (x3 + 1) _ _ ls (by omega) (by omega) (by omega) (by first | (rw [cntI_t (by omega) (by first | assumption | (unfold pSO pSt lyi at *; omega))]; omega) | (rw [cntI_f (by omega) (by first | assumption | (unfold pSO pSt lyi at *; omega))]; omega)) hW (lv_sub hl [0, 1, 2, 3] rfl)
        · subst e3
          refine r_if_eq (tgt := 35) hx hb ⟨by omega, by omega⟩ dX4_countStackedOf_18 (by decide) (fun _ => ?_) (fun q => absurd q (by decide))
          refine r_iconst hx hb dX4_countStackedOf_35 ?_
          refine k_Ni (own := "") C0 hW (As := [.int (iI 0)]) (c_X5_oneIf l G w 0 ⟨by omega, by omega⟩) C0.nst.2.2.2.2.2.2.1 ks_X5_oneIf kn_X5 kc_X5_oneIf hdS_X5_oneIf ⟨by decide, by decide⟩ rfl hl.1 rfl (Nat.le_of_ble_eq_true rfl) dX4_countStackedOf_36 (fun z8 w8 H1 locs1 rz8 hp8 hW => ?_)
          obtain ⟨hp8, hq8⟩ := hp8
          subst hq8
          have rz8a := rz8.1
          have rz8b := rz8.2
          rcases hp8 with ⟨e8, hp8⟩ | ⟨e8, hp8⟩
          · subst e8
            refine r_iadd hx hb dX4_countStackedOf_39 ?_
            refine lv_istore_n (lv' := [(2, .int (iI (x2 + 1))), (3, .int (iI x3)), (0, .ref (ad G j 7)), (1, .int (iI co))]) hx hb dX4_countStackedOf_40 rfl hl (by decide) rfl (fun ls hl => ?_)
            refine r_iinc (lv' := [(3, .int (iI (x3 + 1))), (2, .int (iI (x2 + 1))), (0, .ref (ad G j 7)), (1, .int (iI co))]) hx hb dX4_countStackedOf_41 hl (k := 1) rfl (by decide) rfl (fun ls hl => ?_)
            refine lv_goto (tgt := 4) hx hb dX4_countStackedOf_44 (by decide) ?_
            exact ih4 (x2 + 1) (x3 + 1) _ _ ls (by omega) (by omega) (by omega) (by first | (rw [cntI_t (by omega) (by first | assumption | (unfold pSO pSt lyi at *; omega))]; omega) | (rw [cntI_f (by omega) (by first | assumption | (unfold pSO pSt lyi at *; omega))]; omega)) hW (lv_sub hl [0, 1, 2, 3] rfl)
          · subst e8
            refine r_iadd hx hb dX4_countStackedOf_39 ?_
            refine lv_istore_n (lv' := [(2, .int (iI (x2 + 0))), (3, .int (iI x3)), (0, .ref (ad G j 7)), (1, .int (iI co))]) hx hb dX4_countStackedOf_40 rfl hl (by decide) rfl (fun ls hl => ?_)
            refine r_iinc (lv' := [(3, .int (iI (x3 + 1))), (2, .int (iI (x2 + 0))), (0, .ref (ad G j 7)), (1, .int (iI co))]) hx hb dX4_countStackedOf_41 hl (k := 1) rfl (by decide) rfl (fun ls hl => ?_)
            refine lv_goto (tgt := 4) hx hb dX4_countStackedOf_44 (by decide) ?_
            exact ih4 (x2 + 0) (x3 + 1) _ _ ls (by omega) (by omega) (by omega) (by first | (rw [cntI_t (by omega) (by first | assumption | (unfold pSO pSt lyi at *; omega))]; omega) | (rw [cntI_f (by omega) (by first | assumption | (unfold pSO pSt lyi at *; omega))]; omega)) hW (lv_sub hl [0, 1, 2, 3] rfl)
  exact hL4 121 0 0 _ _ ls (by omega) (by omega) (by omega) (by rw [cntI_0]) hW (lv_sub hl [0, 1, 2, 3] rfl)

/-- X4_comesBefore: its end -/
def po_X4_comesBefore (w : gW) (j : Nat) (a : Int) (b : Int) : Int → gW → Prop := fun z w1 => ((z = 1 ∧ (gA (w j) 10 a < gA (w j) 10 b ∨ (gA (w j) 10 a = gA (w j) 10 b ∧ a < b))) ∨ (z = 0 ∧ ¬ (gA (w j) 10 a < gA (w j) 10 b ∨ (gA (w j) 10 a = gA (w j) 10 b ∧ a < b)))) ∧ w = w1
theorem hdV_X4_comesBefore : yX4_comesBefore.cls = RX4 ∧ yX4_comesBefore.cls ≠ "java/lang/invoke/MethodHandle" ∧ yX4_comesBefore.cls ≠ "java/lang/invoke/VarHandle" ∧ (parseMethodDescriptor yX4_comesBefore.desc).map (fun d => d.parameters.length) = some 2 := by decide +kernel
set_option maxHeartbeats 4000000 in
set_option maxRecDepth 100000 in
theorem c_X4_comesBefore (l : Launch) (G : gG) (w : gW) {j : Nat} (hj : ms j) (hwf : wf (w j)) (a : Int) (b : Int) (ra : inR a) (rb : inR b) (ha : 0 ≤ a ∧ a < 120) (hb2 : 0 ≤ b ∧ b < 120) : mI l G yX4_comesBefore (wU yX4_comesBefore cX4_comesBefore 3 (some .boolean)) (rmL 0 0) [.ref (ad G j 7), .int (iI a), .int (iI b)] w (po_X4_comesBefore w j a b) := by
  refine mI_of (by decide +kernel) (Nat.le_of_ble_eq_true rfl) (fun p e s m args below meth c ls C0 hW hl => ?_)
  have hl : lv_has ls 3 [(0, .ref (ad G j 7)), (1, .int (iI a)), (2, .int (iI b))] := hl
  have hx := C0.hx
  have hb := C0.hb
  obtain ⟨⟨hs1, hs2⟩, -⟩ := id hwf
  refine lv_aload_n hx hb dX4_comesBefore_0 rfl (lv_at hl 0 rfl) ?_
  refine r_gR C0 hW (ms_lt hj 7 (by decide)) (ceX_m hj G 7 _ _) rfl hiX4 (k := 2) (by decide) kf_X4_18 rfl rfl rfl dX4_comesBefore_1 ?_
  refine lv_iload_n hx hb dX4_comesBefore_4 rfl (lv_at hl 1 rfl) ?_
  refine r_ild C0 hW (ms_lt hj 10 (by decide)) (ceX_m hj G 10 _ _) (n := 120) (by omega) (by omega) (by decide) dX4_comesBefore_5 (fun z1 (hz1 : z1 = gA (w j) 10 a) rz1 => ?_)
  have rz1a := rz1.1
  have rz1b := rz1.2
  refine lv_aload_n hx hb dX4_comesBefore_6 rfl (lv_at hl 0 rfl) ?_
  refine r_gR C0 hW (ms_lt hj 7 (by decide)) (ceX_m hj G 7 _ _) rfl hiX4 (k := 2) (by decide) kf_X4_18 rfl rfl rfl dX4_comesBefore_7 ?_
  refine lv_iload_n hx hb dX4_comesBefore_10 rfl (lv_at hl 2 rfl) ?_
  refine r_ild C0 hW (ms_lt hj 10 (by decide)) (ceX_m hj G 10 _ _) (n := 120) (by omega) (by omega) (by decide) dX4_comesBefore_11 (fun z2 (hz2 : z2 = gA (w j) 10 b) rz2 => ?_)
  have rz2a := rz2.1
  have rz2b := rz2.2
  refine r_icmp_lt (tgt := 35) hx hb rz1 rz2 dX4_comesBefore_12 (by decide) (fun c3 => ?_) (fun c3 => ?_)
  · refine r_iconst hx hb dX4_comesBefore_35 ?_
    refine lv_goto (tgt := 40) hx hb dX4_comesBefore_36 (by decide) ?_
    exact r_zret C0 hW (by first | exact Or.inl rfl | exact Or.inr rfl | omega) (⟨by omega, rfl⟩) dX4_comesBefore_40
  · refine lv_aload_n hx hb dX4_comesBefore_15 rfl (lv_at hl 0 rfl) ?_
    refine r_gR C0 hW (ms_lt hj 7 (by decide)) (ceX_m hj G 7 _ _) rfl hiX4 (k := 2) (by decide) kf_X4_18 rfl rfl rfl dX4_comesBefore_16 ?_
    refine lv_iload_n hx hb dX4_comesBefore_19 rfl (lv_at hl 1 rfl) ?_
    refine r_ild C0 hW (ms_lt hj 10 (by decide)) (ceX_m hj G 10 _ _) (n := 120) (by omega) (by omega) (by decide) dX4_comesBefore_20 (fun z4 (hz4 : z4 = gA (w j) 10 a) rz4 => ?_)
    have rz4a := rz4.1
    have rz4b := rz4.2
    refine lv_aload_n hx hb dX4_comesBefore_21 rfl (lv_at hl 0 rfl) ?_
    refine r_gR C0 hW (ms_lt hj 7 (by decide)) (ceX_m hj G 7 _ _) rfl hiX4 (k := 2) (by decide) kf_X4_18 rfl rfl rfl dX4_comesBefore_22 ?_
    refine lv_iload_n hx hb dX4_comesBefore_25 rfl (lv_at hl 2 rfl) ?_
    refine r_ild C0 hW (ms_lt hj 10 (by decide)) (ceX_m hj G 10 _ _) (n := 120) (by omega) (by omega) (by decide) dX4_comesBefore_26 (fun z5 (hz5 : z5 = gA (w j) 10 b) rz5 => ?_)
    have rz5a := rz5.1
    have rz5b := rz5.2
    refine r_icmp_ne (tgt := 39) hx hb rz4 rz5 dX4_comesBefore_27 (by decide) (fun c6 => ?_) (fun c6 => ?_)
    · refine r_iconst hx hb dX4_comesBefore_39 ?_
      exact r_zret C0 hW (by first | exact Or.inl rfl | exact Or.inr rfl | omega) (⟨by omega, rfl⟩) dX4_comesBefore_40
    · refine lv_iload_n hx hb dX4_comesBefore_30 rfl (lv_at hl 1 rfl) ?_
      refine lv_iload_n hx hb dX4_comesBefore_31 rfl (lv_at hl 2 rfl) ?_
      refine r_icmp_ge (tgt := 39) hx hb ra rb dX4_comesBefore_32 (by decide) (fun c7 => ?_) (fun c7 => ?_)
      · refine r_iconst hx hb dX4_comesBefore_39 ?_
        exact r_zret C0 hW (by first | exact Or.inl rfl | exact Or.inr rfl | omega) (⟨by omega, rfl⟩) dX4_comesBefore_40
      · refine r_iconst hx hb dX4_comesBefore_35 ?_
        refine lv_goto (tgt := 40) hx hb dX4_comesBefore_36 (by decide) ?_
        exact r_zret C0 hW (by first | exact Or.inl rfl | exact Or.inr rfl | omega) (⟨by omega, rfl⟩) dX4_comesBefore_40
end
section
/-- X4_countDrierThan: its end -/
def po_X4_countDrierThan (w : gW) (j : Nat) (r : Int) (co : Int) : Int → gW → Prop := fun z w1 => (z = cntI (pBf (w j) r co) (gN (w j) 7 6)) ∧ w = w1
theorem hdV_X4_countDrierThan : yX4_countDrierThan.cls = RX4 ∧ yX4_countDrierThan.cls ≠ "java/lang/invoke/MethodHandle" ∧ yX4_countDrierThan.cls ≠ "java/lang/invoke/VarHandle" ∧ (parseMethodDescriptor yX4_countDrierThan.desc).map (fun d => d.parameters.length) = some 2 := by decide +kernel
set_option maxHeartbeats 4000000 in
set_option maxRecDepth 100000 in
theorem c_X4_countDrierThan (l : Launch) (G : gG) (w : gW) {j : Nat} (hj : ms j) (hwf : wf (w j)) (r : Int) (co : Int) (rr : inR r) (rco : inR co) (hr9 : 0 ≤ r ∧ r < 120) : mI l G yX4_countDrierThan (wU yX4_countDrierThan cX4_countDrierThan 5 (some .int)) (rmL 3 65) [.ref (ad G j 7), .int (iI r), .int (iI co)] w (po_X4_countDrierThan w j r co) := by
  refine mI_of (by decide +kernel) (Nat.le_of_ble_eq_true rfl) (fun p e s m args below meth c ls C0 hW hl => ?_)
  have hl : lv_has ls 5 [(0, .ref (ad G j 7)), (1, .int (iI r)), (2, .int (iI co))] := hl
  have hx := C0.hx
  have hb := C0.hb
  obtain ⟨⟨hs1, hs2⟩, -⟩ := id hwf
  refine r_iconst hx hb dX4_countDrierThan_0 ?_
  refine lv_istore_n (lv' := [(3, .int (iI 0)), (0, .ref (ad G j 7)), (1, .int (iI r)), (2, .int (iI co))]) hx hb dX4_countDrierThan_1 rfl hl (by decide) rfl (fun ls hl => ?_)
  refine r_iconst hx hb dX4_countDrierThan_2 ?_
  refine lv_istore (lv' := [(4, .int (iI 0)), (3, .int (iI 0)), (0, .ref (ad G j 7)), (1, .int (iI r)), (2, .int (iI co))]) hx hb dX4_countDrierThan_3 hl (by decide) rfl (fun ls hl => ?_)
  have hL5 : ∀ (n : Nat) (x3 : Int) (x4 : Int) (H0 : Heap) (locs0 : List Loc) (ls : Array Slot) (hm : gN (w j) 7 6 - x4 < (n : Int)) (i5_0 : 0 ≤ x4) (i5_1 : x4 ≤ gN (w j) 7 6) (i5_2 : x3 = cntI (pBf (w j) r co) x4) (hW : wo G w s H0 locs0) (hl : lv_has ls 5 [(4, .int (iI x4)), (3, .int (iI x3)), (0, .ref (ad G j 7)), (1, .int (iI r)), (2, .int (iI co))]), W p l e (rmL 3 65) s m args below meth c H0 locs0 0 0 (QI G (po_X4_countDrierThan w j r co) below args s) (F0 m 5 ls []) := by
    intro n
    induction n with
    | zero =>
      intro x3 x4 H0 locs0 ls hm i5_0 i5_1 i5_2 hW hl
      exact absurd hm (by omega)
    | succ n ih5 =>
      intro x3 x4 H0 locs0 ls hm i5_0 i5_1 i5_2 hW hl
      have hcl := cntI_le (pBf (w j) r co) i5_0
      refine lv_iload hx hb dX4_countDrierThan_5 (lv_at hl 0 rfl) ?_
      refine lv_aload_n hx hb dX4_countDrierThan_7 rfl (lv_at hl 2 rfl) ?_
      refine r_gI C0 hW (ms_lt hj 7 (by decide)) (ceX_m hj G 7 _ _) rfl hiX4 (k := 6) (by decide) kf_X4_39 rfl rfl rfl dX4_countDrierThan_8 (fun z1 (hz1 : z1 = gN (w j) 7 6) rz1 => ?_)
      have rz1a := rz1.1
      have rz1b := rz1.2
      refine r_icmp_ge (tgt := 51) hx hb ⟨by omega, by omega⟩ rz1 dX4_countDrierThan_11 (by decide) (fun c2 => ?_) (fun c2 => ?_)
      · refine lv_iload_n hx hb dX4_countDrierThan_51 rfl (lv_at hl 1 rfl) ?_
        exact r_iret C0 hW ⟨by omega, by omega⟩ (⟨by rw [show gN (w j) 7 6 = x4 from by omega]; omega, rfl⟩) dX4_countDrierThan_52
      · refine lv_iload_n hx hb dX4_countDrierThan_14 rfl (lv_at hl 1 rfl) ?_
        refine lv_aload_n hx hb dX4_countDrierThan_15 rfl (lv_at hl 2 rfl) ?_
        refine lv_iload hx hb dX4_countDrierThan_16 (lv_at hl 0 rfl) ?_
        refine lv_iload_n hx hb dX4_countDrierThan_18 rfl (lv_at hl 4 rfl) ?_
        refine k_Vi (j := j) (k0 := 7) C0 hW (c_X4_isLyingOf l G w hj (hwf) x4 co ⟨by omega, by omega⟩ rco) km_X4_71 ki_X4_isLyingOf ke_X4_isLyingOf kn_X4 kc_X4_isLyingOf rfl hdV_X4_isLyingOf ⟨by decide, by decide⟩ (ms_lt hj 7 (by decide)) (ceX_m hj G 7 _ _) rfl rfl hl.1 rfl (Nat.le_of_ble_eq_true rfl) dX4_countDrierThan_19 (fun z3 w3 H1 locs1 rz3 hp3 hW => ?_)
        obtain ⟨hp3, hq3⟩ := hp3
        subst hq3
        have rz3a := rz3.1
        have rz3b := rz3.2
        rcases hp3 with ⟨e3, hp3⟩ | ⟨e3, hp3⟩
        · subst e3
          refine r_if_eq (tgt := 39) hx hb ⟨by omega, by omega⟩ dX4_countDrierThan_22 (by decide) (fun q => absurd q (by decide)) (fun _ => ?_)
          refine lv_aload_n hx hb dX4_countDrierThan_25 rfl (lv_at hl 2 rfl) ?_
          refine lv_iload hx hb dX4_countDrierThan_26 (lv_at hl 0 rfl) ?_
          refine lv_iload_n hx hb dX4_countDrierThan_28 rfl (lv_at hl 3 rfl) ?_
          refine k_Vi (j := j) (k0 := 7) C0 hW (c_X4_comesBefore l G w hj (hwf) x4 r ⟨by omega, by omega⟩ rr (by omega) (by omega)) km_X4_78 ki_X4_comesBefore ke_X4_comesBefore kn_X4 kc_X4_comesBefore rfl hdV_X4_comesBefore ⟨by decide, by decide⟩ (ms_lt hj 7 (by decide)) (ceX_m hj G 7 _ _) rfl rfl hl.1 rfl (Nat.le_of_ble_eq_true rfl) dX4_countDrierThan_29 (fun z4 w4 H1 locs1 rz4 hp4 hW => ?_)
          obtain ⟨hp4, hq4⟩ := hp4
          subst hq4
          have rz4a := rz4.1
          have rz4b := rz4.2
          rcases hp4 with ⟨e4, hp4⟩ | ⟨e4, hp4⟩
          · subst e4
            refine r_if_eq (tgt := 39) hx hb ⟨by omega, by omega⟩ dX4_countDrierThan_32 (by decide) (fun q => absurd q (by decide)) (fun _ => ?_)
            refine r_iconst hx hb dX4_countDrierThan_35 ?_
            refine lv_goto (tgt := 40) hx hb dX4_countDrierThan_36 (by decide) ?_
            refine k_Ni (own := "") C0 hW (As := [.int (iI 1)]) (c_X5_oneIf l G w 1 ⟨by omega, by omega⟩) C0.nst.2.2.2.2.2.2.1 ks_X5_oneIf kn_X5 kc_X5_oneIf hdS_X5_oneIf ⟨by decide, by decide⟩ rfl hl.1 rfl (Nat.le_of_ble_eq_true rfl) dX4_countDrierThan_40 (fun z5 w5 H1 locs1 rz5 hp5 hW => ?_)
            obtain ⟨hp5, hq5⟩ := hp5
            subst hq5
            have rz5a := rz5.1
            have rz5b := rz5.2
            rcases hp5 with ⟨e5, hp5⟩ | ⟨e5, hp5⟩
            · subst e5
              refine r_iadd hx hb dX4_countDrierThan_43 ?_
              refine lv_istore_n (lv' := [(3, .int (iI (x3 + 1))), (4, .int (iI x4)), (0, .ref (ad G j 7)), (1, .int (iI r)), (2, .int (iI co))]) hx hb dX4_countDrierThan_44 rfl hl (by decide) rfl (fun ls hl => ?_)
              refine r_iinc (lv' := [(4, .int (iI (x4 + 1))), (3, .int (iI (x3 + 1))), (0, .ref (ad G j 7)), (1, .int (iI r)), (2, .int (iI co))]) hx hb dX4_countDrierThan_45 hl (k := 1) rfl (by decide) rfl (fun ls hl => ?_)
              refine lv_goto (tgt := 5) hx hb dX4_countDrierThan_48 (by decide) ?_
              exact ih5 (x3 + 1) (x4 + 1) _ _ ls (by omega) (by omega) (by omega) (by first | (rw [cntI_t (by omega) (by first | assumption | (unfold pBf pOf lyi at *; omega))]; omega) | (rw [cntI_f (by omega) (by first | assumption | (unfold pBf pOf lyi at *; omega))]; omega)) hW (lv_sub hl [0, 1, 2, 3, 4] rfl)
            · subst e5
              refine r_iadd hx hb dX4_countDrierThan_43 ?_
              refine lv_istore_n (lv' := [(3, .int (iI (x3 + 0))), (4, .int (iI x4)), (0, .ref (ad G j 7)), (1, .int (iI r)), (2, .int (iI co))]) hx hb dX4_countDrierThan_44 rfl hl (by decide) rfl (fun ls hl => ?_)
              refine r_iinc (lv' := [(4, .int (iI (x4 + 1))), (3, .int (iI (x3 + 0))), (0, .ref (ad G j 7)), (1, .int (iI r)), (2, .int (iI co))]) hx hb dX4_countDrierThan_45 hl (k := 1) rfl (by decide) rfl (fun ls hl => ?_)
              refine lv_goto (tgt := 5) hx hb dX4_countDrierThan_48 (by decide) ?_
              exact ih5 (x3 + 0) (x4 + 1) _ _ ls (by omega) (by omega) (by omega) (by first | (rw [cntI_t (by omega) (by first | assumption | (unfold pBf pOf lyi at *; omega))]; omega) | (rw [cntI_f (by omega) (by first | assumption | (unfold pBf pOf lyi at *; omega))]; omega)) hW (lv_sub hl [0, 1, 2, 3, 4] rfl)
          · subst e4
            refine r_if_eq (tgt := 39) hx hb ⟨by omega, by omega⟩ dX4_countDrierThan_32 (by decide) (fun _ => ?_) (fun q => absurd q (by decide))
            refine r_iconst hx hb dX4_countDrierThan_39 ?_
            refine k_Ni (own := "") C0 hW (As := [.int (iI 0)]) (c_X5_oneIf l G w 0 ⟨by omega, by omega⟩) C0.nst.2.2.2.2.2.2.1 ks_X5_oneIf kn_X5 kc_X5_oneIf hdS_X5_oneIf ⟨by decide, by decide⟩ rfl hl.1 rfl (Nat.le_of_ble_eq_true rfl) dX4_countDrierThan_40 (fun z6 w6 H1 locs1 rz6 hp6 hW => ?_)
            obtain ⟨hp6, hq6⟩ := hp6
            subst hq6
            have rz6a := rz6.1
            have rz6b := rz6.2
            rcases hp6 with ⟨e6, hp6⟩ | ⟨e6, hp6⟩
            · subst e6
              refine r_iadd hx hb dX4_countDrierThan_43 ?_
              refine lv_istore_n (lv' := [(3, .int (iI (x3 + 1))), (4, .int (iI x4)), (0, .ref (ad G j 7)), (1, .int (iI r)), (2, .int (iI co))]) hx hb dX4_countDrierThan_44 rfl hl (by decide) rfl (fun ls hl => ?_)
              refine r_iinc (lv' := [(4, .int (iI (x4 + 1))), (3, .int (iI (x3 + 1))), (0, .ref (ad G j 7)), (1, .int (iI r)), (2, .int (iI co))]) hx hb dX4_countDrierThan_45 hl (k := 1) rfl (by decide) rfl (fun ls hl => ?_)
              refine lv_goto (tgt := 5) hx hb dX4_countDrierThan_48 (by decide) ?_
              exact ih5 (x3 + 1) (x4 + 1) _ _ ls (by omega) (by omega) (by omega) (by first | (rw [cntI_t (by omega) (by first | assumption | (unfold pBf pOf lyi at *; omega))]; omega) | (rw [cntI_f (by omega) (by first | assumption | (unfold pBf pOf lyi at *; omega))]; omega)) hW (lv_sub hl [0, 1, 2, 3, 4] rfl)
            · subst e6
              refine r_iadd hx hb dX4_countDrierThan_43 ?_
              refine lv_istore_n (lv' := [(3, .int (iI (x3 + 0))), (4, .int (iI x4)), (0, .ref (ad G j 7)), (1, .int (iI r)), (2, .int (iI co))]) hx hb dX4_countDrierThan_44 rfl hl (by decide) rfl (fun ls hl => ?_)
              refine r_iinc (lv' := [(4, .int (iI (x4 + 1))), (3, .int (iI (x3 + 0))), (0, .ref (ad G j 7)), (1, .int (iI r)), (2, .int (iI co))]) hx hb dX4_countDrierThan_45 hl (k := 1) rfl (by decide) rfl (fun ls hl => ?_)
              refine lv_goto (tgt := 5) hx hb dX4_countDrierThan_48 (by decide) ?_
              exact ih5 (x3 + 0) (x4 + 1) _ _ ls (by omega) (by omega) (by omega) (by first | (rw [cntI_t (by omega) (by first | assumption | (unfold pBf pOf lyi at *; omega))]; omega) | (rw [cntI_f (by omega) (by first | assumption | (unfold pBf pOf lyi at *; omega))]; omega)) hW (lv_sub hl [0, 1, 2, 3, 4] rfl)
        · subst e3
          refine r_if_eq (tgt := 39) hx hb ⟨by omega, by omega⟩ dX4_countDrierThan_22 (by decide) (fun _ => ?_) (fun q => absurd q (by decide))
          refine r_iconst hx hb dX4_countDrierThan_39 ?_
          refine k_Ni (own := "") C0 hW (As := [.int (iI 0)]) (c_X5_oneIf l G w 0 ⟨by omega, by omega⟩) C0.nst.2.2.2.2.2.2.1 ks_X5_oneIf kn_X5 kc_X5_oneIf hdS_X5_oneIf ⟨by decide, by decide⟩ rfl hl.1 rfl (Nat.le_of_ble_eq_true rfl) dX4_countDrierThan_40 (fun z7 w7 H1 locs1 rz7 hp7 hW => ?_)
          obtain ⟨hp7, hq7⟩ := hp7
          subst hq7
          have rz7a := rz7.1
          have rz7b := rz7.2
          rcases hp7 with ⟨e7, hp7⟩ | ⟨e7, hp7⟩
          · subst e7
            refine r_iadd hx hb dX4_countDrierThan_43 ?_
            refine lv_istore_n (lv' := [(3, .int (iI (x3 + 1))), (4, .int (iI x4)), (0, .ref (ad G j 7)), (1, .int (iI r)), (2, .int (iI co))]) hx hb dX4_countDrierThan_44 rfl hl (by decide) rfl (fun ls hl => ?_)
            refine r_iinc (lv' := [(4, .int (iI (x4 + 1))), (3, .int (iI (x3 + 1))), (0, .ref (ad G j 7)), (1, .int (iI r)), (2, .int (iI co))]) hx hb dX4_countDrierThan_45 hl (k := 1) rfl (by decide) rfl (fun ls hl => ?_)
            refine lv_goto (tgt := 5) hx hb dX4_countDrierThan_48 (by decide) ?_
            exact ih5 (x3 + 1) (x4 + 1) _ _ ls (by omega) (by omega) (by omega) (by first | (rw [cntI_t (by omega) (by first | assumption | (unfold pBf pOf lyi at *; omega))]; omega) | (rw [cntI_f (by omega) (by first | assumption | (unfold pBf pOf lyi at *; omega))]; omega)) hW (lv_sub hl [0, 1, 2, 3, 4] rfl)
          · subst e7
            refine r_iadd hx hb dX4_countDrierThan_43 ?_
            refine lv_istore_n (lv' := [(3, .int (iI (x3 + 0))), (4, .int (iI x4)), (0, .ref (ad G j 7)), (1, .int (iI r)), (2, .int (iI co))]) hx hb dX4_countDrierThan_44 rfl hl (by decide) rfl (fun ls hl => ?_)
            refine r_iinc (lv' := [(4, .int (iI (x4 + 1))), (3, .int (iI (x3 + 0))), (0, .ref (ad G j 7)), (1, .int (iI r)), (2, .int (iI co))]) hx hb dX4_countDrierThan_45 hl (k := 1) rfl (by decide) rfl (fun ls hl => ?_)
            refine lv_goto (tgt := 5) hx hb dX4_countDrierThan_48 (by decide) ?_
            exact ih5 (x3 + 0) (x4 + 1) _ _ ls (by omega) (by omega) (by omega) (by first | (rw [cntI_t (by omega) (by first | assumption | (unfold pBf pOf lyi at *; omega))]; omega) | (rw [cntI_f (by omega) (by first | assumption | (unfold pBf pOf lyi at *; omega))]; omega)) hW (lv_sub hl [0, 1, 2, 3, 4] rfl)
  exact hL5 121 0 0 _ _ ls (by omega) (by omega) (by omega) (by rw [cntI_0]) hW (lv_sub hl [0, 1, 2, 3, 4] rfl)

/-- X4_driestOf: its end -/
def po_X4_driestOf (w : gW) (j : Nat) (co : Int) (k : Int) : Int → gW → Prop := fun z w1 => ((z = -5 ∧ ∀ r : Int, 0 ≤ r → r < gN (w j) 7 6 → ¬ pDO (w j) co k r) ∨ (0 ≤ z ∧ z < gN (w j) 7 6 ∧ pDO (w j) co k z ∧ ∀ r : Int, 0 ≤ r → r < z → ¬ pDO (w j) co k r)) ∧ w = w1
theorem hdV_X4_driestOf : yX4_driestOf.cls = RX4 ∧ yX4_driestOf.cls ≠ "java/lang/invoke/MethodHandle" ∧ yX4_driestOf.cls ≠ "java/lang/invoke/VarHandle" ∧ (parseMethodDescriptor yX4_driestOf.desc).map (fun d => d.parameters.length) = some 2 := by decide +kernel
set_option maxHeartbeats 4000000 in
set_option maxRecDepth 100000 in
theorem c_X4_driestOf (l : Launch) (G : gG) (w : gW) {j : Nat} (hj : ms j) (hwf : wf (w j)) (co : Int) (k : Int) (rco : inR co) (rk : inR k) : mI l G yX4_driestOf (wU yX4_driestOf cX4_driestOf 4 (some .int)) (rmL 4 89) [.ref (ad G j 7), .int (iI co), .int (iI k)] w (po_X4_driestOf w j co k) := by
  refine mI_of (by decide +kernel) (Nat.le_of_ble_eq_true rfl) (fun p e s m args below meth c ls C0 hW hl => ?_)
  have hl : lv_has ls 4 [(0, .ref (ad G j 7)), (1, .int (iI co)), (2, .int (iI k))] := hl
  have hx := C0.hx
  have hb := C0.hb
  obtain ⟨⟨hs1, hs2⟩, -⟩ := id hwf
  refine r_iconst hx hb dX4_driestOf_0 ?_
  refine lv_istore_n (lv' := [(3, .int (iI 0)), (0, .ref (ad G j 7)), (1, .int (iI co)), (2, .int (iI k))]) hx hb dX4_driestOf_1 rfl hl (by decide) rfl (fun ls hl => ?_)
  have hL2 : ∀ (n : Nat) (x3 : Int) (H0 : Heap) (locs0 : List Loc) (ls : Array Slot) (hm : gN (w j) 7 6 - x3 < (n : Int)) (i2_0 : 0 ≤ x3) (i2_1 : x3 ≤ gN (w j) 7 6) (i2_2 : ∀ r : Int, 0 ≤ r → r < x3 → ¬ pDO (w j) co k r) (hW : wo G w s H0 locs0) (hl : lv_has ls 4 [(3, .int (iI x3)), (0, .ref (ad G j 7)), (1, .int (iI co)), (2, .int (iI k))]), W p l e (rmL 4 89) s m args below meth c H0 locs0 0 0 (QI G (po_X4_driestOf w j co k) below args s) (F0 m 2 ls []) := by
    intro n
    induction n with
    | zero =>
      intro x3 H0 locs0 ls hm i2_0 i2_1 i2_2 hW hl
      exact absurd hm (by omega)
    | succ n ih2 =>
      intro x3 H0 locs0 ls hm i2_0 i2_1 i2_2 hW hl
      refine lv_iload_n hx hb dX4_driestOf_2 rfl (lv_at hl 0 rfl) ?_
      refine lv_aload_n hx hb dX4_driestOf_3 rfl (lv_at hl 1 rfl) ?_
      refine r_gI C0 hW (ms_lt hj 7 (by decide)) (ceX_m hj G 7 _ _) rfl hiX4 (k := 6) (by decide) kf_X4_39 rfl rfl rfl dX4_driestOf_4 (fun z1 (hz1 : z1 = gN (w j) 7 6) rz1 => ?_)
      have rz1a := rz1.1
      have rz1b := rz1.2
      refine r_icmp_ge (tgt := 37) hx hb ⟨by omega, by omega⟩ rz1 dX4_driestOf_7 (by decide) (fun c2 => ?_) (fun c2 => ?_)
      · refine r_bipush hx hb dX4_driestOf_37 (by decide) ?_
        exact r_iret C0 hW ⟨by omega, by omega⟩ (⟨Or.inl ⟨rfl, fun q h0 h1 => i2_2 q h0 (by omega)⟩, rfl⟩) dX4_driestOf_39
      · refine lv_aload_n hx hb dX4_driestOf_10 rfl (lv_at hl 1 rfl) ?_
        refine lv_iload_n hx hb dX4_driestOf_11 rfl (lv_at hl 0 rfl) ?_
        refine lv_iload_n hx hb dX4_driestOf_12 rfl (lv_at hl 2 rfl) ?_
        refine k_Vi (j := j) (k0 := 7) C0 hW (c_X4_isLyingOf l G w hj (hwf) x3 co ⟨by omega, by omega⟩ rco) km_X4_71 ki_X4_isLyingOf ke_X4_isLyingOf kn_X4 kc_X4_isLyingOf rfl hdV_X4_isLyingOf ⟨by decide, by decide⟩ (ms_lt hj 7 (by decide)) (ceX_m hj G 7 _ _) rfl rfl hl.1 rfl (Nat.le_of_ble_eq_true rfl) dX4_driestOf_13 (fun z3 w3 H1 locs1 rz3 hp3 hW => ?_)
        obtain ⟨hp3, hq3⟩ := hp3
        subst hq3
        have rz3a := rz3.1
        have rz3b := rz3.2
        rcases hp3 with ⟨e3, hp3⟩ | ⟨e3, hp3⟩
        · subst e3
          refine r_if_eq (tgt := 31) hx hb ⟨by omega, by omega⟩ dX4_driestOf_16 (by decide) (fun q => absurd q (by decide)) (fun _ => ?_)
          refine lv_aload_n hx hb dX4_driestOf_19 rfl (lv_at hl 1 rfl) ?_
          refine lv_iload_n hx hb dX4_driestOf_20 rfl (lv_at hl 0 rfl) ?_
          refine lv_iload_n hx hb dX4_driestOf_21 rfl (lv_at hl 2 rfl) ?_
          refine k_Vi (j := j) (k0 := 7) C0 hW (c_X4_countDrierThan l G w hj (hwf) x3 co ⟨by omega, by omega⟩ rco (by omega)) km_X4_75 ki_X4_countDrierThan ke_X4_countDrierThan kn_X4 kc_X4_countDrierThan rfl hdV_X4_countDrierThan ⟨by decide, by decide⟩ (ms_lt hj 7 (by decide)) (ceX_m hj G 7 _ _) rfl rfl hl.1 rfl (Nat.le_of_ble_eq_true rfl) dX4_driestOf_22 (fun z4 w4 H1 locs1 rz4 hp4 hW => ?_)
          obtain ⟨hp4, hq4⟩ := hp4
          subst hq4
          have rz4a := rz4.1
          have rz4b := rz4.2
          refine lv_iload_n hx hb dX4_driestOf_25 rfl (lv_at hl 3 rfl) ?_
          refine r_icmp_ne (tgt := 31) hx hb rz4 rk dX4_driestOf_26 (by decide) (fun c5 => ?_) (fun c5 => ?_)
          · refine r_iinc (lv' := [(3, .int (iI (x3 + 1))), (0, .ref (ad G j 7)), (1, .int (iI co)), (2, .int (iI k))]) hx hb dX4_driestOf_31 hl (k := 0) rfl (by decide) rfl (fun ls hl => ?_)
            refine lv_goto (tgt := 2) hx hb dX4_driestOf_34 (by decide) ?_
            exact ih2 (x3 + 1) _ _ ls (by omega) (by omega) (by omega) (fun q h0 h1 => (show q < x3 ∨ q = x3 by omega).elim (fun h => i2_2 q h0 h) (fun h => by subst h; intro hh; unfold pDO at hh; first | (exact absurd hh.1 (by assumption)) | omega)) hW (lv_sub hl [0, 1, 2, 3] rfl)
          · refine lv_iload_n hx hb dX4_driestOf_29 rfl (lv_at hl 0 rfl) ?_
            exact r_iret C0 hW ⟨by omega, by omega⟩ (⟨Or.inr ⟨by omega, by omega, by unfold pDO; exact ⟨by assumption, by omega⟩, i2_2⟩, rfl⟩) dX4_driestOf_30
        · subst e3
          refine r_if_eq (tgt := 31) hx hb ⟨by omega, by omega⟩ dX4_driestOf_16 (by decide) (fun _ => ?_) (fun q => absurd q (by decide))
          refine r_iinc (lv' := [(3, .int (iI (x3 + 1))), (0, .ref (ad G j 7)), (1, .int (iI co)), (2, .int (iI k))]) hx hb dX4_driestOf_31 hl (k := 0) rfl (by decide) rfl (fun ls hl => ?_)
          refine lv_goto (tgt := 2) hx hb dX4_driestOf_34 (by decide) ?_
          exact ih2 (x3 + 1) _ _ ls (by omega) (by omega) (by omega) (fun q h0 h1 => (show q < x3 ∨ q = x3 by omega).elim (fun h => i2_2 q h0 h) (fun h => by subst h; intro hh; unfold pDO at hh; first | (exact absurd hh.1 (by assumption)) | omega)) hW (lv_sub hl [0, 1, 2, 3] rfl)
  exact hL2 121 0 _ _ ls (by omega) (by omega) (by omega) (fun q h0 h1 => absurd h1 (by omega)) hW (lv_sub hl [0, 1, 2, 3] rfl)

/-- X4_driestStackedOf: its end -/
def po_X4_driestStackedOf (w : gW) (j : Nat) (co : Int) : Int → gW → Prop := fun z w1 => (z = bstI (w j) co (gN (w j) 7 6)) ∧ w = w1
theorem hdV_X4_driestStackedOf : yX4_driestStackedOf.cls = RX4 ∧ yX4_driestStackedOf.cls ≠ "java/lang/invoke/MethodHandle" ∧ yX4_driestStackedOf.cls ≠ "java/lang/invoke/VarHandle" ∧ (parseMethodDescriptor yX4_driestStackedOf.desc).map (fun d => d.parameters.length) = some 1 := by decide +kernel
set_option maxHeartbeats 4000000 in
set_option maxRecDepth 100000 in
theorem c_X4_driestStackedOf (l : Launch) (G : gG) (w : gW) {j : Nat} (hj : ms j) (hwf : wf (w j)) (co : Int) (rco : inR co) : mI l G yX4_driestStackedOf (wU yX4_driestStackedOf cX4_driestStackedOf 4 (some .int)) (rmL 0 0) [.ref (ad G j 7), .int (iI co)] w (po_X4_driestStackedOf w j co) := by
  refine mI_of (by decide +kernel) (Nat.le_of_ble_eq_true rfl) (fun p e s m args below meth c ls C0 hW hl => ?_)
  have hl : lv_has ls 4 [(0, .ref (ad G j 7)), (1, .int (iI co))] := hl
  have hx := C0.hx
  have hb := C0.hb
  obtain ⟨⟨hs1, hs2⟩, -⟩ := id hwf
  refine r_bipush hx hb dX4_driestStackedOf_0 (by decide) ?_
  refine lv_istore_n (lv' := [(2, .int (iI (-5))), (0, .ref (ad G j 7)), (1, .int (iI co))]) hx hb dX4_driestStackedOf_2 rfl hl (by decide) rfl (fun ls hl => ?_)
  refine r_iconst hx hb dX4_driestStackedOf_3 ?_
  refine lv_istore_n (lv' := [(3, .int (iI 0)), (2, .int (iI (-5))), (0, .ref (ad G j 7)), (1, .int (iI co))]) hx hb dX4_driestStackedOf_4 rfl hl (by decide) rfl (fun ls hl => ?_)
  have hL5 : ∀ (n : Nat) (x2 : Int) (x3 : Int) (H0 : Heap) (locs0 : List Loc) (ls : Array Slot) (hm : gN (w j) 7 6 - x3 < (n : Int)) (i5_0 : 0 ≤ x3) (i5_1 : x3 ≤ gN (w j) 7 6) (i5_2 : x2 = bstI (w j) co x3) (hW : wo G w s H0 locs0) (hl : lv_has ls 4 [(3, .int (iI x3)), (2, .int (iI x2)), (0, .ref (ad G j 7)), (1, .int (iI co))]), W p l e (rmL 0 0) s m args below meth c H0 locs0 0 0 (QI G (po_X4_driestStackedOf w j co) below args s) (F0 m 5 ls []) := by
    intro n
    induction n with
    | zero =>
      intro x2 x3 H0 locs0 ls hm i5_0 i5_1 i5_2 hW hl
      exact absurd hm (by omega)
    | succ n ih5 =>
      intro x2 x3 H0 locs0 ls hm i5_0 i5_1 i5_2 hW hl
      have hbl := bstI_le (w j) co i5_0
      have hbl2 : x2 = -5 ∨ (0 ≤ x2 ∧ x2 < x3) := by rcases hbl with q | ⟨q1, q2, -⟩ <;> omega
      clear hbl
      refine lv_iload_n hx hb dX4_driestStackedOf_5 rfl (lv_at hl 0 rfl) ?_
      refine lv_aload_n hx hb dX4_driestStackedOf_6 rfl (lv_at hl 2 rfl) ?_
      refine r_gI C0 hW (ms_lt hj 7 (by decide)) (ceX_m hj G 7 _ _) rfl hiX4 (k := 6) (by decide) kf_X4_39 rfl rfl rfl dX4_driestStackedOf_7 (fun z1 (hz1 : z1 = gN (w j) 7 6) rz1 => ?_)
      have rz1a := rz1.1
      have rz1b := rz1.2
      refine r_icmp_ge (tgt := 70) hx hb ⟨by omega, by omega⟩ rz1 dX4_driestStackedOf_10 (by decide) (fun c2 => ?_) (fun c2 => ?_)
      · refine lv_iload_n hx hb dX4_driestStackedOf_70 rfl (lv_at hl 1 rfl) ?_
        exact r_iret C0 hW ⟨by omega, by omega⟩ (⟨by rw [show gN (w j) 7 6 = x3 from by omega]; omega, rfl⟩) dX4_driestStackedOf_71
      · refine lv_aload_n hx hb dX4_driestStackedOf_13 rfl (lv_at hl 2 rfl) ?_
        refine r_gR C0 hW (ms_lt hj 7 (by decide)) (ceX_m hj G 7 _ _) rfl hiX4 (k := 5) (by decide) kf_X4_28 rfl rfl rfl dX4_driestStackedOf_14 ?_
        refine lv_iload_n hx hb dX4_driestStackedOf_17 rfl (lv_at hl 0 rfl) ?_
        refine r_zld C0 hW (ms_lt hj 13 (by decide)) (ceX_m hj G 13 _ _) (n := 120) (by omega) (by omega) (by decide) dX4_driestStackedOf_18 (fun z3 (hz3 : z3 = gA (w j) 13 x3) rz3 => ?_)
        have rz3a := rz3.1
        have rz3b := rz3.2
        refine r_if_eq (tgt := 64) hx hb rz3 dX4_driestStackedOf_19 (by decide) (fun c4 => ?_) (fun c4 => ?_)
        · refine r_iinc (lv' := [(3, .int (iI (x3 + 1))), (2, .int (iI x2)), (0, .ref (ad G j 7)), (1, .int (iI co))]) hx hb dX4_driestStackedOf_64 hl (k := 0) rfl (by decide) rfl (fun ls hl => ?_)
          refine lv_goto (tgt := 5) hx hb dX4_driestStackedOf_67 (by decide) ?_
          exact ih5 x2 (x3 + 1) _ _ ls (by omega) (by omega) (by omega) (by first | (rw [bstI_t (by omega) (by unfold pQ; omega) (by rw [← i5_2]; omega)]) | (rw [bstI_f (by omega) (by rw [← i5_2]; unfold pQ; omega)]; exact i5_2)) hW (lv_sub hl [0, 1, 2, 3] rfl)
        · refine lv_aload_n hx hb dX4_driestStackedOf_22 rfl (lv_at hl 2 rfl) ?_
          refine r_gR C0 hW (ms_lt hj 7 (by decide)) (ceX_m hj G 7 _ _) rfl hiX4 (k := 4) (by decide) kf_X4_25 rfl rfl rfl dX4_driestStackedOf_23 ?_
          refine lv_iload_n hx hb dX4_driestStackedOf_26 rfl (lv_at hl 0 rfl) ?_
          refine r_zld C0 hW (ms_lt hj 12 (by decide)) (ceX_m hj G 12 _ _) (n := 120) (by omega) (by omega) (by decide) dX4_driestStackedOf_27 (fun z5 (hz5 : z5 = gA (w j) 12 x3) rz5 => ?_)
          have rz5a := rz5.1
          have rz5b := rz5.2
          refine r_if_eq (tgt := 64) hx hb rz5 dX4_driestStackedOf_28 (by decide) (fun c6 => ?_) (fun c6 => ?_)
          · refine r_iinc (lv' := [(3, .int (iI (x3 + 1))), (2, .int (iI x2)), (0, .ref (ad G j 7)), (1, .int (iI co))]) hx hb dX4_driestStackedOf_64 hl (k := 0) rfl (by decide) rfl (fun ls hl => ?_)
            refine lv_goto (tgt := 5) hx hb dX4_driestStackedOf_67 (by decide) ?_
            exact ih5 x2 (x3 + 1) _ _ ls (by omega) (by omega) (by omega) (by first | (rw [bstI_t (by omega) (by unfold pQ; omega) (by rw [← i5_2]; omega)]) | (rw [bstI_f (by omega) (by rw [← i5_2]; unfold pQ; omega)]; exact i5_2)) hW (lv_sub hl [0, 1, 2, 3] rfl)
          · refine lv_aload_n hx hb dX4_driestStackedOf_31 rfl (lv_at hl 2 rfl) ?_
            refine r_gR C0 hW (ms_lt hj 7 (by decide)) (ceX_m hj G 7 _ _) rfl hiX4 (k := 0) (by decide) kf_X4_9 rfl rfl rfl dX4_driestStackedOf_32 ?_
            refine lv_iload_n hx hb dX4_driestStackedOf_35 rfl (lv_at hl 0 rfl) ?_
            refine r_ild C0 hW (ms_lt hj 8 (by decide)) (ceX_m hj G 8 _ _) (n := 120) (by omega) (by omega) (by decide) dX4_driestStackedOf_36 (fun z7 (hz7 : z7 = gA (w j) 8 x3) rz7 => ?_)
            have rz7a := rz7.1
            have rz7b := rz7.2
            refine lv_iload_n hx hb dX4_driestStackedOf_37 rfl (lv_at hl 3 rfl) ?_
            refine r_icmp_ne (tgt := 64) hx hb rz7 rco dX4_driestStackedOf_38 (by decide) (fun c8 => ?_) (fun c8 => ?_)
            · refine r_iinc (lv' := [(3, .int (iI (x3 + 1))), (2, .int (iI x2)), (0, .ref (ad G j 7)), (1, .int (iI co))]) hx hb dX4_driestStackedOf_64 hl (k := 0) rfl (by decide) rfl (fun ls hl => ?_)
              refine lv_goto (tgt := 5) hx hb dX4_driestStackedOf_67 (by decide) ?_
              exact ih5 x2 (x3 + 1) _ _ ls (by omega) (by omega) (by omega) (by first | (rw [bstI_t (by omega) (by unfold pQ; omega) (by rw [← i5_2]; omega)]) | (rw [bstI_f (by omega) (by rw [← i5_2]; unfold pQ; omega)]; exact i5_2)) hW (lv_sub hl [0, 1, 2, 3] rfl)
            · refine lv_iload_n hx hb dX4_driestStackedOf_41 rfl (lv_at hl 1 rfl) ?_
              refine r_bipush hx hb dX4_driestStackedOf_42 (by decide) ?_
              refine r_icmp_eq (tgt := 62) hx hb ⟨by omega, by omega⟩ ⟨by omega, by omega⟩ dX4_driestStackedOf_44 (by decide) (fun c9 => ?_) (fun c9 => ?_)
              · refine lv_iload_n hx hb dX4_driestStackedOf_62 rfl (lv_at hl 0 rfl) ?_
                refine lv_istore_n (lv' := [(2, .int (iI x3)), (3, .int (iI x3)), (0, .ref (ad G j 7)), (1, .int (iI co))]) hx hb dX4_driestStackedOf_63 rfl hl (by decide) rfl (fun ls hl => ?_)
                refine r_iinc (lv' := [(3, .int (iI (x3 + 1))), (2, .int (iI x3)), (0, .ref (ad G j 7)), (1, .int (iI co))]) hx hb dX4_driestStackedOf_64 hl (k := 1) rfl (by decide) rfl (fun ls hl => ?_)
                refine lv_goto (tgt := 5) hx hb dX4_driestStackedOf_67 (by decide) ?_
                exact ih5 x3 (x3 + 1) _ _ ls (by omega) (by omega) (by omega) (by first | (rw [bstI_t (by omega) (by unfold pQ; omega) (by rw [← i5_2]; omega)]) | (rw [bstI_f (by omega) (by rw [← i5_2]; unfold pQ; omega)]; exact i5_2)) hW (lv_sub hl [0, 1, 2, 3] rfl)
              · refine lv_aload_n hx hb dX4_driestStackedOf_47 rfl (lv_at hl 2 rfl) ?_
                refine r_gR C0 hW (ms_lt hj 7 (by decide)) (ceX_m hj G 7 _ _) rfl hiX4 (k := 2) (by decide) kf_X4_18 rfl rfl rfl dX4_driestStackedOf_48 ?_
                refine lv_iload_n hx hb dX4_driestStackedOf_51 rfl (lv_at hl 0 rfl) ?_
                refine r_ild C0 hW (ms_lt hj 10 (by decide)) (ceX_m hj G 10 _ _) (n := 120) (by omega) (by omega) (by decide) dX4_driestStackedOf_52 (fun z10 (hz10 : z10 = gA (w j) 10 x3) rz10 => ?_)
                have rz10a := rz10.1
                have rz10b := rz10.2
                refine lv_aload_n hx hb dX4_driestStackedOf_53 rfl (lv_at hl 2 rfl) ?_
                refine r_gR C0 hW (ms_lt hj 7 (by decide)) (ceX_m hj G 7 _ _) rfl hiX4 (k := 2) (by decide) kf_X4_18 rfl rfl rfl dX4_driestStackedOf_54 ?_
                refine lv_iload_n hx hb dX4_driestStackedOf_57 rfl (lv_at hl 1 rfl) ?_
                refine r_ild C0 hW (ms_lt hj 10 (by decide)) (ceX_m hj G 10 _ _) (n := 120) (by omega) (by omega) (by decide) dX4_driestStackedOf_58 (fun z11 (hz11 : z11 = gA (w j) 10 x2) rz11 => ?_)
                have rz11a := rz11.1
                have rz11b := rz11.2
                refine r_icmp_ge (tgt := 64) hx hb rz10 rz11 dX4_driestStackedOf_59 (by decide) (fun c12 => ?_) (fun c12 => ?_)
                · refine r_iinc (lv' := [(3, .int (iI (x3 + 1))), (2, .int (iI x2)), (0, .ref (ad G j 7)), (1, .int (iI co))]) hx hb dX4_driestStackedOf_64 hl (k := 0) rfl (by decide) rfl (fun ls hl => ?_)
                  refine lv_goto (tgt := 5) hx hb dX4_driestStackedOf_67 (by decide) ?_
                  exact ih5 x2 (x3 + 1) _ _ ls (by omega) (by omega) (by omega) (by first | (rw [bstI_t (by omega) (by unfold pQ; omega) (by rw [← i5_2]; omega)]) | (rw [bstI_f (by omega) (by rw [← i5_2]; unfold pQ; omega)]; exact i5_2)) hW (lv_sub hl [0, 1, 2, 3] rfl)
                · refine lv_iload_n hx hb dX4_driestStackedOf_62 rfl (lv_at hl 0 rfl) ?_
                  refine lv_istore_n (lv' := [(2, .int (iI x3)), (3, .int (iI x3)), (0, .ref (ad G j 7)), (1, .int (iI co))]) hx hb dX4_driestStackedOf_63 rfl hl (by decide) rfl (fun ls hl => ?_)
                  refine r_iinc (lv' := [(3, .int (iI (x3 + 1))), (2, .int (iI x3)), (0, .ref (ad G j 7)), (1, .int (iI co))]) hx hb dX4_driestStackedOf_64 hl (k := 1) rfl (by decide) rfl (fun ls hl => ?_)
                  refine lv_goto (tgt := 5) hx hb dX4_driestStackedOf_67 (by decide) ?_
                  exact ih5 x3 (x3 + 1) _ _ ls (by omega) (by omega) (by omega) (by first | (rw [bstI_t (by omega) (by unfold pQ; omega) (by rw [← i5_2]; omega)]) | (rw [bstI_f (by omega) (by rw [← i5_2]; unfold pQ; omega)]; exact i5_2)) hW (lv_sub hl [0, 1, 2, 3] rfl)
  exact hL5 121 (-5) 0 _ _ ls (by omega) (by omega) (by omega) (by rw [bstI_0]) hW (lv_sub hl [0, 1, 2, 3] rfl)

/-- X4_peatsAtHearth: its end -/
def po_X4_peatsAtHearth (w : gW) (j : Nat) (r : Int) : Int → gW → Prop := fun z w1 => ((lyi (w j) r ∧ z = max 0 (40 - gA (w j) 10 r)) ∨ (¬ lyi (w j) r ∧ z = 0)) ∧ w = w1
theorem hdV_X4_peatsAtHearth : yX4_peatsAtHearth.cls = RX4 ∧ yX4_peatsAtHearth.cls ≠ "java/lang/invoke/MethodHandle" ∧ yX4_peatsAtHearth.cls ≠ "java/lang/invoke/VarHandle" ∧ (parseMethodDescriptor yX4_peatsAtHearth.desc).map (fun d => d.parameters.length) = some 1 := by decide +kernel
set_option maxHeartbeats 4000000 in
set_option maxRecDepth 100000 in
theorem c_X4_peatsAtHearth (l : Launch) (G : gG) (w : gW) {j : Nat} (hj : ms j) (hwf : wf (w j)) (r : Int) (rr : inR r) : mI l G yX4_peatsAtHearth (wU yX4_peatsAtHearth cX4_peatsAtHearth 2 (some .int)) (rmL 2 43) [.ref (ad G j 7), .int (iI r)] w (po_X4_peatsAtHearth w j r) := by
  refine mI_of (by decide +kernel) (Nat.le_of_ble_eq_true rfl) (fun p e s m args below meth c ls C0 hW hl => ?_)
  have hl : lv_has ls 2 [(0, .ref (ad G j 7)), (1, .int (iI r))] := hl
  have hx := C0.hx
  have hb := C0.hb
  obtain ⟨⟨hs1, hs2⟩, -⟩ := id hwf
  have hwet := hwf.2.2.1 r
  refine lv_aload_n hx hb dX4_peatsAtHearth_0 rfl (lv_at hl 0 rfl) ?_
  refine lv_iload_n hx hb dX4_peatsAtHearth_1 rfl (lv_at hl 1 rfl) ?_
  refine k_Vi (j := j) (k0 := 7) C0 hW (c_X4_isLying l G w hj (hwf) r rr) km_X4_51 ki_X4_isLying ke_X4_isLying kn_X4 kc_X4_isLying rfl hdV_X4_isLying ⟨by decide, by decide⟩ (ms_lt hj 7 (by decide)) (ceX_m hj G 7 _ _) rfl rfl hl.1 rfl (Nat.le_of_ble_eq_true rfl) dX4_peatsAtHearth_2 (fun z1 w1 H1 locs1 rz1 hp1 hW => ?_)
  obtain ⟨hp1, hq1⟩ := hp1
  subst hq1
  have rz1a := rz1.1
  have rz1b := rz1.2
  rcases hp1 with ⟨e1, hp1⟩ | ⟨e1, hp1⟩
  · subst e1
    obtain ⟨hp11, hp12, hp13⟩ := id hp1
    refine r_if_eq (tgt := 24) hx hb ⟨by omega, by omega⟩ dX4_peatsAtHearth_5 (by decide) (fun q => absurd q (by decide)) (fun _ => ?_)
    refine r_iconst hx hb dX4_peatsAtHearth_8 ?_
    refine r_bipush hx hb dX4_peatsAtHearth_9 (by decide) ?_
    refine lv_aload_n hx hb dX4_peatsAtHearth_11 rfl (lv_at hl 0 rfl) ?_
    refine r_gR C0 hW (ms_lt hj 7 (by decide)) (ceX_m hj G 7 _ _) rfl hiX4 (k := 2) (by decide) kf_X4_18 rfl rfl rfl dX4_peatsAtHearth_12 ?_
    refine lv_iload_n hx hb dX4_peatsAtHearth_15 rfl (lv_at hl 1 rfl) ?_
    refine r_ild C0 hW (ms_lt hj 10 (by decide)) (ceX_m hj G 10 _ _) (n := 120) (by omega) (by omega) (by decide) dX4_peatsAtHearth_16 (fun z2 (hz2 : z2 = gA (w j) 10 r) rz2 => ?_)
    have rz2a := rz2.1
    have rz2b := rz2.2
    refine r_isub hx hb dX4_peatsAtHearth_17 ?_
    refine r_max C0 ⟨by omega, by omega⟩ ⟨by omega, by omega⟩ km_X4_55 ks_J9_max_7cf53 kn_J9 kc_max rfl hl.1 (by decide) (Nat.le_of_ble_eq_true rfl) dX4_peatsAtHearth_18 ?_
    refine lv_goto (tgt := 25) hx hb dX4_peatsAtHearth_21 (by decide) ?_
    exact r_iret C0 hW ⟨by omega, by omega⟩ (⟨by first | (exact Or.inl ⟨by assumption, by omega⟩) | (exact Or.inr ⟨by assumption, rfl⟩), rfl⟩) dX4_peatsAtHearth_25
  · subst e1
    refine r_if_eq (tgt := 24) hx hb ⟨by omega, by omega⟩ dX4_peatsAtHearth_5 (by decide) (fun _ => ?_) (fun q => absurd q (by decide))
    refine r_iconst hx hb dX4_peatsAtHearth_24 ?_
    exact r_iret C0 hW ⟨by omega, by omega⟩ (⟨by first | (exact Or.inl ⟨by assumption, by omega⟩) | (exact Or.inr ⟨by assumption, rfl⟩), rfl⟩) dX4_peatsAtHearth_25

/-- X4_changeBy: its end -/
def po_X4_changeBy (w : gW) (v : Int) (t : Int) : Int → gW → Prop := fun z w1 => (z = chg v t) ∧ w = w1
theorem hdS_X4_changeBy : yX4_changeBy.cls ≠ "java/lang/invoke/MethodHandle" ∧ yX4_changeBy.cls ≠ "java/lang/invoke/VarHandle" ∧ (parseMethodDescriptor yX4_changeBy.desc).map (fun d => d.parameters.length) = some 2 := by decide +kernel
set_option maxHeartbeats 4000000 in
set_option maxRecDepth 100000 in
theorem c_X4_changeBy (l : Launch) (G : gG) (w : gW) (v : Int) (t : Int) (rv : inR v) (rt : inR t) : mI l G yX4_changeBy (wU yX4_changeBy cX4_changeBy 2 (some .int)) (rmL 0 0) [.int (iI v), .int (iI t)] w (po_X4_changeBy w v t) := by
  refine mI_of (by decide +kernel) (Nat.le_of_ble_eq_true rfl) (fun p e s m args below meth c ls C0 hW hl => ?_)
  have hl : lv_has ls 2 [(0, .int (iI v)), (1, .int (iI t))] := hl
  have hx := C0.hx
  have hb := C0.hb
  refine lv_iload_n hx hb dX4_changeBy_0 rfl (lv_at hl 0 rfl) ?_
  by_cases c1_0 : v = 0
  · refine lv_lookup (off := 27) (tgt := 28) hx hb dX4_changeBy_1 (by decide) (by rw [iI_t rv, c1_0] <;> rfl) (by decide) ?_
    refine lv_iload_n hx hb dX4_changeBy_28 rfl (lv_at hl 1 rfl) ?_
    refine r_if_eq (tgt := 37) hx hb rt dX4_changeBy_29 (by decide) (fun c2 => ?_) (fun c2 => ?_)
    · refine r_bipush hx hb dX4_changeBy_37 (by decide) ?_
      exact r_iret C0 hW ⟨by omega, by omega⟩ (⟨by unfold chg; simp [*], rfl⟩) dX4_changeBy_39
    · refine r_bipush hx hb dX4_changeBy_32 (by decide) ?_
      refine lv_goto (tgt := 39) hx hb dX4_changeBy_34 (by decide) ?_
      exact r_iret C0 hW ⟨by omega, by omega⟩ (⟨by unfold chg; simp [*], rfl⟩) dX4_changeBy_39
  by_cases c1_1 : v = 1
  · refine lv_lookup (off := 39) (tgt := 40) hx hb dX4_changeBy_1 (by decide) (by rw [iI_t rv, c1_1] <;> rfl) (by decide) ?_
    refine lv_iload_n hx hb dX4_changeBy_40 rfl (lv_at hl 1 rfl) ?_
    refine r_if_eq (tgt := 49) hx hb rt dX4_changeBy_41 (by decide) (fun c3 => ?_) (fun c3 => ?_)
    · refine r_bipush hx hb dX4_changeBy_49 (by decide) ?_
      exact r_iret C0 hW ⟨by omega, by omega⟩ (⟨by unfold chg; simp [*], rfl⟩) dX4_changeBy_51
    · refine r_bipush hx hb dX4_changeBy_44 (by decide) ?_
      refine lv_goto (tgt := 51) hx hb dX4_changeBy_46 (by decide) ?_
      exact r_iret C0 hW ⟨by omega, by omega⟩ (⟨by unfold chg; simp [*], rfl⟩) dX4_changeBy_51
  refine lv_lookup (off := 51) (tgt := 52) hx hb dX4_changeBy_1 (by decide) (by rw [iI_t rv]; show Op.lookupswitch.offset [(0, 27), (1, 39)] 51 _ = _; rw [Op.lookupswitch.offset_cons, if_neg (fun q => c1_0 q.symm)]; rw [Op.lookupswitch.offset_cons, if_neg (fun q => c1_1 q.symm)] <;> rfl) (by decide) ?_
  refine r_iconst hx hb dX4_changeBy_52 ?_
  exact r_iret C0 hW ⟨by omega, by omega⟩ (⟨by unfold chg; simp [*], rfl⟩) dX4_changeBy_53

/-- X4_dryOrWet: its end -/
def po_X4_dryOrWet (w : gW) (j : Nat) (v : Int) : gW → Prop := fun w1 => w1 = up w j (sF (w j) 10 (wetF (w j) v (gN (w j) 7 6)))
theorem hdV_X4_dryOrWet : yX4_dryOrWet.cls = RX4 ∧ yX4_dryOrWet.cls ≠ "java/lang/invoke/MethodHandle" ∧ yX4_dryOrWet.cls ≠ "java/lang/invoke/VarHandle" ∧ (parseMethodDescriptor yX4_dryOrWet.desc).map (fun d => d.parameters.length) = some 1 := by decide +kernel
set_option maxHeartbeats 4000000 in
set_option maxRecDepth 100000 in
theorem c_X4_dryOrWet (l : Launch) (G : gG) (w : gW) {j : Nat} (hj : ms j) (hwf : wf (w j)) (v : Int) (rv : inR v) : mV l G yX4_dryOrWet (wU yX4_dryOrWet cX4_dryOrWet 4 none) (rmL 1 21) [.ref (ad G j 7), .int (iI v)] w (po_X4_dryOrWet w j v) := by
  refine mV_of (by decide +kernel) (Nat.le_of_ble_eq_true rfl) (fun p e s m args below meth c ls C0 hW hl => ?_)
  have hl : lv_has ls 4 [(0, .ref (ad G j 7)), (1, .int (iI v))] := hl
  have hx := C0.hx
  have hb := C0.hb
  obtain ⟨⟨hs1, hs2⟩, -⟩ := id hwf
  have hwet := hwf.2.2.1
  refine r_iconst hx hb dX4_dryOrWet_0 ?_
  refine lv_istore_n (lv' := [(2, .int (iI 0)), (0, .ref (ad G j 7)), (1, .int (iI v))]) hx hb dX4_dryOrWet_1 rfl hl (by decide) rfl (fun ls hl => ?_)
  have hL2 : ∀ (n : Nat) (x2 : Int) (wv : gW) (hwv : wv = up w j (sF (w j) 10 (wetF (w j) v x2))) (H0 : Heap) (locs0 : List Loc) (ls : Array Slot) (hm : gN (w j) 7 6 - x2 < (n : Int)) (i2_0 : 0 ≤ x2) (i2_1 : x2 ≤ gN (w j) 7 6) (hW : wo G wv s H0 locs0) (hl : lv_has ls 4 [(2, .int (iI x2)), (0, .ref (ad G j 7)), (1, .int (iI v))]), W p l e (rmL 1 21) s m args below meth c H0 locs0 0 0 (QV G (po_X4_dryOrWet w j v) below args s) (F0 m 2 ls []) := by
    intro n
    induction n with
    | zero =>
      intro x2 wv hwv H0 locs0 ls hm i2_0 i2_1 hW hl
      exact absurd hm (by omega)
    | succ n ih2 =>
      intro x2 wv hwv H0 locs0 ls hm i2_0 i2_1 hW hl
      have hwx := hwet x2
      have hch := chg_le v (gA (w j) 11 x2)
      refine lv_iload_n hx hb dX4_dryOrWet_2 rfl (lv_at hl 0 rfl) ?_
      refine lv_aload_n hx hb dX4_dryOrWet_3 rfl (lv_at hl 1 rfl) ?_
      refine r_gI C0 hW (ms_lt hj 7 (by decide)) (ceX_m hj G 7 _ _) rfl hiX4 (k := 6) (by decide) kf_X4_39 rfl rfl rfl dX4_dryOrWet_4 (fun z1 (hz1 : z1 = gN (wv j) 7 6) rz1 => ?_)
      have rz1a := rz1.1
      have rz1b := rz1.2
      try simp (decide := true) only [hwv, up_s, gA_sF, gN_sF, gA_sA, gN_sA, gA_sS, gN_sS, if_true, if_false, true_and, and_true, false_and, and_false, gA_wx] at hz1
      refine r_icmp_ge (tgt := 68) hx hb ⟨by omega, by omega⟩ rz1 dX4_dryOrWet_7 (by decide) (fun c2 => ?_) (fun c2 => ?_)
      · exact r_vret C0 hW (by unfold po_X4_dryOrWet; rw [show gN (w j) 7 6 = x2 from by omega]; exact hwv) dX4_dryOrWet_68
      · refine lv_aload_n hx hb dX4_dryOrWet_10 rfl (lv_at hl 1 rfl) ?_
        refine r_gR C0 hW (ms_lt hj 7 (by decide)) (ceX_m hj G 7 _ _) rfl hiX4 (k := 5) (by decide) kf_X4_28 rfl rfl rfl dX4_dryOrWet_11 ?_
        refine lv_iload_n hx hb dX4_dryOrWet_14 rfl (lv_at hl 0 rfl) ?_
        refine r_zld C0 hW (ms_lt hj 13 (by decide)) (ceX_m hj G 13 _ _) (n := 120) (by omega) (by omega) (by decide) dX4_dryOrWet_15 (fun z3 (hz3 : z3 = gA (wv j) 13 x2) rz3 => ?_)
        have rz3a := rz3.1
        have rz3b := rz3.2
        try simp (decide := true) only [hwv, up_s, gA_sF, gN_sF, gA_sA, gN_sA, gA_sS, gN_sS, if_true, if_false, true_and, and_true, false_and, and_false, gA_wx] at hz3
        refine r_if_eq (tgt := 62) hx hb rz3 dX4_dryOrWet_16 (by decide) (fun c4 => ?_) (fun c4 => ?_)
        · refine r_iinc (lv' := [(2, .int (iI (x2 + 1))), (0, .ref (ad G j 7)), (1, .int (iI v))]) hx hb dX4_dryOrWet_62 hl (k := 0) rfl (by decide) rfl (fun ls hl => ?_)
          refine lv_goto (tgt := 2) hx hb dX4_dryOrWet_65 (by decide) ?_
          exact ih2 (x2 + 1) _ (by first | (rw [wetF_f (by omega)]; exact hwv) | (simp only [hwv, up_up, up_s, sA_sF]; rw [wetF_t (by omega) (by omega) (by omega)]; congr; funext i; congr 3; omega)) _ _ ls (by omega) (by omega) (by omega) hW (lv_sub hl [0, 1, 2] rfl)
        · refine lv_aload_n hx hb dX4_dryOrWet_19 rfl (lv_at hl 1 rfl) ?_
          refine r_gR C0 hW (ms_lt hj 7 (by decide)) (ceX_m hj G 7 _ _) rfl hiX4 (k := 4) (by decide) kf_X4_25 rfl rfl rfl dX4_dryOrWet_20 ?_
          refine lv_iload_n hx hb dX4_dryOrWet_23 rfl (lv_at hl 0 rfl) ?_
          refine r_zld C0 hW (ms_lt hj 12 (by decide)) (ceX_m hj G 12 _ _) (n := 120) (by omega) (by omega) (by decide) dX4_dryOrWet_24 (fun z5 (hz5 : z5 = gA (wv j) 12 x2) rz5 => ?_)
          have rz5a := rz5.1
          have rz5b := rz5.2
          try simp (decide := true) only [hwv, up_s, gA_sF, gN_sF, gA_sA, gN_sA, gA_sS, gN_sS, if_true, if_false, true_and, and_true, false_and, and_false, gA_wx] at hz5
          refine r_if_ne (tgt := 62) hx hb rz5 dX4_dryOrWet_25 (by decide) (fun c6 => ?_) (fun c6 => ?_)
          · refine r_iinc (lv' := [(2, .int (iI (x2 + 1))), (0, .ref (ad G j 7)), (1, .int (iI v))]) hx hb dX4_dryOrWet_62 hl (k := 0) rfl (by decide) rfl (fun ls hl => ?_)
            refine lv_goto (tgt := 2) hx hb dX4_dryOrWet_65 (by decide) ?_
            exact ih2 (x2 + 1) _ (by first | (rw [wetF_f (by omega)]; exact hwv) | (simp only [hwv, up_up, up_s, sA_sF]; rw [wetF_t (by omega) (by omega) (by omega)]; congr; funext i; congr 3; omega)) _ _ ls (by omega) (by omega) (by omega) hW (lv_sub hl [0, 1, 2] rfl)
          · refine lv_aload_n hx hb dX4_dryOrWet_28 rfl (lv_at hl 1 rfl) ?_
            refine r_gR C0 hW (ms_lt hj 7 (by decide)) (ceX_m hj G 7 _ _) rfl hiX4 (k := 2) (by decide) kf_X4_18 rfl rfl rfl dX4_dryOrWet_29 ?_
            refine lv_iload_n hx hb dX4_dryOrWet_32 rfl (lv_at hl 0 rfl) ?_
            refine r_ild C0 hW (ms_lt hj 10 (by decide)) (ceX_m hj G 10 _ _) (n := 120) (by omega) (by omega) (by decide) dX4_dryOrWet_33 (fun z7 (hz7 : z7 = gA (wv j) 10 x2) rz7 => ?_)
            have rz7a := rz7.1
            have rz7b := rz7.2
            try simp (decide := true) only [hwv, up_s, gA_sF, gN_sF, gA_sA, gN_sA, gA_sS, gN_sS, if_true, if_false, true_and, and_true, false_and, and_false, gA_wx] at hz7
            refine lv_iload_n hx hb dX4_dryOrWet_34 rfl (lv_at hl 2 rfl) ?_
            refine lv_aload_n hx hb dX4_dryOrWet_35 rfl (lv_at hl 1 rfl) ?_
            refine r_gR C0 hW (ms_lt hj 7 (by decide)) (ceX_m hj G 7 _ _) rfl hiX4 (k := 3) (by decide) kf_X4_21 rfl rfl rfl dX4_dryOrWet_36 ?_
            refine lv_iload_n hx hb dX4_dryOrWet_39 rfl (lv_at hl 0 rfl) ?_
            refine r_zld C0 hW (ms_lt hj 11 (by decide)) (ceX_m hj G 11 _ _) (n := 120) (by omega) (by omega) (by decide) dX4_dryOrWet_40 (fun z8 (hz8 : z8 = gA (wv j) 11 x2) rz8 => ?_)
            have rz8a := rz8.1
            have rz8b := rz8.2
            try simp (decide := true) only [hwv, up_s, gA_sF, gN_sF, gA_sA, gN_sA, gA_sS, gN_sS, if_true, if_false, true_and, and_true, false_and, and_false, gA_wx] at hz8
            refine k_Si (host := "") C0 hW (As := [.int (iI v), .int (iI z8)]) (c_X4_changeBy l G wv v z8 rv rz8) km_X4_81 ks_X4_changeBy kn_X4 kc_X4_changeBy rfl hdS_X4_changeBy ⟨by decide, by decide⟩ rfl hl.1 rfl (Nat.le_of_ble_eq_true rfl) dX4_dryOrWet_41 (fun z9 w9 H1 locs1 rz9 hp9 hW => ?_)
            obtain ⟨hp9, hq9⟩ := hp9
            subst hq9
            have rz9a := rz9.1
            have rz9b := rz9.2
            try simp only [hwv, up_s, gA_sF, gN_sF, gA_sA, gN_sA, gA_sS, gN_sS, if_true, if_false, true_and, and_true, false_and, and_false, gA_wx] at hp9
            simp only [hz1, hz3, hz5, hz7, hz8] at hp9
            refine r_iadd hx hb dX4_dryOrWet_44 ?_
            refine lv_istore_n (lv' := [(3, .int (iI (z7 + z9))), (2, .int (iI x2)), (0, .ref (ad G j 7)), (1, .int (iI v))]) hx hb dX4_dryOrWet_45 rfl hl (by decide) rfl (fun ls hl => ?_)
            refine lv_aload_n hx hb dX4_dryOrWet_46 rfl (lv_at hl 2 rfl) ?_
            refine r_gR C0 hW (ms_lt hj 7 (by decide)) (ceX_m hj G 7 _ _) rfl hiX4 (k := 2) (by decide) kf_X4_18 rfl rfl rfl dX4_dryOrWet_47 ?_
            refine lv_iload_n hx hb dX4_dryOrWet_50 rfl (lv_at hl 1 rfl) ?_
            refine r_iconst hx hb dX4_dryOrWet_51 ?_
            refine r_bipush hx hb dX4_dryOrWet_52 (by decide) ?_
            refine lv_iload_n hx hb dX4_dryOrWet_54 rfl (lv_at hl 0 rfl) ?_
            refine r_min C0 ⟨by omega, by omega⟩ ⟨by omega, by omega⟩ km_X4_85 ks_J9_min_7cf53 kn_J9 kc_min rfl hl.1 (by decide) (Nat.le_of_ble_eq_true rfl) dX4_dryOrWet_55 ?_
            refine r_max C0 ⟨by omega, by omega⟩ ⟨by omega, by omega⟩ km_X4_55 ks_J9_max_7cf53 kn_J9 kc_max rfl hl.1 (by decide) (Nat.le_of_ble_eq_true rfl) dX4_dryOrWet_58 ?_
            refine r_ist C0 hW (ms_lt hj 10 (by decide)) (fun A => (ceX_m hj G 10 _ _)) (n := 120) (v := iI (max 0 (min 60 (z7 + z9)))) (by omega) (by omega) (by decide) dX4_dryOrWet_61 (fun H1 locs1 hW => ?_)
            obtain ⟨w10, hw10⟩ : ∃ q : gW, q = up wv j (sA (wv j) 10 x2 (iI (max 0 (min 60 (z7 + z9))))) := ⟨_, rfl⟩
            rw [← hw10] at hW
            refine r_iinc (lv' := [(2, .int (iI (x2 + 1))), (3, .int (iI (z7 + z9))), (0, .ref (ad G j 7)), (1, .int (iI v))]) hx hb dX4_dryOrWet_62 hl (k := 1) rfl (by decide) rfl (fun ls hl => ?_)
            refine lv_goto (tgt := 2) hx hb dX4_dryOrWet_65 (by decide) ?_
            exact ih2 (x2 + 1) _ (by first | (rw [wetF_f (by omega)]; exact hwv) | (simp only [hw10, hwv, up_up, up_s, sA_sF]; rw [wetF_t (by omega) (by omega) (by omega)]; congr; funext i; congr 3; omega)) _ _ ls (by omega) (by omega) (by omega) hW (lv_sub hl [0, 2, 3] rfl)
  exact hL2 121 0 _ (by rw [wetF_0, sF_id, up_id]) _ _ ls (by omega) (by omega) (by omega) hW (lv_sub hl [0, 1, 2] rfl)

/-- X4_loseAll: its end -/
def po_X4_loseAll (w : gW) (j : Nat) : Int → gW → Prop := fun z w1 => z = cntI (pLy (w j)) (gN (w j) 7 6) ∧ w1 = up w j (sF (w j) 13 (zeF (w j) 13 (gN (w j) 7 6)))
theorem hdV_X4_loseAll : yX4_loseAll.cls = RX4 ∧ yX4_loseAll.cls ≠ "java/lang/invoke/MethodHandle" ∧ yX4_loseAll.cls ≠ "java/lang/invoke/VarHandle" ∧ (parseMethodDescriptor yX4_loseAll.desc).map (fun d => d.parameters.length) = some 0 := by decide +kernel
set_option maxHeartbeats 4000000 in
set_option maxRecDepth 100000 in
theorem c_X4_loseAll (l : Launch) (G : gG) (w : gW) {j : Nat} (hj : ms j) (hwf : wf (w j)) : mI l G yX4_loseAll (wU yX4_loseAll cX4_loseAll 3 (some .int)) (rmL 2 42) [.ref (ad G j 7)] w (po_X4_loseAll w j) := by
  refine mI_of (by decide +kernel) (Nat.le_of_ble_eq_true rfl) (fun p e s m args below meth c ls C0 hW hl => ?_)
  have hl : lv_has ls 3 [(0, .ref (ad G j 7))] := hl
  have hx := C0.hx
  have hb := C0.hb
  obtain ⟨⟨hs1, hs2⟩, -⟩ := id hwf
  refine lv_aload_n hx hb dX4_loseAll_0 rfl (lv_at hl 0 rfl) ?_
  refine k_Vi (j := j) (k0 := 7) C0 hW (c_X4_countLying l G w hj (hwf)) km_X4_88 ki_X4_countLying ke_X4_countLying kn_X4 kc_X4_countLying rfl hdV_X4_countLying ⟨by decide, by decide⟩ (ms_lt hj 7 (by decide)) (ceX_m hj G 7 _ _) rfl rfl hl.1 rfl (Nat.le_of_ble_eq_true rfl) dX4_loseAll_1 (fun z1 w1 H1 locs1 rz1 hp1 hW => ?_)
  obtain ⟨hp1, hq1⟩ := hp1
  subst hq1
  have rz1a := rz1.1
  have rz1b := rz1.2
  refine lv_istore_n (lv' := [(1, .int (iI z1)), (0, .ref (ad G j 7))]) hx hb dX4_loseAll_4 rfl hl (by decide) rfl (fun ls hl => ?_)
  refine r_iconst hx hb dX4_loseAll_5 ?_
  refine lv_istore_n (lv' := [(2, .int (iI 0)), (1, .int (iI z1)), (0, .ref (ad G j 7))]) hx hb dX4_loseAll_6 rfl hl (by decide) rfl (fun ls hl => ?_)
  have hL7 : ∀ (n : Nat) (x2 : Int) (wv : gW) (hwv : wv = up w j (sF (w j) 13 (zeF (w j) 13 x2))) (H0 : Heap) (locs0 : List Loc) (ls : Array Slot) (hm : gN (w j) 7 6 - x2 < (n : Int)) (i7_0 : 0 ≤ x2) (i7_1 : x2 ≤ gN (w j) 7 6) (hW : wo G wv s H0 locs0) (hl : lv_has ls 3 [(2, .int (iI x2)), (1, .int (iI z1)), (0, .ref (ad G j 7))]), W p l e (rmL 2 42) s m args below meth c H0 locs0 0 0 (QI G (po_X4_loseAll w j) below args s) (F0 m 7 ls []) := by
    intro n
    induction n with
    | zero =>
      intro x2 wv hwv H0 locs0 ls hm i7_0 i7_1 hW hl
      exact absurd hm (by omega)
    | succ n ih7 =>
      intro x2 wv hwv H0 locs0 ls hm i7_0 i7_1 hW hl
      refine lv_iload_n hx hb dX4_loseAll_7 rfl (lv_at hl 0 rfl) ?_
      refine lv_aload_n hx hb dX4_loseAll_8 rfl (lv_at hl 2 rfl) ?_
      refine r_gI C0 hW (ms_lt hj 7 (by decide)) (ceX_m hj G 7 _ _) rfl hiX4 (k := 6) (by decide) kf_X4_39 rfl rfl rfl dX4_loseAll_9 (fun z2 (hz2 : z2 = gN (wv j) 7 6) rz2 => ?_)
      have rz2a := rz2.1
      have rz2b := rz2.2
      try simp (decide := true) only [hwv, up_s, gA_sF, gN_sF, gA_sA, gN_sA, gA_sS, gN_sS, if_true, if_false, true_and, and_true, false_and, and_false] at hz2
      refine r_icmp_ge (tgt := 28) hx hb ⟨by omega, by omega⟩ rz2 dX4_loseAll_12 (by decide) (fun c3 => ?_) (fun c3 => ?_)
      · refine lv_iload_n hx hb dX4_loseAll_28 rfl (lv_at hl 1 rfl) ?_
        exact r_iret C0 hW rz1 (⟨by omega, by rw [show gN (w j) 7 6 = x2 from by omega]; exact hwv⟩) dX4_loseAll_29
      · refine lv_aload_n hx hb dX4_loseAll_15 rfl (lv_at hl 2 rfl) ?_
        refine r_gR C0 hW (ms_lt hj 7 (by decide)) (ceX_m hj G 7 _ _) rfl hiX4 (k := 5) (by decide) kf_X4_28 rfl rfl rfl dX4_loseAll_16 ?_
        refine lv_iload_n hx hb dX4_loseAll_19 rfl (lv_at hl 0 rfl) ?_
        refine r_iconst hx hb dX4_loseAll_20 ?_
        refine r_zst C0 hW (ms_lt hj 13 (by decide)) (fun A => (ceX_m hj G 13 _ _)) (n := 120) (v := iI 0) (iI_narz (by first | exact Or.inl rfl | exact Or.inr rfl | omega)) (by omega) (by omega) (by decide) dX4_loseAll_21 (fun H1 locs1 hW => ?_)
        obtain ⟨w4, hw4⟩ : ∃ q : gW, q = up wv j (sA (wv j) 13 x2 (iI 0)) := ⟨_, rfl⟩
        rw [← hw4] at hW
        refine r_iinc (lv' := [(2, .int (iI (x2 + 1))), (1, .int (iI z1)), (0, .ref (ad G j 7))]) hx hb dX4_loseAll_22 hl (k := 0) rfl (by decide) rfl (fun ls hl => ?_)
        refine lv_goto (tgt := 7) hx hb dX4_loseAll_25 (by decide) ?_
        exact ih7 (x2 + 1) _ (by simp only [hw4, hwv, up_up, up_s, sA_sF]; rw [zeF_s _ _ (by omega)]) _ _ ls (by omega) (by omega) (by omega) hW (lv_sub hl [0, 1, 2] rfl)
  exact hL7 121 0 _ (by rw [zeF_0, sF_id, up_id]) _ _ ls (by omega) (by omega) (by omega) hW (lv_sub hl [0, 1, 2] rfl)
end
section
/-- X4_lay: its end -/
def po_X4_lay (w : gW) (j : Nat) (co : Int) (pl : Int) : Int → gW → Prop := fun z w1 => z = gN (w j) 7 6 ∧ w1 = up w j (layM (w j) co pl)
theorem hdV_X4_lay : yX4_lay.cls = RX4 ∧ yX4_lay.cls ≠ "java/lang/invoke/MethodHandle" ∧ yX4_lay.cls ≠ "java/lang/invoke/VarHandle" ∧ (parseMethodDescriptor yX4_lay.desc).map (fun d => d.parameters.length) = some 2 := by decide +kernel
set_option maxHeartbeats 4000000 in
set_option maxRecDepth 100000 in
theorem c_X4_lay (l : Launch) (G : gG) (w : gW) {j : Nat} (hj : ms j) (hwf : wf (w j)) (co : Int) (pl : Int) (rco : inR co) (rpl : inR pl) (hn9 : gN (w j) 7 6 < 120) : mI l G yX4_lay (wU yX4_lay cX4_lay 4 (some .int)) (rmL 1 20) [.ref (ad G j 7), .int (iI co), .int (iI pl)] w (po_X4_lay w j co pl) := by
  refine mI_of (by decide +kernel) (Nat.le_of_ble_eq_true rfl) (fun p e s m args below meth c ls C0 hW hl => ?_)
  have hl : lv_has ls 4 [(0, .ref (ad G j 7)), (1, .int (iI co)), (2, .int (iI pl))] := hl
  have hx := C0.hx
  have hb := C0.hb
  obtain ⟨⟨hs1, hs2⟩, -⟩ := id hwf
  refine lv_aload_n hx hb dX4_lay_0 rfl (lv_at hl 0 rfl) ?_
  refine r_gI C0 hW (ms_lt hj 7 (by decide)) (ceX_m hj G 7 _ _) rfl hiX4 (k := 6) (by decide) kf_X4_39 rfl rfl rfl dX4_lay_1 (fun z1 (hz1 : z1 = gN (w j) 7 6) rz1 => ?_)
  have rz1a := rz1.1
  have rz1b := rz1.2
  refine lv_istore_n (lv' := [(3, .int (iI z1)), (0, .ref (ad G j 7)), (1, .int (iI co)), (2, .int (iI pl))]) hx hb dX4_lay_4 rfl hl (by decide) rfl (fun ls hl => ?_)
  refine lv_aload_n hx hb dX4_lay_5 rfl (lv_at hl 1 rfl) ?_
  refine k_Vi (j := j) (k0 := 7) C0 hW (c_X4_hasNumberLeft l G w hj (hwf)) km_X4_43 ki_X4_hasNumberLeft ke_X4_hasNumberLeft kn_X4 kc_X4_hasNumberLeft rfl hdV_X4_hasNumberLeft ⟨by decide, by decide⟩ (ms_lt hj 7 (by decide)) (ceX_m hj G 7 _ _) rfl rfl hl.1 rfl (Nat.le_of_ble_eq_true rfl) dX4_lay_6 (fun z2 w2 H1 locs1 rz2 hp2 hW => ?_)
  obtain ⟨hp2, hq2⟩ := hp2
  subst hq2
  have rz2a := rz2.1
  have rz2b := rz2.2
  rcases hp2 with ⟨e2, hp2⟩ | ⟨e2, hp2⟩
  · subst e2
    refine r_if_ne (tgt := 15) hx hb ⟨by omega, by omega⟩ dX4_lay_9 (by decide) (fun _ => ?_) (fun q => absurd q (by decide))
    refine lv_aload_n hx hb dX4_lay_15 rfl (lv_at hl 1 rfl) ?_
    refine r_gR C0 hW (ms_lt hj 7 (by decide)) (ceX_m hj G 7 _ _) rfl hiX4 (k := 0) (by decide) kf_X4_9 rfl rfl rfl dX4_lay_16 ?_
    refine lv_iload_n hx hb dX4_lay_19 rfl (lv_at hl 0 rfl) ?_
    refine lv_iload_n hx hb dX4_lay_20 rfl (lv_at hl 2 rfl) ?_
    refine r_ist C0 hW (ms_lt hj 8 (by decide)) (fun A => (ceX_m hj G 8 _ _)) (n := 120) (v := iI co) (by omega) (by omega) (by decide) dX4_lay_21 (fun H1 locs1 hW => ?_)
    obtain ⟨w3, hw3⟩ : ∃ q : gW, q = up w j (sA (w j) 8 z1 (iI co)) := ⟨_, rfl⟩
    rw [← hw3] at hW
    refine lv_aload_n hx hb dX4_lay_22 rfl (lv_at hl 1 rfl) ?_
    refine r_gR C0 hW (ms_lt hj 7 (by decide)) (ceX_m hj G 7 _ _) rfl hiX4 (k := 1) (by decide) kf_X4_15 rfl rfl rfl dX4_lay_23 ?_
    refine lv_iload_n hx hb dX4_lay_26 rfl (lv_at hl 0 rfl) ?_
    refine lv_iload_n hx hb dX4_lay_27 rfl (lv_at hl 3 rfl) ?_
    refine r_ist C0 hW (ms_lt hj 9 (by decide)) (fun A => (ceX_m hj G 9 _ _)) (n := 120) (v := iI pl) (by omega) (by omega) (by decide) dX4_lay_28 (fun H1 locs1 hW => ?_)
    obtain ⟨w4, hw4⟩ : ∃ q : gW, q = up w3 j (sA (w3 j) 9 z1 (iI pl)) := ⟨_, rfl⟩
    rw [← hw4] at hW
    refine lv_aload_n hx hb dX4_lay_29 rfl (lv_at hl 1 rfl) ?_
    refine r_gR C0 hW (ms_lt hj 7 (by decide)) (ceX_m hj G 7 _ _) rfl hiX4 (k := 2) (by decide) kf_X4_18 rfl rfl rfl dX4_lay_30 ?_
    refine lv_iload_n hx hb dX4_lay_33 rfl (lv_at hl 0 rfl) ?_
    refine r_bipush hx hb dX4_lay_34 (by decide) ?_
    refine r_ist C0 hW (ms_lt hj 10 (by decide)) (fun A => (ceX_m hj G 10 _ _)) (n := 120) (v := iI 50) (by omega) (by omega) (by decide) dX4_lay_36 (fun H1 locs1 hW => ?_)
    obtain ⟨w5, hw5⟩ : ∃ q : gW, q = up w4 j (sA (w4 j) 10 z1 (iI 50)) := ⟨_, rfl⟩
    rw [← hw5] at hW
    refine lv_aload_n hx hb dX4_lay_37 rfl (lv_at hl 1 rfl) ?_
    refine r_gR C0 hW (ms_lt hj 7 (by decide)) (ceX_m hj G 7 _ _) rfl hiX4 (k := 3) (by decide) kf_X4_21 rfl rfl rfl dX4_lay_38 ?_
    refine lv_iload_n hx hb dX4_lay_41 rfl (lv_at hl 0 rfl) ?_
    refine r_iconst hx hb dX4_lay_42 ?_
    refine r_zst C0 hW (ms_lt hj 11 (by decide)) (fun A => (ceX_m hj G 11 _ _)) (n := 120) (v := iI 0) (iI_narz (by first | exact Or.inl rfl | exact Or.inr rfl | omega)) (by omega) (by omega) (by decide) dX4_lay_43 (fun H1 locs1 hW => ?_)
    obtain ⟨w6, hw6⟩ : ∃ q : gW, q = up w5 j (sA (w5 j) 11 z1 (iI 0)) := ⟨_, rfl⟩
    rw [← hw6] at hW
    refine lv_aload_n hx hb dX4_lay_44 rfl (lv_at hl 1 rfl) ?_
    refine r_gR C0 hW (ms_lt hj 7 (by decide)) (ceX_m hj G 7 _ _) rfl hiX4 (k := 4) (by decide) kf_X4_25 rfl rfl rfl dX4_lay_45 ?_
    refine lv_iload_n hx hb dX4_lay_48 rfl (lv_at hl 0 rfl) ?_
    refine r_iconst hx hb dX4_lay_49 ?_
    refine r_zst C0 hW (ms_lt hj 12 (by decide)) (fun A => (ceX_m hj G 12 _ _)) (n := 120) (v := iI 0) (iI_narz (by first | exact Or.inl rfl | exact Or.inr rfl | omega)) (by omega) (by omega) (by decide) dX4_lay_50 (fun H1 locs1 hW => ?_)
    obtain ⟨w7, hw7⟩ : ∃ q : gW, q = up w6 j (sA (w6 j) 12 z1 (iI 0)) := ⟨_, rfl⟩
    rw [← hw7] at hW
    refine lv_aload_n hx hb dX4_lay_51 rfl (lv_at hl 1 rfl) ?_
    refine r_gR C0 hW (ms_lt hj 7 (by decide)) (ceX_m hj G 7 _ _) rfl hiX4 (k := 5) (by decide) kf_X4_28 rfl rfl rfl dX4_lay_52 ?_
    refine lv_iload_n hx hb dX4_lay_55 rfl (lv_at hl 0 rfl) ?_
    refine r_iconst hx hb dX4_lay_56 ?_
    refine r_zst C0 hW (ms_lt hj 13 (by decide)) (fun A => (ceX_m hj G 13 _ _)) (n := 120) (v := iI 1) (iI_narz (by first | exact Or.inl rfl | exact Or.inr rfl | omega)) (by omega) (by omega) (by decide) dX4_lay_57 (fun H1 locs1 hW => ?_)
    obtain ⟨w8, hw8⟩ : ∃ q : gW, q = up w7 j (sA (w7 j) 13 z1 (iI 1)) := ⟨_, rfl⟩
    rw [← hw8] at hW
    refine lv_aload_n hx hb dX4_lay_58 rfl (lv_at hl 1 rfl) ?_
    refine lv_dup hx hb dX4_lay_59 rfl ?_
    refine r_gI C0 hW (ms_lt hj 7 (by decide)) (ceX_m hj G 7 _ _) rfl hiX4 (k := 6) (by decide) kf_X4_39 rfl rfl rfl dX4_lay_60 (fun z9 (hz9 : z9 = gN (w8 j) 7 6) rz9 => ?_)
    have rz9a := rz9.1
    have rz9b := rz9.2
    try simp (decide := true) only [hw8, hw7, hw6, hw5, hw4, hw3, up_s, gA_sF, gN_sF, gA_sA, gN_sA, gA_sS, gN_sS, if_true, if_false, true_and, and_true, false_and, and_false] at hz9
    refine r_iconst hx hb dX4_lay_63 ?_
    refine r_iadd hx hb dX4_lay_64 ?_
    refine r_pI C0 hW (ms_lt hj 7 (by decide)) (ceX_m hj G 7 _ _) rfl hiX4 tyX4 tyX4_ok nmX4 (k := 6) (v := iI (z9 + 1)) (by decide) kf_X4_39 rfl rfl rfl (tyX4_ok 6 (by decide)) rfl rfl (by simp) (ceX_m hj G 7 _ _) dX4_lay_65 (fun H1 locs1 hW => ?_)
    obtain ⟨w10, hw10⟩ : ∃ q : gW, q = up w8 j (sS (w8 j) 7 6 (iI (z9 + 1))) := ⟨_, rfl⟩
    rw [← hw10] at hW
    refine lv_iload_n hx hb dX4_lay_68 rfl (lv_at hl 0 rfl) ?_
    exact r_iret C0 hW rz1 (⟨by omega, by first | omega | (simp only [hw10, hw8, hw7, hw6, hw5, hw4, hw3, up_up, up_s, layM, hz1, hz9])⟩) dX4_lay_69
  · subst e2
    refine r_if_ne (tgt := 15) hx hb ⟨by omega, by omega⟩ dX4_lay_9 (by decide) (fun q => absurd q (by decide)) (fun _ => ?_)
    refine r_bipush hx hb dX4_lay_12 (by decide) ?_
    exact r_iret C0 hW ⟨by omega, by omega⟩ (⟨by omega, by first | omega | (simp only [id, up_up, up_s, layM, hz1])⟩) dX4_lay_14

/-- X1_countOpen: its end -/
def po_X1_countOpen (w : gW) (j : Nat) : Int → gW → Prop := fun z w1 => (z = gN (w j) 14 5 - gN (w j) 14 4) ∧ w = w1
theorem hdV_X1_countOpen : yX1_countOpen.cls = RX1 ∧ yX1_countOpen.cls ≠ "java/lang/invoke/MethodHandle" ∧ yX1_countOpen.cls ≠ "java/lang/invoke/VarHandle" ∧ (parseMethodDescriptor yX1_countOpen.desc).map (fun d => d.parameters.length) = some 0 := by decide +kernel
set_option maxHeartbeats 4000000 in
set_option maxRecDepth 100000 in
theorem c_X1_countOpen (l : Launch) (G : gG) (w : gW) {j : Nat} (hj : ms j) (hwf : wf (w j)) : mI l G yX1_countOpen (wU yX1_countOpen cX1_countOpen 1 (some .int)) (rmL 0 0) [.ref (ad G j 14)] w (po_X1_countOpen w j) := by
  refine mI_of (by decide +kernel) (Nat.le_of_ble_eq_true rfl) (fun p e s m args below meth c ls C0 hW hl => ?_)
  have hl : lv_has ls 1 [(0, .ref (ad G j 14))] := hl
  have hx := C0.hx
  have hb := C0.hb
  obtain ⟨⟨hs1, hs2⟩, ⟨hd1, hd2, hd3⟩, -⟩ := id hwf
  refine lv_aload_n hx hb dX1_countOpen_0 rfl (lv_at hl 0 rfl) ?_
  refine r_gI C0 hW (ms_lt hj 14 (by decide)) (ceX_m hj G 14 _ _) rfl hiX1 (k := 5) (by decide) kf_X1_32 rfl rfl rfl dX1_countOpen_1 (fun z1 (hz1 : z1 = gN (w j) 14 5) rz1 => ?_)
  have rz1a := rz1.1
  have rz1b := rz1.2
  refine lv_aload_n hx hb dX1_countOpen_4 rfl (lv_at hl 0 rfl) ?_
  refine r_gI C0 hW (ms_lt hj 14 (by decide)) (ceX_m hj G 14 _ _) rfl hiX1 (k := 4) (by decide) kf_X1_28 rfl rfl rfl dX1_countOpen_5 (fun z2 (hz2 : z2 = gN (w j) 14 4) rz2 => ?_)
  have rz2a := rz2.1
  have rz2b := rz2.2
  refine r_isub hx hb dX1_countOpen_8 ?_
  exact r_iret C0 hW ⟨by omega, by omega⟩ (⟨by omega, rfl⟩) dX1_countOpen_9

/-- X1_countOpenWith: its end -/
def po_X1_countOpenWith (w : gW) (j : Nat) (co : Int) : Int → gW → Prop := fun z w1 => (z = cntI (pDi (w j) co) (gN (w j) 14 5) - cntI (pDi (w j) co) (gN (w j) 14 4)) ∧ w = w1
theorem hdV_X1_countOpenWith : yX1_countOpenWith.cls = RX1 ∧ yX1_countOpenWith.cls ≠ "java/lang/invoke/MethodHandle" ∧ yX1_countOpenWith.cls ≠ "java/lang/invoke/VarHandle" ∧ (parseMethodDescriptor yX1_countOpenWith.desc).map (fun d => d.parameters.length) = some 1 := by decide +kernel
set_option maxHeartbeats 4000000 in
set_option maxRecDepth 100000 in
theorem c_X1_countOpenWith (l : Launch) (G : gG) (w : gW) {j : Nat} (hj : ms j) (hwf : wf (w j)) (co : Int) (rco : inR co) : mI l G yX1_countOpenWith (wU yX1_countOpenWith cX1_countOpenWith 4 (some .int)) (rmL 1 20) [.ref (ad G j 14), .int (iI co)] w (po_X1_countOpenWith w j co) := by
  refine mI_of (by decide +kernel) (Nat.le_of_ble_eq_true rfl) (fun p e s m args below meth c ls C0 hW hl => ?_)
  have hl : lv_has ls 4 [(0, .ref (ad G j 14)), (1, .int (iI co))] := hl
  have hx := C0.hx
  have hb := C0.hb
  obtain ⟨⟨hs1, hs2⟩, ⟨hd1, hd2, hd3⟩, -⟩ := id hwf
  refine r_iconst hx hb dX1_countOpenWith_0 ?_
  refine lv_istore_n (lv' := [(2, .int (iI 0)), (0, .ref (ad G j 14)), (1, .int (iI co))]) hx hb dX1_countOpenWith_1 rfl hl (by decide) rfl (fun ls hl => ?_)
  refine lv_aload_n hx hb dX1_countOpenWith_2 rfl (lv_at hl 1 rfl) ?_
  refine r_gI C0 hW (ms_lt hj 14 (by decide)) (ceX_m hj G 14 _ _) rfl hiX1 (k := 4) (by decide) kf_X1_28 rfl rfl rfl dX1_countOpenWith_3 (fun z1 (hz1 : z1 = gN (w j) 14 4) rz1 => ?_)
  have rz1a := rz1.1
  have rz1b := rz1.2
  refine lv_istore_n (lv' := [(3, .int (iI z1)), (2, .int (iI 0)), (0, .ref (ad G j 14)), (1, .int (iI co))]) hx hb dX1_countOpenWith_6 rfl hl (by decide) rfl (fun ls hl => ?_)
  have hL7 : ∀ (n : Nat) (x2 : Int) (x3 : Int) (H0 : Heap) (locs0 : List Loc) (ls : Array Slot) (hm : gN (w j) 14 5 - x3 < (n : Int)) (i7_0 : 0 ≤ x3) (i7_1 : x3 ≤ gN (w j) 14 5) (i7_2 : x2 = cntI (pDi (w j) co) x3 - cntI (pDi (w j) co) (gN (w j) 14 4)) (hW : wo G w s H0 locs0) (hl : lv_has ls 4 [(3, .int (iI x3)), (2, .int (iI x2)), (0, .ref (ad G j 14)), (1, .int (iI co))]), W p l e (rmL 1 20) s m args below meth c H0 locs0 0 0 (QI G (po_X1_countOpenWith w j co) below args s) (F0 m 7 ls []) := by
    intro n
    induction n with
    | zero =>
      intro x2 x3 H0 locs0 ls hm i7_0 i7_1 i7_2 hW hl
      exact absurd hm (by omega)
    | succ n ih7 =>
      intro x2 x3 H0 locs0 ls hm i7_0 i7_1 i7_2 hW hl
      have hcl := cntI_le (pDi (w j) co) i7_0
      have hcl2 := cntI_le (pDi (w j) co) hd1
      refine lv_iload_n hx hb dX1_countOpenWith_7 rfl (lv_at hl 0 rfl) ?_
      refine lv_aload_n hx hb dX1_countOpenWith_8 rfl (lv_at hl 2 rfl) ?_
      refine r_gI C0 hW (ms_lt hj 14 (by decide)) (ceX_m hj G 14 _ _) rfl hiX1 (k := 5) (by decide) kf_X1_32 rfl rfl rfl dX1_countOpenWith_9 (fun z2 (hz2 : z2 = gN (w j) 14 5) rz2 => ?_)
      have rz2a := rz2.1
      have rz2b := rz2.2
      refine r_icmp_ge (tgt := 52) hx hb ⟨by omega, by omega⟩ rz2 dX1_countOpenWith_12 (by decide) (fun c3 => ?_) (fun c3 => ?_)
      · refine lv_iload_n hx hb dX1_countOpenWith_52 rfl (lv_at hl 1 rfl) ?_
        exact r_iret C0 hW ⟨by omega, by omega⟩ (⟨by rw [show gN (w j) 14 5 = x3 from by omega]; omega, rfl⟩) dX1_countOpenWith_53
      · refine lv_iload_n hx hb dX1_countOpenWith_15 rfl (lv_at hl 1 rfl) ?_
        refine lv_aload_n hx hb dX1_countOpenWith_16 rfl (lv_at hl 2 rfl) ?_
        refine r_gR C0 hW (ms_lt hj 14 (by decide)) (ceX_m hj G 14 _ _) rfl hiX1 (k := 0) (by decide) kf_X1_9 rfl rfl rfl dX1_countOpenWith_17 ?_
        refine lv_iload_n hx hb dX1_countOpenWith_20 rfl (lv_at hl 0 rfl) ?_
        refine r_ild C0 hW (ms_lt hj 15 (by decide)) (ceX_m hj G 15 _ _) (n := 120) (by omega) (by omega) (by decide) dX1_countOpenWith_21 (fun z4 (hz4 : z4 = gA (w j) 15 x3) rz4 => ?_)
        have rz4a := rz4.1
        have rz4b := rz4.2
        refine lv_iload_n hx hb dX1_countOpenWith_22 rfl (lv_at hl 3 rfl) ?_
        refine r_icmp_eq (tgt := 36) hx hb rz4 rco dX1_countOpenWith_23 (by decide) (fun c5 => ?_) (fun c5 => ?_)
        · refine r_iconst hx hb dX1_countOpenWith_36 ?_
          refine lv_goto (tgt := 41) hx hb dX1_countOpenWith_37 (by decide) ?_
          refine k_Ni (own := "") C0 hW (As := [.int (iI 1)]) (c_X5_oneIf l G w 1 ⟨by omega, by omega⟩) C0.nst.2.2.2.2.2.2.2.2 ks_X5_oneIf kn_X5 kc_X5_oneIf hdS_X5_oneIf ⟨by decide, by decide⟩ rfl hl.1 rfl (Nat.le_of_ble_eq_true rfl) dX1_countOpenWith_41 (fun z6 w6 H1 locs1 rz6 hp6 hW => ?_)
          obtain ⟨hp6, hq6⟩ := hp6
          subst hq6
          have rz6a := rz6.1
          have rz6b := rz6.2
          rcases hp6 with ⟨e6, hp6⟩ | ⟨e6, hp6⟩
          · subst e6
            refine r_iadd hx hb dX1_countOpenWith_44 ?_
            refine lv_istore_n (lv' := [(2, .int (iI (x2 + 1))), (3, .int (iI x3)), (0, .ref (ad G j 14)), (1, .int (iI co))]) hx hb dX1_countOpenWith_45 rfl hl (by decide) rfl (fun ls hl => ?_)
            refine r_iinc (lv' := [(3, .int (iI (x3 + 1))), (2, .int (iI (x2 + 1))), (0, .ref (ad G j 14)), (1, .int (iI co))]) hx hb dX1_countOpenWith_46 hl (k := 1) rfl (by decide) rfl (fun ls hl => ?_)
            refine lv_goto (tgt := 7) hx hb dX1_countOpenWith_49 (by decide) ?_
            exact ih7 (x2 + 1) (x3 + 1) _ _ ls (by omega) (by omega) (by omega) (by first | (rw [cntI_t (by omega) (by first | assumption | (unfold pDi at *; omega))]; omega) | (rw [cntI_f (by omega) (by first | assumption | (unfold pDi at *; omega))]; omega)) hW (lv_sub hl [0, 1, 2, 3] rfl)
          · subst e6
            refine r_iadd hx hb dX1_countOpenWith_44 ?_
            refine lv_istore_n (lv' := [(2, .int (iI (x2 + 0))), (3, .int (iI x3)), (0, .ref (ad G j 14)), (1, .int (iI co))]) hx hb dX1_countOpenWith_45 rfl hl (by decide) rfl (fun ls hl => ?_)
            refine r_iinc (lv' := [(3, .int (iI (x3 + 1))), (2, .int (iI (x2 + 0))), (0, .ref (ad G j 14)), (1, .int (iI co))]) hx hb dX1_countOpenWith_46 hl (k := 1) rfl (by decide) rfl (fun ls hl => ?_)
            refine lv_goto (tgt := 7) hx hb dX1_countOpenWith_49 (by decide) ?_
            exact ih7 (x2 + 0) (x3 + 1) _ _ ls (by omega) (by omega) (by omega) (by first | (rw [cntI_t (by omega) (by first | assumption | (unfold pDi at *; omega))]; omega) | (rw [cntI_f (by omega) (by first | assumption | (unfold pDi at *; omega))]; omega)) hW (lv_sub hl [0, 1, 2, 3] rfl)
        · refine lv_aload_n hx hb dX1_countOpenWith_26 rfl (lv_at hl 2 rfl) ?_
          refine r_gR C0 hW (ms_lt hj 14 (by decide)) (ceX_m hj G 14 _ _) rfl hiX1 (k := 1) (by decide) kf_X1_15 rfl rfl rfl dX1_countOpenWith_27 ?_
          refine lv_iload_n hx hb dX1_countOpenWith_30 rfl (lv_at hl 0 rfl) ?_
          refine r_ild C0 hW (ms_lt hj 16 (by decide)) (ceX_m hj G 16 _ _) (n := 120) (by omega) (by omega) (by decide) dX1_countOpenWith_31 (fun z7 (hz7 : z7 = gA (w j) 16 x3) rz7 => ?_)
          have rz7a := rz7.1
          have rz7b := rz7.2
          refine lv_iload_n hx hb dX1_countOpenWith_32 rfl (lv_at hl 3 rfl) ?_
          refine r_icmp_ne (tgt := 40) hx hb rz7 rco dX1_countOpenWith_33 (by decide) (fun c8 => ?_) (fun c8 => ?_)
          · refine r_iconst hx hb dX1_countOpenWith_40 ?_
            refine k_Ni (own := "") C0 hW (As := [.int (iI 0)]) (c_X5_oneIf l G w 0 ⟨by omega, by omega⟩) C0.nst.2.2.2.2.2.2.2.2 ks_X5_oneIf kn_X5 kc_X5_oneIf hdS_X5_oneIf ⟨by decide, by decide⟩ rfl hl.1 rfl (Nat.le_of_ble_eq_true rfl) dX1_countOpenWith_41 (fun z9 w9 H1 locs1 rz9 hp9 hW => ?_)
            obtain ⟨hp9, hq9⟩ := hp9
            subst hq9
            have rz9a := rz9.1
            have rz9b := rz9.2
            rcases hp9 with ⟨e9, hp9⟩ | ⟨e9, hp9⟩
            · subst e9
              refine r_iadd hx hb dX1_countOpenWith_44 ?_
              refine lv_istore_n (lv' := [(2, .int (iI (x2 + 1))), (3, .int (iI x3)), (0, .ref (ad G j 14)), (1, .int (iI co))]) hx hb dX1_countOpenWith_45 rfl hl (by decide) rfl (fun ls hl => ?_)
              refine r_iinc (lv' := [(3, .int (iI (x3 + 1))), (2, .int (iI (x2 + 1))), (0, .ref (ad G j 14)), (1, .int (iI co))]) hx hb dX1_countOpenWith_46 hl (k := 1) rfl (by decide) rfl (fun ls hl => ?_)
              refine lv_goto (tgt := 7) hx hb dX1_countOpenWith_49 (by decide) ?_
              exact ih7 (x2 + 1) (x3 + 1) _ _ ls (by omega) (by omega) (by omega) (by first | (rw [cntI_t (by omega) (by first | assumption | (unfold pDi at *; omega))]; omega) | (rw [cntI_f (by omega) (by first | assumption | (unfold pDi at *; omega))]; omega)) hW (lv_sub hl [0, 1, 2, 3] rfl)
            · subst e9
              refine r_iadd hx hb dX1_countOpenWith_44 ?_
              refine lv_istore_n (lv' := [(2, .int (iI (x2 + 0))), (3, .int (iI x3)), (0, .ref (ad G j 14)), (1, .int (iI co))]) hx hb dX1_countOpenWith_45 rfl hl (by decide) rfl (fun ls hl => ?_)
              refine r_iinc (lv' := [(3, .int (iI (x3 + 1))), (2, .int (iI (x2 + 0))), (0, .ref (ad G j 14)), (1, .int (iI co))]) hx hb dX1_countOpenWith_46 hl (k := 1) rfl (by decide) rfl (fun ls hl => ?_)
              refine lv_goto (tgt := 7) hx hb dX1_countOpenWith_49 (by decide) ?_
              exact ih7 (x2 + 0) (x3 + 1) _ _ ls (by omega) (by omega) (by omega) (by first | (rw [cntI_t (by omega) (by first | assumption | (unfold pDi at *; omega))]; omega) | (rw [cntI_f (by omega) (by first | assumption | (unfold pDi at *; omega))]; omega)) hW (lv_sub hl [0, 1, 2, 3] rfl)
          · refine r_iconst hx hb dX1_countOpenWith_36 ?_
            refine lv_goto (tgt := 41) hx hb dX1_countOpenWith_37 (by decide) ?_
            refine k_Ni (own := "") C0 hW (As := [.int (iI 1)]) (c_X5_oneIf l G w 1 ⟨by omega, by omega⟩) C0.nst.2.2.2.2.2.2.2.2 ks_X5_oneIf kn_X5 kc_X5_oneIf hdS_X5_oneIf ⟨by decide, by decide⟩ rfl hl.1 rfl (Nat.le_of_ble_eq_true rfl) dX1_countOpenWith_41 (fun z10 w10 H1 locs1 rz10 hp10 hW => ?_)
            obtain ⟨hp10, hq10⟩ := hp10
            subst hq10
            have rz10a := rz10.1
            have rz10b := rz10.2
            rcases hp10 with ⟨e10, hp10⟩ | ⟨e10, hp10⟩
            · subst e10
              refine r_iadd hx hb dX1_countOpenWith_44 ?_
              refine lv_istore_n (lv' := [(2, .int (iI (x2 + 1))), (3, .int (iI x3)), (0, .ref (ad G j 14)), (1, .int (iI co))]) hx hb dX1_countOpenWith_45 rfl hl (by decide) rfl (fun ls hl => ?_)
              refine r_iinc (lv' := [(3, .int (iI (x3 + 1))), (2, .int (iI (x2 + 1))), (0, .ref (ad G j 14)), (1, .int (iI co))]) hx hb dX1_countOpenWith_46 hl (k := 1) rfl (by decide) rfl (fun ls hl => ?_)
              refine lv_goto (tgt := 7) hx hb dX1_countOpenWith_49 (by decide) ?_
              exact ih7 (x2 + 1) (x3 + 1) _ _ ls (by omega) (by omega) (by omega) (by first | (rw [cntI_t (by omega) (by first | assumption | (unfold pDi at *; omega))]; omega) | (rw [cntI_f (by omega) (by first | assumption | (unfold pDi at *; omega))]; omega)) hW (lv_sub hl [0, 1, 2, 3] rfl)
            · subst e10
              refine r_iadd hx hb dX1_countOpenWith_44 ?_
              refine lv_istore_n (lv' := [(2, .int (iI (x2 + 0))), (3, .int (iI x3)), (0, .ref (ad G j 14)), (1, .int (iI co))]) hx hb dX1_countOpenWith_45 rfl hl (by decide) rfl (fun ls hl => ?_)
              refine r_iinc (lv' := [(3, .int (iI (x3 + 1))), (2, .int (iI (x2 + 0))), (0, .ref (ad G j 14)), (1, .int (iI co))]) hx hb dX1_countOpenWith_46 hl (k := 1) rfl (by decide) rfl (fun ls hl => ?_)
              refine lv_goto (tgt := 7) hx hb dX1_countOpenWith_49 (by decide) ?_
              exact ih7 (x2 + 0) (x3 + 1) _ _ ls (by omega) (by omega) (by omega) (by first | (rw [cntI_t (by omega) (by first | assumption | (unfold pDi at *; omega))]; omega) | (rw [cntI_f (by omega) (by first | assumption | (unfold pDi at *; omega))]; omega)) hW (lv_sub hl [0, 1, 2, 3] rfl)
  exact hL7 121 0 z1 _ _ ls (by omega) (by omega) (by omega) (by rw [show gN (w j) 14 4 = z1 from by omega]; omega) hW (lv_sub hl [0, 1, 2, 3] rfl)

/-- X1_open: its end -/
def po_X1_open (w : gW) (j : Nat) (co : Int) (wr : Int) (ro : Int) (pl : Int) : gW → Prop := fun w1 => w1 = up w j (opnM (w j) co wr ro pl)
theorem hdV_X1_open : yX1_open.cls = RX1 ∧ yX1_open.cls ≠ "java/lang/invoke/MethodHandle" ∧ yX1_open.cls ≠ "java/lang/invoke/VarHandle" ∧ (parseMethodDescriptor yX1_open.desc).map (fun d => d.parameters.length) = some 4 := by decide +kernel
set_option maxHeartbeats 4000000 in
set_option maxRecDepth 100000 in
theorem c_X1_open (l : Launch) (G : gG) (w : gW) {j : Nat} (hj : ms j) (hwf : wf (w j)) (co : Int) (wr : Int) (ro : Int) (pl : Int) (rco : inR co) (rwr : inR wr) (rro : inR ro) (rpl : inR pl) (hn9 : gN (w j) 14 5 < 120) : mV l G yX1_open (wU yX1_open cX1_open 5 none) (rmL 0 0) [.ref (ad G j 14), .int (iI co), .int (iI wr), .int (iI ro), .int (iI pl)] w (po_X1_open w j co wr ro pl) := by
  refine mV_of (by decide +kernel) (Nat.le_of_ble_eq_true rfl) (fun p e s m args below meth c ls C0 hW hl => ?_)
  have hl : lv_has ls 5 [(0, .ref (ad G j 14)), (1, .int (iI co)), (2, .int (iI wr)), (3, .int (iI ro)), (4, .int (iI pl))] := hl
  have hx := C0.hx
  have hb := C0.hb
  obtain ⟨⟨hs1, hs2⟩, ⟨hd1, hd2, hd3⟩, -⟩ := id hwf
  refine lv_aload_n hx hb dX1_open_0 rfl (lv_at hl 0 rfl) ?_
  refine r_gI C0 hW (ms_lt hj 14 (by decide)) (ceX_m hj G 14 _ _) rfl hiX1 (k := 5) (by decide) kf_X1_32 rfl rfl rfl dX1_open_1 (fun z1 (hz1 : z1 = gN (w j) 14 5) rz1 => ?_)
  have rz1a := rz1.1
  have rz1b := rz1.2
  refine r_bipush hx hb dX1_open_4 (by decide) ?_
  refine r_icmp_ge (tgt := 60) hx hb rz1 ⟨by omega, by omega⟩ dX1_open_6 (by decide) (fun c2 => ?_) (fun c2 => ?_)
  · exact r_vret C0 hW (by unfold po_X1_open; first | omega | (simp only [id, up_up, up_s, opnM, hz1])) dX1_open_60
  · refine lv_aload_n hx hb dX1_open_9 rfl (lv_at hl 0 rfl) ?_
    refine r_gR C0 hW (ms_lt hj 14 (by decide)) (ceX_m hj G 14 _ _) rfl hiX1 (k := 0) (by decide) kf_X1_9 rfl rfl rfl dX1_open_10 ?_
    refine lv_aload_n hx hb dX1_open_13 rfl (lv_at hl 0 rfl) ?_
    refine r_gI C0 hW (ms_lt hj 14 (by decide)) (ceX_m hj G 14 _ _) rfl hiX1 (k := 5) (by decide) kf_X1_32 rfl rfl rfl dX1_open_14 (fun z3 (hz3 : z3 = gN (w j) 14 5) rz3 => ?_)
    have rz3a := rz3.1
    have rz3b := rz3.2
    refine lv_iload_n hx hb dX1_open_17 rfl (lv_at hl 1 rfl) ?_
    refine r_ist C0 hW (ms_lt hj 15 (by decide)) (fun A => (ceX_m hj G 15 _ _)) (n := 120) (v := iI co) (by omega) (by omega) (by decide) dX1_open_18 (fun H1 locs1 hW => ?_)
    obtain ⟨w4, hw4⟩ : ∃ q : gW, q = up w j (sA (w j) 15 z3 (iI co)) := ⟨_, rfl⟩
    rw [← hw4] at hW
    refine lv_aload_n hx hb dX1_open_19 rfl (lv_at hl 0 rfl) ?_
    refine r_gR C0 hW (ms_lt hj 14 (by decide)) (ceX_m hj G 14 _ _) rfl hiX1 (k := 1) (by decide) kf_X1_15 rfl rfl rfl dX1_open_20 ?_
    refine lv_aload_n hx hb dX1_open_23 rfl (lv_at hl 0 rfl) ?_
    refine r_gI C0 hW (ms_lt hj 14 (by decide)) (ceX_m hj G 14 _ _) rfl hiX1 (k := 5) (by decide) kf_X1_32 rfl rfl rfl dX1_open_24 (fun z5 (hz5 : z5 = gN (w4 j) 14 5) rz5 => ?_)
    have rz5a := rz5.1
    have rz5b := rz5.2
    try simp (decide := true) only [hw4, up_s, gA_sF, gN_sF, gA_sA, gN_sA, gA_sS, gN_sS, if_true, if_false, true_and, and_true, false_and, and_false] at hz5
    refine lv_iload_n hx hb dX1_open_27 rfl (lv_at hl 2 rfl) ?_
    refine r_ist C0 hW (ms_lt hj 16 (by decide)) (fun A => (ceX_m hj G 16 _ _)) (n := 120) (v := iI wr) (by omega) (by omega) (by decide) dX1_open_28 (fun H1 locs1 hW => ?_)
    obtain ⟨w6, hw6⟩ : ∃ q : gW, q = up w4 j (sA (w4 j) 16 z5 (iI wr)) := ⟨_, rfl⟩
    rw [← hw6] at hW
    refine lv_aload_n hx hb dX1_open_29 rfl (lv_at hl 0 rfl) ?_
    refine r_gR C0 hW (ms_lt hj 14 (by decide)) (ceX_m hj G 14 _ _) rfl hiX1 (k := 2) (by decide) kf_X1_18 rfl rfl rfl dX1_open_30 ?_
    refine lv_aload_n hx hb dX1_open_33 rfl (lv_at hl 0 rfl) ?_
    refine r_gI C0 hW (ms_lt hj 14 (by decide)) (ceX_m hj G 14 _ _) rfl hiX1 (k := 5) (by decide) kf_X1_32 rfl rfl rfl dX1_open_34 (fun z7 (hz7 : z7 = gN (w6 j) 14 5) rz7 => ?_)
    have rz7a := rz7.1
    have rz7b := rz7.2
    try simp (decide := true) only [hw6, hw4, up_s, gA_sF, gN_sF, gA_sA, gN_sA, gA_sS, gN_sS, if_true, if_false, true_and, and_true, false_and, and_false] at hz7
    refine lv_iload_n hx hb dX1_open_37 rfl (lv_at hl 3 rfl) ?_
    refine r_ist C0 hW (ms_lt hj 17 (by decide)) (fun A => (ceX_m hj G 17 _ _)) (n := 120) (v := iI ro) (by omega) (by omega) (by decide) dX1_open_38 (fun H1 locs1 hW => ?_)
    obtain ⟨w8, hw8⟩ : ∃ q : gW, q = up w6 j (sA (w6 j) 17 z7 (iI ro)) := ⟨_, rfl⟩
    rw [← hw8] at hW
    refine lv_aload_n hx hb dX1_open_39 rfl (lv_at hl 0 rfl) ?_
    refine r_gR C0 hW (ms_lt hj 14 (by decide)) (ceX_m hj G 14 _ _) rfl hiX1 (k := 3) (by decide) kf_X1_21 rfl rfl rfl dX1_open_40 ?_
    refine lv_aload_n hx hb dX1_open_43 rfl (lv_at hl 0 rfl) ?_
    refine r_gI C0 hW (ms_lt hj 14 (by decide)) (ceX_m hj G 14 _ _) rfl hiX1 (k := 5) (by decide) kf_X1_32 rfl rfl rfl dX1_open_44 (fun z9 (hz9 : z9 = gN (w8 j) 14 5) rz9 => ?_)
    have rz9a := rz9.1
    have rz9b := rz9.2
    try simp (decide := true) only [hw8, hw6, hw4, up_s, gA_sF, gN_sF, gA_sA, gN_sA, gA_sS, gN_sS, if_true, if_false, true_and, and_true, false_and, and_false] at hz9
    refine lv_iload hx hb dX1_open_47 (lv_at hl 4 rfl) ?_
    refine r_ist C0 hW (ms_lt hj 18 (by decide)) (fun A => (ceX_m hj G 18 _ _)) (n := 120) (v := iI pl) (by omega) (by omega) (by decide) dX1_open_49 (fun H1 locs1 hW => ?_)
    obtain ⟨w10, hw10⟩ : ∃ q : gW, q = up w8 j (sA (w8 j) 18 z9 (iI pl)) := ⟨_, rfl⟩
    rw [← hw10] at hW
    refine lv_aload_n hx hb dX1_open_50 rfl (lv_at hl 0 rfl) ?_
    refine lv_dup hx hb dX1_open_51 rfl ?_
    refine r_gI C0 hW (ms_lt hj 14 (by decide)) (ceX_m hj G 14 _ _) rfl hiX1 (k := 5) (by decide) kf_X1_32 rfl rfl rfl dX1_open_52 (fun z11 (hz11 : z11 = gN (w10 j) 14 5) rz11 => ?_)
    have rz11a := rz11.1
    have rz11b := rz11.2
    try simp (decide := true) only [hw10, hw8, hw6, hw4, up_s, gA_sF, gN_sF, gA_sA, gN_sA, gA_sS, gN_sS, if_true, if_false, true_and, and_true, false_and, and_false] at hz11
    refine r_iconst hx hb dX1_open_55 ?_
    refine r_iadd hx hb dX1_open_56 ?_
    refine r_pI C0 hW (ms_lt hj 14 (by decide)) (ceX_m hj G 14 _ _) rfl hiX1 tyX1 tyX1_ok nmX1 (k := 5) (v := iI (z11 + 1)) (by decide) kf_X1_32 rfl rfl rfl (tyX1_ok 5 (by decide)) rfl rfl (by simp) (ceX_m hj G 14 _ _) dX1_open_57 (fun H1 locs1 hW => ?_)
    obtain ⟨w12, hw12⟩ : ∃ q : gW, q = up w10 j (sS (w10 j) 14 5 (iI (z11 + 1))) := ⟨_, rfl⟩
    rw [← hw12] at hW
    exact r_vret C0 hW (by unfold po_X1_open; first | omega | (simp only [hw12, hw10, hw8, hw6, hw4, up_up, up_s, opnM, hz1, hz3, hz5, hz7, hz9, hz11])) dX1_open_60

def po_X5_copyNumbers (w : gW) (j1 k1 j2 k2 : Nat) : gW → Prop := fun w1 => w1 = up w j2 (sF (w j2) k2 ((w j1).1 k1))
theorem hdS_X5_copyNumbers : yX5_copyNumbers.cls ≠ "java/lang/invoke/MethodHandle" ∧ yX5_copyNumbers.cls ≠ "java/lang/invoke/VarHandle" ∧ (parseMethodDescriptor yX5_copyNumbers.desc).map (fun d => d.parameters.length) = some 2 := by decide +kernel
set_option maxHeartbeats 4000000 in
set_option maxRecDepth 100000 in
theorem c_X5_copyNumbers (l : Launch) (G : gG) (w : gW) {j1 k1 j2 k2 n : Nat} (hj1 : j1 < 11 ∧ k1 < bs j1) (hj2 : j2 < 11 ∧ k2 < bs j2) (hn : n < 2147483648) (he1 : ∀ A : Int → Int32, ceX G j1 k1 A ((w j1).2 k1) = cI G n A) (he2 : ∀ A : Int → Int32, ceX G j2 k2 A ((w j2).2 k2) = cI G n A) : mV l G yX5_copyNumbers (wU yX5_copyNumbers cX5_copyNumbers 2 none) (rmL 1 18) [.ref (ad G j1 k1), .ref (ad G j2 k2)] w (po_X5_copyNumbers w j1 k1 j2 k2) := by
  refine mV_of (by decide +kernel) (Nat.le_of_ble_eq_true rfl) (fun p e s m args below meth c ls C0 hW hl => ?_)
  have hl : lv_has ls 2 [(0, .ref (ad G j1 k1)), (1, .ref (ad G j2 k2))] := hl
  have hx := C0.hx
  have hb := C0.hb
  have rn : inR (n : Int) := ⟨by omega, by omega⟩
  refine lv_aload_n hx hb dX5_copyNumbers_0 rfl (lv_at hl 0 rfl) ?_
  refine r_iconst hx hb dX5_copyNumbers_1 ?_
  refine lv_aload_n hx hb dX5_copyNumbers_2 rfl (lv_at hl 1 rfl) ?_
  refine r_iconst hx hb dX5_copyNumbers_3 ?_
  refine lv_aload_n hx hb dX5_copyNumbers_4 rfl (lv_at hl 0 rfl) ?_
  refine r_alen C0 hW hj1 hn (Or.inl (he1 _)) dX5_copyNumbers_5 ?_
  refine lv_aload_n hx hb dX5_copyNumbers_6 rfl (lv_at hl 1 rfl) ?_
  refine r_alen C0 hW hj2 hn (Or.inl (he2 _)) dX5_copyNumbers_7 ?_
  refine r_min C0 rn rn km_X5_240 ks_J9_min_7cf53 kn_J9 kc_min rfl hl.1 (by decide) (Nat.le_of_ble_eq_true rfl) dX5_copyNumbers_8 ?_
  rw [show min (n : Int) (n : Int) = (n : Int) from by omega]
  refine r_copyI C0 hW hj1 hj2 hn (he1 _) he2 km_X5_245 kv_arraycopyName ks_arraycopyName kn_J10 rfl hl.1 (by decide) (Nat.le_of_ble_eq_true rfl) dX5_copyNumbers_11 (fun H1 locs1 hW => ?_)
  exact r_vret C0 hW rfl dX5_copyNumbers_14

def po_X5_copyFlags (w : gW) (j1 k1 j2 k2 : Nat) : gW → Prop := fun w1 => w1 = up w j2 (sF (w j2) k2 ((w j1).1 k1))
theorem hdS_X5_copyFlags : yX5_copyFlags.cls ≠ "java/lang/invoke/MethodHandle" ∧ yX5_copyFlags.cls ≠ "java/lang/invoke/VarHandle" ∧ (parseMethodDescriptor yX5_copyFlags.desc).map (fun d => d.parameters.length) = some 2 := by decide +kernel
set_option maxHeartbeats 4000000 in
set_option maxRecDepth 100000 in
theorem c_X5_copyFlags (l : Launch) (G : gG) (w : gW) {j1 k1 j2 k2 n : Nat} (hj1 : j1 < 11 ∧ k1 < bs j1) (hj2 : j2 < 11 ∧ k2 < bs j2) (hn : n < 2147483648) (he1 : ∀ A : Int → Int32, ceX G j1 k1 A ((w j1).2 k1) = cZ G n A) (he2 : ∀ A : Int → Int32, ceX G j2 k2 A ((w j2).2 k2) = cZ G n A) (hz : ∀ i : Int, 0 ≤ i → i < n → (w j1).1 k1 i = 0 ∨ (w j1).1 k1 i = 1) : mV l G yX5_copyFlags (wU yX5_copyFlags cX5_copyFlags 2 none) (rmL 1 18) [.ref (ad G j1 k1), .ref (ad G j2 k2)] w (po_X5_copyFlags w j1 k1 j2 k2) := by
  refine mV_of (by decide +kernel) (Nat.le_of_ble_eq_true rfl) (fun p e s m args below meth c ls C0 hW hl => ?_)
  have hl : lv_has ls 2 [(0, .ref (ad G j1 k1)), (1, .ref (ad G j2 k2))] := hl
  have hx := C0.hx
  have hb := C0.hb
  have rn : inR (n : Int) := ⟨by omega, by omega⟩
  refine lv_aload_n hx hb dX5_copyFlags_0 rfl (lv_at hl 0 rfl) ?_
  refine r_iconst hx hb dX5_copyFlags_1 ?_
  refine lv_aload_n hx hb dX5_copyFlags_2 rfl (lv_at hl 1 rfl) ?_
  refine r_iconst hx hb dX5_copyFlags_3 ?_
  refine lv_aload_n hx hb dX5_copyFlags_4 rfl (lv_at hl 0 rfl) ?_
  refine r_alen C0 hW hj1 hn (Or.inr (he1 _)) dX5_copyFlags_5 ?_
  refine lv_aload_n hx hb dX5_copyFlags_6 rfl (lv_at hl 1 rfl) ?_
  refine r_alen C0 hW hj2 hn (Or.inr (he2 _)) dX5_copyFlags_7 ?_
  refine r_min C0 rn rn km_X5_240 ks_J9_min_7cf53 kn_J9 kc_min rfl hl.1 (by decide) (Nat.le_of_ble_eq_true rfl) dX5_copyFlags_8 ?_
  rw [show min (n : Int) (n : Int) = (n : Int) from by omega]
  refine r_copyZ C0 hW hj1 hj2 hn (he1 _) he2 hz km_X5_245 kv_arraycopyName ks_arraycopyName kn_J10 rfl hl.1 (by decide) (Nat.le_of_ble_eq_true rfl) dX5_copyFlags_11 (fun H1 locs1 hW => ?_)
  exact r_vret C0 hW rfl dX5_copyFlags_14

/-- X4_copyFrom: its end -/
def po_X4_copyFrom (w : gW) (j : Nat) (j2 : Nat) : gW → Prop := fun w1 => w1 = up w j (rowC (w j) (w j2))
theorem hdV_X4_copyFrom : yX4_copyFrom.cls = RX4 ∧ yX4_copyFrom.cls ≠ "java/lang/invoke/MethodHandle" ∧ yX4_copyFrom.cls ≠ "java/lang/invoke/VarHandle" ∧ (parseMethodDescriptor yX4_copyFrom.desc).map (fun d => d.parameters.length) = some 1 := by decide +kernel
set_option maxHeartbeats 4000000 in
set_option maxRecDepth 100000 in
theorem c_X4_copyFrom (l : Launch) (G : gG) (w : gW) {j : Nat} {j2 : Nat} (hj : ms j) (hj2 : ms j2) (hne : ¬ j2 = j) (hwf : wf (w j2)) : mV l G yX4_copyFrom (wU yX4_copyFrom cX4_copyFrom 2 none) (rmL 2 39) [.ref (ad G j 7), .ref (ad G j2 7)] w (po_X4_copyFrom w j j2) := by
  refine mV_of (by decide +kernel) (Nat.le_of_ble_eq_true rfl) (fun p e s m args below meth c ls C0 hW hl => ?_)
  have hl : lv_has ls 2 [(0, .ref (ad G j 7)), (1, .ref (ad G j2 7))] := hl
  have hx := C0.hx
  have hb := C0.hb
  have hun : ∀ (w : gW) (M : gM), up w j M j2 = w j2 := fun w M => up_n w M hne
  obtain ⟨-, -, -, hf1, hf2, hf3, -⟩ := id hwf
  refine lv_aload_n hx hb dX4_copyFrom_0 rfl (lv_at hl 1 rfl) ?_
  refine r_gR C0 hW (ms_lt hj2 7 (by decide)) (ceX_m hj2 G 7 _ _) rfl hiX4 (k := 0) (by decide) kf_X4_9 rfl rfl rfl dX4_copyFrom_1 ?_
  refine lv_aload_n hx hb dX4_copyFrom_4 rfl (lv_at hl 0 rfl) ?_
  refine r_gR C0 hW (ms_lt hj 7 (by decide)) (ceX_m hj G 7 _ _) rfl hiX4 (k := 0) (by decide) kf_X4_9 rfl rfl rfl dX4_copyFrom_5 ?_
  refine k_Nv (own := "") C0 hW (As := [.ref (ad G j2 8), .ref (ad G j 8)]) (c_X5_copyNumbers l G w (n := 120) (ms_lt hj2 8 (by decide)) (ms_lt hj 8 (by decide)) (by decide) (fun A => (ceX_m hj2 G 8 _ _)) (fun A => (ceX_m hj G 8 _ _))) C0.nst.2.1 ks_X5_copyNumbers kn_X5 kc_X5_copyNumbers hdS_X5_copyNumbers ⟨by decide, by decide⟩ rfl hl.1 rfl (Nat.le_of_ble_eq_true rfl) dX4_copyFrom_8 (fun w1 H1 locs1 hp1 hW => ?_)
  have hw1 : w1 = _ := hp1
  refine lv_aload_n hx hb dX4_copyFrom_11 rfl (lv_at hl 1 rfl) ?_
  refine r_gR C0 hW (ms_lt hj2 7 (by decide)) (ceX_m hj2 G 7 _ _) rfl hiX4 (k := 1) (by decide) kf_X4_15 rfl rfl rfl dX4_copyFrom_12 ?_
  refine lv_aload_n hx hb dX4_copyFrom_15 rfl (lv_at hl 0 rfl) ?_
  refine r_gR C0 hW (ms_lt hj 7 (by decide)) (ceX_m hj G 7 _ _) rfl hiX4 (k := 1) (by decide) kf_X4_15 rfl rfl rfl dX4_copyFrom_16 ?_
  refine k_Nv (own := "") C0 hW (As := [.ref (ad G j2 9), .ref (ad G j 9)]) (c_X5_copyNumbers l G w1 (n := 120) (ms_lt hj2 9 (by decide)) (ms_lt hj 9 (by decide)) (by decide) (fun A => (ceX_m hj2 G 9 _ _)) (fun A => (ceX_m hj G 9 _ _))) C0.nst.2.1 ks_X5_copyNumbers kn_X5 kc_X5_copyNumbers hdS_X5_copyNumbers ⟨by decide, by decide⟩ rfl hl.1 rfl (Nat.le_of_ble_eq_true rfl) dX4_copyFrom_19 (fun w2 H1 locs1 hp2 hW => ?_)
  have hw2 : w2 = _ := hp2
  refine lv_aload_n hx hb dX4_copyFrom_22 rfl (lv_at hl 1 rfl) ?_
  refine r_gR C0 hW (ms_lt hj2 7 (by decide)) (ceX_m hj2 G 7 _ _) rfl hiX4 (k := 2) (by decide) kf_X4_18 rfl rfl rfl dX4_copyFrom_23 ?_
  refine lv_aload_n hx hb dX4_copyFrom_26 rfl (lv_at hl 0 rfl) ?_
  refine r_gR C0 hW (ms_lt hj 7 (by decide)) (ceX_m hj G 7 _ _) rfl hiX4 (k := 2) (by decide) kf_X4_18 rfl rfl rfl dX4_copyFrom_27 ?_
  refine k_Nv (own := "") C0 hW (As := [.ref (ad G j2 10), .ref (ad G j 10)]) (c_X5_copyNumbers l G w2 (n := 120) (ms_lt hj2 10 (by decide)) (ms_lt hj 10 (by decide)) (by decide) (fun A => (ceX_m hj2 G 10 _ _)) (fun A => (ceX_m hj G 10 _ _))) C0.nst.2.1 ks_X5_copyNumbers kn_X5 kc_X5_copyNumbers hdS_X5_copyNumbers ⟨by decide, by decide⟩ rfl hl.1 rfl (Nat.le_of_ble_eq_true rfl) dX4_copyFrom_30 (fun w3 H1 locs1 hp3 hW => ?_)
  have hw3 : w3 = _ := hp3
  refine lv_aload_n hx hb dX4_copyFrom_33 rfl (lv_at hl 1 rfl) ?_
  refine r_gR C0 hW (ms_lt hj2 7 (by decide)) (ceX_m hj2 G 7 _ _) rfl hiX4 (k := 3) (by decide) kf_X4_21 rfl rfl rfl dX4_copyFrom_34 ?_
  refine lv_aload_n hx hb dX4_copyFrom_37 rfl (lv_at hl 0 rfl) ?_
  refine r_gR C0 hW (ms_lt hj 7 (by decide)) (ceX_m hj G 7 _ _) rfl hiX4 (k := 3) (by decide) kf_X4_21 rfl rfl rfl dX4_copyFrom_38 ?_
  refine k_Nv (own := "") C0 hW (As := [.ref (ad G j2 11), .ref (ad G j 11)]) (c_X5_copyFlags l G w3 (n := 120) (ms_lt hj2 11 (by decide)) (ms_lt hj 11 (by decide)) (by decide) (fun A => (ceX_m hj2 G 11 _ _)) (fun A => (ceX_m hj G 11 _ _)) (by simp only [hw3, hw2, hw1, up_up, up_s, hun, sF]; exact fun i _ _ => hf1 i)) C0.nst.2.2.1 ks_X5_copyFlags kn_X5 kc_X5_copyFlags hdS_X5_copyFlags ⟨by decide, by decide⟩ rfl hl.1 rfl (Nat.le_of_ble_eq_true rfl) dX4_copyFrom_41 (fun w4 H1 locs1 hp4 hW => ?_)
  have hw4 : w4 = _ := hp4
  refine lv_aload_n hx hb dX4_copyFrom_44 rfl (lv_at hl 1 rfl) ?_
  refine r_gR C0 hW (ms_lt hj2 7 (by decide)) (ceX_m hj2 G 7 _ _) rfl hiX4 (k := 4) (by decide) kf_X4_25 rfl rfl rfl dX4_copyFrom_45 ?_
  refine lv_aload_n hx hb dX4_copyFrom_48 rfl (lv_at hl 0 rfl) ?_
  refine r_gR C0 hW (ms_lt hj 7 (by decide)) (ceX_m hj G 7 _ _) rfl hiX4 (k := 4) (by decide) kf_X4_25 rfl rfl rfl dX4_copyFrom_49 ?_
  refine k_Nv (own := "") C0 hW (As := [.ref (ad G j2 12), .ref (ad G j 12)]) (c_X5_copyFlags l G w4 (n := 120) (ms_lt hj2 12 (by decide)) (ms_lt hj 12 (by decide)) (by decide) (fun A => (ceX_m hj2 G 12 _ _)) (fun A => (ceX_m hj G 12 _ _)) (by simp only [hw4, hw3, hw2, hw1, up_up, up_s, hun, sF]; exact fun i _ _ => hf2 i)) C0.nst.2.2.1 ks_X5_copyFlags kn_X5 kc_X5_copyFlags hdS_X5_copyFlags ⟨by decide, by decide⟩ rfl hl.1 rfl (Nat.le_of_ble_eq_true rfl) dX4_copyFrom_52 (fun w5 H1 locs1 hp5 hW => ?_)
  have hw5 : w5 = _ := hp5
  refine lv_aload_n hx hb dX4_copyFrom_55 rfl (lv_at hl 1 rfl) ?_
  refine r_gR C0 hW (ms_lt hj2 7 (by decide)) (ceX_m hj2 G 7 _ _) rfl hiX4 (k := 5) (by decide) kf_X4_28 rfl rfl rfl dX4_copyFrom_56 ?_
  refine lv_aload_n hx hb dX4_copyFrom_59 rfl (lv_at hl 0 rfl) ?_
  refine r_gR C0 hW (ms_lt hj 7 (by decide)) (ceX_m hj G 7 _ _) rfl hiX4 (k := 5) (by decide) kf_X4_28 rfl rfl rfl dX4_copyFrom_60 ?_
  refine k_Nv (own := "") C0 hW (As := [.ref (ad G j2 13), .ref (ad G j 13)]) (c_X5_copyFlags l G w5 (n := 120) (ms_lt hj2 13 (by decide)) (ms_lt hj 13 (by decide)) (by decide) (fun A => (ceX_m hj2 G 13 _ _)) (fun A => (ceX_m hj G 13 _ _)) (by simp only [hw5, hw4, hw3, hw2, hw1, up_up, up_s, hun, sF]; exact fun i _ _ => hf3 i)) C0.nst.2.2.1 ks_X5_copyFlags kn_X5 kc_X5_copyFlags hdS_X5_copyFlags ⟨by decide, by decide⟩ rfl hl.1 rfl (Nat.le_of_ble_eq_true rfl) dX4_copyFrom_63 (fun w6 H1 locs1 hp6 hW => ?_)
  have hw6 : w6 = _ := hp6
  refine lv_aload_n hx hb dX4_copyFrom_66 rfl (lv_at hl 0 rfl) ?_
  refine lv_aload_n hx hb dX4_copyFrom_67 rfl (lv_at hl 1 rfl) ?_
  refine r_gI C0 hW (ms_lt hj2 7 (by decide)) (ceX_m hj2 G 7 _ _) rfl hiX4 (k := 6) (by decide) kf_X4_39 rfl rfl rfl dX4_copyFrom_68 (fun z7 (hz7 : z7 = gN (w6 j2) 7 6) rz7 => ?_)
  have rz7a := rz7.1
  have rz7b := rz7.2
  try simp (decide := true) only [hw6, hw5, hw4, hw3, hw2, hw1, up_s, gA_sF, gN_sF, gA_sA, gN_sA, gA_sS, gN_sS, if_true, if_false, true_and, and_true, false_and, and_false, hun] at hz7
  refine r_pI C0 hW (ms_lt hj 7 (by decide)) (ceX_m hj G 7 _ _) rfl hiX4 tyX4 tyX4_ok nmX4 (k := 6) (v := iI z7) (by decide) kf_X4_39 rfl rfl rfl (tyX4_ok 6 (by decide)) rfl rfl (by simp) (ceX_m hj G 7 _ _) dX4_copyFrom_71 (fun H1 locs1 hW => ?_)
  obtain ⟨w8, hw8⟩ : ∃ q : gW, q = up w6 j (sS (w6 j) 7 6 (iI z7)) := ⟨_, rfl⟩
  rw [← hw8] at hW
  exact r_vret C0 hW (by unfold po_X4_copyFrom; simp only [hw8, hw6, hw5, hw4, hw3, hw2, hw1, up_up, up_s, hun, rowC, hz7, gN_i]) dX4_copyFrom_74

/-- X1_copyFrom: its end -/
def po_X1_copyFrom (w : gW) (j : Nat) (j2 : Nat) : gW → Prop := fun w1 => w1 = up w j (disC (w j) (w j2))
theorem hdV_X1_copyFrom : yX1_copyFrom.cls = RX1 ∧ yX1_copyFrom.cls ≠ "java/lang/invoke/MethodHandle" ∧ yX1_copyFrom.cls ≠ "java/lang/invoke/VarHandle" ∧ (parseMethodDescriptor yX1_copyFrom.desc).map (fun d => d.parameters.length) = some 1 := by decide +kernel
set_option maxHeartbeats 4000000 in
set_option maxRecDepth 100000 in
theorem c_X1_copyFrom (l : Launch) (G : gG) (w : gW) {j : Nat} {j2 : Nat} (hj : ms j) (hj2 : ms j2) (hne : ¬ j2 = j) (hwf : wf (w j2)) : mV l G yX1_copyFrom (wU yX1_copyFrom cX1_copyFrom 2 none) (rmL 2 39) [.ref (ad G j 14), .ref (ad G j2 14)] w (po_X1_copyFrom w j j2) := by
  refine mV_of (by decide +kernel) (Nat.le_of_ble_eq_true rfl) (fun p e s m args below meth c ls C0 hW hl => ?_)
  have hl : lv_has ls 2 [(0, .ref (ad G j 14)), (1, .ref (ad G j2 14))] := hl
  have hx := C0.hx
  have hb := C0.hb
  have hun : ∀ (w : gW) (M : gM), up w j M j2 = w j2 := fun w M => up_n w M hne
  obtain ⟨-, -, -, hf1, hf2, hf3, -⟩ := id hwf
  refine lv_aload_n hx hb dX1_copyFrom_0 rfl (lv_at hl 1 rfl) ?_
  refine r_gR C0 hW (ms_lt hj2 14 (by decide)) (ceX_m hj2 G 14 _ _) rfl hiX1 (k := 0) (by decide) kf_X1_9 rfl rfl rfl dX1_copyFrom_1 ?_
  refine lv_aload_n hx hb dX1_copyFrom_4 rfl (lv_at hl 0 rfl) ?_
  refine r_gR C0 hW (ms_lt hj 14 (by decide)) (ceX_m hj G 14 _ _) rfl hiX1 (k := 0) (by decide) kf_X1_9 rfl rfl rfl dX1_copyFrom_5 ?_
  refine k_Nv (own := "") C0 hW (As := [.ref (ad G j2 15), .ref (ad G j 15)]) (c_X5_copyNumbers l G w (n := 120) (ms_lt hj2 15 (by decide)) (ms_lt hj 15 (by decide)) (by decide) (fun A => (ceX_m hj2 G 15 _ _)) (fun A => (ceX_m hj G 15 _ _))) C0.nst.2.2.2.1 ks_X5_copyNumbers kn_X5 kc_X5_copyNumbers hdS_X5_copyNumbers ⟨by decide, by decide⟩ rfl hl.1 rfl (Nat.le_of_ble_eq_true rfl) dX1_copyFrom_8 (fun w1 H1 locs1 hp1 hW => ?_)
  have hw1 : w1 = _ := hp1
  refine lv_aload_n hx hb dX1_copyFrom_11 rfl (lv_at hl 1 rfl) ?_
  refine r_gR C0 hW (ms_lt hj2 14 (by decide)) (ceX_m hj2 G 14 _ _) rfl hiX1 (k := 1) (by decide) kf_X1_15 rfl rfl rfl dX1_copyFrom_12 ?_
  refine lv_aload_n hx hb dX1_copyFrom_15 rfl (lv_at hl 0 rfl) ?_
  refine r_gR C0 hW (ms_lt hj 14 (by decide)) (ceX_m hj G 14 _ _) rfl hiX1 (k := 1) (by decide) kf_X1_15 rfl rfl rfl dX1_copyFrom_16 ?_
  refine k_Nv (own := "") C0 hW (As := [.ref (ad G j2 16), .ref (ad G j 16)]) (c_X5_copyNumbers l G w1 (n := 120) (ms_lt hj2 16 (by decide)) (ms_lt hj 16 (by decide)) (by decide) (fun A => (ceX_m hj2 G 16 _ _)) (fun A => (ceX_m hj G 16 _ _))) C0.nst.2.2.2.1 ks_X5_copyNumbers kn_X5 kc_X5_copyNumbers hdS_X5_copyNumbers ⟨by decide, by decide⟩ rfl hl.1 rfl (Nat.le_of_ble_eq_true rfl) dX1_copyFrom_19 (fun w2 H1 locs1 hp2 hW => ?_)
  have hw2 : w2 = _ := hp2
  refine lv_aload_n hx hb dX1_copyFrom_22 rfl (lv_at hl 1 rfl) ?_
  refine r_gR C0 hW (ms_lt hj2 14 (by decide)) (ceX_m hj2 G 14 _ _) rfl hiX1 (k := 2) (by decide) kf_X1_18 rfl rfl rfl dX1_copyFrom_23 ?_
  refine lv_aload_n hx hb dX1_copyFrom_26 rfl (lv_at hl 0 rfl) ?_
  refine r_gR C0 hW (ms_lt hj 14 (by decide)) (ceX_m hj G 14 _ _) rfl hiX1 (k := 2) (by decide) kf_X1_18 rfl rfl rfl dX1_copyFrom_27 ?_
  refine k_Nv (own := "") C0 hW (As := [.ref (ad G j2 17), .ref (ad G j 17)]) (c_X5_copyNumbers l G w2 (n := 120) (ms_lt hj2 17 (by decide)) (ms_lt hj 17 (by decide)) (by decide) (fun A => (ceX_m hj2 G 17 _ _)) (fun A => (ceX_m hj G 17 _ _))) C0.nst.2.2.2.1 ks_X5_copyNumbers kn_X5 kc_X5_copyNumbers hdS_X5_copyNumbers ⟨by decide, by decide⟩ rfl hl.1 rfl (Nat.le_of_ble_eq_true rfl) dX1_copyFrom_30 (fun w3 H1 locs1 hp3 hW => ?_)
  have hw3 : w3 = _ := hp3
  refine lv_aload_n hx hb dX1_copyFrom_33 rfl (lv_at hl 1 rfl) ?_
  refine r_gR C0 hW (ms_lt hj2 14 (by decide)) (ceX_m hj2 G 14 _ _) rfl hiX1 (k := 3) (by decide) kf_X1_21 rfl rfl rfl dX1_copyFrom_34 ?_
  refine lv_aload_n hx hb dX1_copyFrom_37 rfl (lv_at hl 0 rfl) ?_
  refine r_gR C0 hW (ms_lt hj 14 (by decide)) (ceX_m hj G 14 _ _) rfl hiX1 (k := 3) (by decide) kf_X1_21 rfl rfl rfl dX1_copyFrom_38 ?_
  refine k_Nv (own := "") C0 hW (As := [.ref (ad G j2 18), .ref (ad G j 18)]) (c_X5_copyNumbers l G w3 (n := 120) (ms_lt hj2 18 (by decide)) (ms_lt hj 18 (by decide)) (by decide) (fun A => (ceX_m hj2 G 18 _ _)) (fun A => (ceX_m hj G 18 _ _))) C0.nst.2.2.2.1 ks_X5_copyNumbers kn_X5 kc_X5_copyNumbers hdS_X5_copyNumbers ⟨by decide, by decide⟩ rfl hl.1 rfl (Nat.le_of_ble_eq_true rfl) dX1_copyFrom_41 (fun w4 H1 locs1 hp4 hW => ?_)
  have hw4 : w4 = _ := hp4
  refine lv_aload_n hx hb dX1_copyFrom_44 rfl (lv_at hl 0 rfl) ?_
  refine lv_aload_n hx hb dX1_copyFrom_45 rfl (lv_at hl 1 rfl) ?_
  refine r_gI C0 hW (ms_lt hj2 14 (by decide)) (ceX_m hj2 G 14 _ _) rfl hiX1 (k := 4) (by decide) kf_X1_28 rfl rfl rfl dX1_copyFrom_46 (fun z5 (hz5 : z5 = gN (w4 j2) 14 4) rz5 => ?_)
  have rz5a := rz5.1
  have rz5b := rz5.2
  try simp (decide := true) only [hw4, hw3, hw2, hw1, up_s, gA_sF, gN_sF, gA_sA, gN_sA, gA_sS, gN_sS, if_true, if_false, true_and, and_true, false_and, and_false, hun] at hz5
  refine r_pI C0 hW (ms_lt hj 14 (by decide)) (ceX_m hj G 14 _ _) rfl hiX1 tyX1 tyX1_ok nmX1 (k := 4) (v := iI z5) (by decide) kf_X1_28 rfl rfl rfl (tyX1_ok 4 (by decide)) rfl rfl (by simp) (ceX_m hj G 14 _ _) dX1_copyFrom_49 (fun H1 locs1 hW => ?_)
  obtain ⟨w6, hw6⟩ : ∃ q : gW, q = up w4 j (sS (w4 j) 14 4 (iI z5)) := ⟨_, rfl⟩
  rw [← hw6] at hW
  refine lv_aload_n hx hb dX1_copyFrom_52 rfl (lv_at hl 0 rfl) ?_
  refine lv_aload_n hx hb dX1_copyFrom_53 rfl (lv_at hl 1 rfl) ?_
  refine r_gI C0 hW (ms_lt hj2 14 (by decide)) (ceX_m hj2 G 14 _ _) rfl hiX1 (k := 5) (by decide) kf_X1_32 rfl rfl rfl dX1_copyFrom_54 (fun z7 (hz7 : z7 = gN (w6 j2) 14 5) rz7 => ?_)
  have rz7a := rz7.1
  have rz7b := rz7.2
  try simp (decide := true) only [hw6, hw4, hw3, hw2, hw1, up_s, gA_sF, gN_sF, gA_sA, gN_sA, gA_sS, gN_sS, if_true, if_false, true_and, and_true, false_and, and_false, hun] at hz7
  refine r_pI C0 hW (ms_lt hj 14 (by decide)) (ceX_m hj G 14 _ _) rfl hiX1 tyX1 tyX1_ok nmX1 (k := 5) (v := iI z7) (by decide) kf_X1_32 rfl rfl rfl (tyX1_ok 5 (by decide)) rfl rfl (by simp) (ceX_m hj G 14 _ _) dX1_copyFrom_57 (fun H1 locs1 hW => ?_)
  obtain ⟨w8, hw8⟩ : ∃ q : gW, q = up w6 j (sS (w6 j) 14 5 (iI z7)) := ⟨_, rfl⟩
  rw [← hw8] at hW
  exact r_vret C0 hW (by unfold po_X1_copyFrom; simp only [hw8, hw6, hw4, hw3, hw2, hw1, up_up, up_s, hun, disC, hz5, hz7, gN_i]) dX1_copyFrom_60
end
section
/-- X5_countEqual: its end -/
def po_X5_countEqual (w : gW) (j : Nat) (k0 : Nat) (nA : Nat) (v : Int) : Int → gW → Prop := fun z w1 => (z = cntI (pEq (w j) k0 v) nA) ∧ w = w1
theorem hdS_X5_countEqual : yX5_countEqual.cls ≠ "java/lang/invoke/MethodHandle" ∧ yX5_countEqual.cls ≠ "java/lang/invoke/VarHandle" ∧ (parseMethodDescriptor yX5_countEqual.desc).map (fun d => d.parameters.length) = some 2 := by decide +kernel
set_option maxHeartbeats 4000000 in
set_option maxRecDepth 100000 in
theorem c_X5_countEqual (l : Launch) (G : gG) (w : gW) {j : Nat} {k0 : Nat} (nA : Nat) (hj : j < 11 ∧ k0 < bs j) (hn : nA ≤ 120) (he : ∀ A : Int → Int32, ceX G j k0 A ((w j).2 k0) = cI G nA A) (v : Int) (rv : inR v) : mI l G yX5_countEqual (wU yX5_countEqual cX5_countEqual 7 (some .int)) (rmL 1 20) [.ref (ad G j k0), .int (iI v)] w (po_X5_countEqual w j k0 nA v) := by
  refine mI_of (by decide +kernel) (Nat.le_of_ble_eq_true rfl) (fun p e s m args below meth c ls C0 hW hl => ?_)
  have hl : lv_has ls 7 [(0, .ref (ad G j k0)), (1, .int (iI v))] := hl
  have hx := C0.hx
  have hb := C0.hb
  have rnn : inR (nA : Int) := ⟨by omega, by omega⟩
  refine r_iconst hx hb dX5_countEqual_0 ?_
  refine lv_istore_n (lv' := [(2, .int (iI 0)), (0, .ref (ad G j k0)), (1, .int (iI v))]) hx hb dX5_countEqual_1 rfl hl (by decide) rfl (fun ls hl => ?_)
  refine lv_aload_n hx hb dX5_countEqual_2 rfl (lv_at hl 1 rfl) ?_
  refine lv_astore_n (lv' := [(3, .ref (ad G j k0)), (2, .int (iI 0)), (0, .ref (ad G j k0)), (1, .int (iI v))]) hx hb dX5_countEqual_3 rfl hl (by decide) rfl (fun ls hl => ?_)
  refine lv_aload_n hx hb dX5_countEqual_4 rfl (lv_at hl 0 rfl) ?_
  refine r_alen C0 hW hj (n := nA) (by omega) (Or.inl (he _)) dX5_countEqual_5 ?_
  refine lv_istore (lv' := [(4, .int (iI (nA : Int))), (3, .ref (ad G j k0)), (2, .int (iI 0)), (0, .ref (ad G j k0)), (1, .int (iI v))]) hx hb dX5_countEqual_6 hl (by decide) rfl (fun ls hl => ?_)
  refine r_iconst hx hb dX5_countEqual_8 ?_
  refine lv_istore (lv' := [(5, .int (iI 0)), (4, .int (iI (nA : Int))), (3, .ref (ad G j k0)), (2, .int (iI 0)), (0, .ref (ad G j k0)), (1, .int (iI v))]) hx hb dX5_countEqual_9 hl (by decide) rfl (fun ls hl => ?_)
  have hL11 : ∀ (n : Nat) (x2 : Int) (x5 : Int) (H0 : Heap) (locs0 : List Loc) (ls : Array Slot) (hm : (nA : Int) - x5 < (n : Int)) (i11_0 : 0 ≤ x5) (i11_1 : x5 ≤ (nA : Int)) (i11_2 : x2 = cntI (pEq (w j) k0 v) x5) (hW : wo G w s H0 locs0) (hl : lv_has ls 7 [(5, .int (iI x5)), (4, .int (iI (nA : Int))), (3, .ref (ad G j k0)), (2, .int (iI x2)), (0, .ref (ad G j k0)), (1, .int (iI v))]), W p l e (rmL 1 20) s m args below meth c H0 locs0 0 0 (QI G (po_X5_countEqual w j k0 nA v) below args s) (F0 m 11 ls []) := by
    intro n
    induction n with
    | zero =>
      intro x2 x5 H0 locs0 ls hm i11_0 i11_1 i11_2 hW hl
      exact absurd hm (by omega)
    | succ n ih11 =>
      intro x2 x5 H0 locs0 ls hm i11_0 i11_1 i11_2 hW hl
      have hcl := cntI_le (pEq (w j) k0 v) i11_0
      refine lv_iload hx hb dX5_countEqual_11 (lv_at hl 0 rfl) ?_
      refine lv_iload hx hb dX5_countEqual_13 (lv_at hl 1 rfl) ?_
      refine r_icmp_ge (tgt := 47) hx hb ⟨by omega, by omega⟩ rnn dX5_countEqual_15 (by decide) (fun c1 => ?_) (fun c1 => ?_)
      · refine lv_iload_n hx hb dX5_countEqual_47 rfl (lv_at hl 3 rfl) ?_
        exact r_iret C0 hW ⟨by omega, by omega⟩ (⟨by rw [show (nA : Int) = x5 from by omega]; omega, rfl⟩) dX5_countEqual_48
      · refine lv_aload_n hx hb dX5_countEqual_18 rfl (lv_at hl 2 rfl) ?_
        refine lv_iload hx hb dX5_countEqual_19 (lv_at hl 0 rfl) ?_
        refine r_ild C0 hW hj (he _) (n := nA) (by omega) (by omega) (by omega) dX5_countEqual_21 (fun z2 (hz2 : z2 = gA (w j) k0 x5) rz2 => ?_)
        have rz2a := rz2.1
        have rz2b := rz2.2
        refine lv_istore (lv' := [(6, .int (iI z2)), (5, .int (iI x5)), (4, .int (iI (nA : Int))), (3, .ref (ad G j k0)), (2, .int (iI x2)), (0, .ref (ad G j k0)), (1, .int (iI v))]) hx hb dX5_countEqual_22 hl (by decide) rfl (fun ls hl => ?_)
        refine lv_iload_n hx hb dX5_countEqual_24 rfl (lv_at hl 4 rfl) ?_
        refine lv_iload hx hb dX5_countEqual_25 (lv_at hl 0 rfl) ?_
        refine lv_iload_n hx hb dX5_countEqual_27 rfl (lv_at hl 6 rfl) ?_
        refine r_icmp_ne (tgt := 35) hx hb rz2 rv dX5_countEqual_28 (by decide) (fun c3 => ?_) (fun c3 => ?_)
        · refine r_iconst hx hb dX5_countEqual_35 ?_
          refine k_Si (host := "") C0 hW (As := [.int (iI 0)]) (c_X5_oneIf l G w 0 ⟨by omega, by omega⟩) km_X5_188 ks_X5_oneIf kn_X5 kc_X5_oneIf rfl hdS_X5_oneIf ⟨by decide, by decide⟩ rfl hl.1 rfl (Nat.le_of_ble_eq_true rfl) dX5_countEqual_36 (fun z4 w4 H1 locs1 rz4 hp4 hW => ?_)
          obtain ⟨hp4, hq4⟩ := hp4
          subst hq4
          have rz4a := rz4.1
          have rz4b := rz4.2
          rcases hp4 with ⟨e4, hp4⟩ | ⟨e4, hp4⟩
          · subst e4
            refine r_iadd hx hb dX5_countEqual_39 ?_
            refine lv_istore_n (lv' := [(2, .int (iI (x2 + 1))), (6, .int (iI z2)), (5, .int (iI x5)), (4, .int (iI (nA : Int))), (3, .ref (ad G j k0)), (0, .ref (ad G j k0)), (1, .int (iI v))]) hx hb dX5_countEqual_40 rfl hl (by decide) rfl (fun ls hl => ?_)
            refine r_iinc (lv' := [(5, .int (iI (x5 + 1))), (2, .int (iI (x2 + 1))), (6, .int (iI z2)), (4, .int (iI (nA : Int))), (3, .ref (ad G j k0)), (0, .ref (ad G j k0)), (1, .int (iI v))]) hx hb dX5_countEqual_41 hl (k := 2) rfl (by decide) rfl (fun ls hl => ?_)
            refine lv_goto (tgt := 11) hx hb dX5_countEqual_44 (by decide) ?_
            exact ih11 (x2 + 1) (x5 + 1) _ _ ls (by omega) (by omega) (by omega) (by first | (rw [cntI_t (by omega) (by first | assumption | (unfold pEq at *; omega))]; omega) | (rw [cntI_f (by omega) (by first | assumption | (unfold pEq at *; omega))]; omega)) hW (lv_sub hl [0, 3, 4, 1, 5, 6] rfl)
          · subst e4
            refine r_iadd hx hb dX5_countEqual_39 ?_
            refine lv_istore_n (lv' := [(2, .int (iI (x2 + 0))), (6, .int (iI z2)), (5, .int (iI x5)), (4, .int (iI (nA : Int))), (3, .ref (ad G j k0)), (0, .ref (ad G j k0)), (1, .int (iI v))]) hx hb dX5_countEqual_40 rfl hl (by decide) rfl (fun ls hl => ?_)
            refine r_iinc (lv' := [(5, .int (iI (x5 + 1))), (2, .int (iI (x2 + 0))), (6, .int (iI z2)), (4, .int (iI (nA : Int))), (3, .ref (ad G j k0)), (0, .ref (ad G j k0)), (1, .int (iI v))]) hx hb dX5_countEqual_41 hl (k := 2) rfl (by decide) rfl (fun ls hl => ?_)
            refine lv_goto (tgt := 11) hx hb dX5_countEqual_44 (by decide) ?_
            exact ih11 (x2 + 0) (x5 + 1) _ _ ls (by omega) (by omega) (by omega) (by first | (rw [cntI_t (by omega) (by first | assumption | (unfold pEq at *; omega))]; omega) | (rw [cntI_f (by omega) (by first | assumption | (unfold pEq at *; omega))]; omega)) hW (lv_sub hl [0, 3, 4, 1, 5, 6] rfl)
        · refine r_iconst hx hb dX5_countEqual_31 ?_
          refine lv_goto (tgt := 36) hx hb dX5_countEqual_32 (by decide) ?_
          refine k_Si (host := "") C0 hW (As := [.int (iI 1)]) (c_X5_oneIf l G w 1 ⟨by omega, by omega⟩) km_X5_188 ks_X5_oneIf kn_X5 kc_X5_oneIf rfl hdS_X5_oneIf ⟨by decide, by decide⟩ rfl hl.1 rfl (Nat.le_of_ble_eq_true rfl) dX5_countEqual_36 (fun z5 w5 H1 locs1 rz5 hp5 hW => ?_)
          obtain ⟨hp5, hq5⟩ := hp5
          subst hq5
          have rz5a := rz5.1
          have rz5b := rz5.2
          rcases hp5 with ⟨e5, hp5⟩ | ⟨e5, hp5⟩
          · subst e5
            refine r_iadd hx hb dX5_countEqual_39 ?_
            refine lv_istore_n (lv' := [(2, .int (iI (x2 + 1))), (6, .int (iI z2)), (5, .int (iI x5)), (4, .int (iI (nA : Int))), (3, .ref (ad G j k0)), (0, .ref (ad G j k0)), (1, .int (iI v))]) hx hb dX5_countEqual_40 rfl hl (by decide) rfl (fun ls hl => ?_)
            refine r_iinc (lv' := [(5, .int (iI (x5 + 1))), (2, .int (iI (x2 + 1))), (6, .int (iI z2)), (4, .int (iI (nA : Int))), (3, .ref (ad G j k0)), (0, .ref (ad G j k0)), (1, .int (iI v))]) hx hb dX5_countEqual_41 hl (k := 2) rfl (by decide) rfl (fun ls hl => ?_)
            refine lv_goto (tgt := 11) hx hb dX5_countEqual_44 (by decide) ?_
            exact ih11 (x2 + 1) (x5 + 1) _ _ ls (by omega) (by omega) (by omega) (by first | (rw [cntI_t (by omega) (by first | assumption | (unfold pEq at *; omega))]; omega) | (rw [cntI_f (by omega) (by first | assumption | (unfold pEq at *; omega))]; omega)) hW (lv_sub hl [0, 3, 4, 1, 5, 6] rfl)
          · subst e5
            refine r_iadd hx hb dX5_countEqual_39 ?_
            refine lv_istore_n (lv' := [(2, .int (iI (x2 + 0))), (6, .int (iI z2)), (5, .int (iI x5)), (4, .int (iI (nA : Int))), (3, .ref (ad G j k0)), (0, .ref (ad G j k0)), (1, .int (iI v))]) hx hb dX5_countEqual_40 rfl hl (by decide) rfl (fun ls hl => ?_)
            refine r_iinc (lv' := [(5, .int (iI (x5 + 1))), (2, .int (iI (x2 + 0))), (6, .int (iI z2)), (4, .int (iI (nA : Int))), (3, .ref (ad G j k0)), (0, .ref (ad G j k0)), (1, .int (iI v))]) hx hb dX5_countEqual_41 hl (k := 2) rfl (by decide) rfl (fun ls hl => ?_)
            refine lv_goto (tgt := 11) hx hb dX5_countEqual_44 (by decide) ?_
            exact ih11 (x2 + 0) (x5 + 1) _ _ ls (by omega) (by omega) (by omega) (by first | (rw [cntI_t (by omega) (by first | assumption | (unfold pEq at *; omega))]; omega) | (rw [cntI_f (by omega) (by first | assumption | (unfold pEq at *; omega))]; omega)) hW (lv_sub hl [0, 3, 4, 1, 5, 6] rfl)
  exact hL11 121 0 0 _ _ ls (by omega) (by omega) (by omega) (by rw [cntI_0]) hW (lv_sub hl [0, 1, 2, 3, 4, 5] rfl)

/-- X5_sumOf: its end -/
def po_X5_sumOf (w : gW) (j : Nat) (k0 : Nat) (nA : Nat) : Int → gW → Prop := fun z w1 => (iI z = iI (sumX (gA (w j) k0) nA)) ∧ w = w1
theorem hdS_X5_sumOf : yX5_sumOf.cls ≠ "java/lang/invoke/MethodHandle" ∧ yX5_sumOf.cls ≠ "java/lang/invoke/VarHandle" ∧ (parseMethodDescriptor yX5_sumOf.desc).map (fun d => d.parameters.length) = some 1 := by decide +kernel
set_option maxHeartbeats 4000000 in
set_option maxRecDepth 100000 in
theorem c_X5_sumOf (l : Launch) (G : gG) (w : gW) {j : Nat} {k0 : Nat} (nA : Nat) (hj : j < 11 ∧ k0 < bs j) (hn : nA ≤ 120) (he : ∀ A : Int → Int32, ceX G j k0 A ((w j).2 k0) = cI G nA A) : mI l G yX5_sumOf (wU yX5_sumOf cX5_sumOf 6 (some .int)) (rmL 0 0) [.ref (ad G j k0)] w (po_X5_sumOf w j k0 nA) := by
  refine mI_of (by decide +kernel) (Nat.le_of_ble_eq_true rfl) (fun p e s m args below meth c ls C0 hW hl => ?_)
  have hl : lv_has ls 6 [(0, .ref (ad G j k0))] := hl
  have hx := C0.hx
  have hb := C0.hb
  have rnn : inR (nA : Int) := ⟨by omega, by omega⟩
  refine r_iconst hx hb dX5_sumOf_0 ?_
  refine lv_istore_n (lv' := [(1, .int (iI 0)), (0, .ref (ad G j k0))]) hx hb dX5_sumOf_1 rfl hl (by decide) rfl (fun ls hl => ?_)
  refine lv_aload_n hx hb dX5_sumOf_2 rfl (lv_at hl 1 rfl) ?_
  refine lv_astore_n (lv' := [(2, .ref (ad G j k0)), (1, .int (iI 0)), (0, .ref (ad G j k0))]) hx hb dX5_sumOf_3 rfl hl (by decide) rfl (fun ls hl => ?_)
  refine lv_aload_n hx hb dX5_sumOf_4 rfl (lv_at hl 0 rfl) ?_
  refine r_alen C0 hW hj (n := nA) (by omega) (Or.inl (he _)) dX5_sumOf_5 ?_
  refine lv_istore_n (lv' := [(3, .int (iI (nA : Int))), (2, .ref (ad G j k0)), (1, .int (iI 0)), (0, .ref (ad G j k0))]) hx hb dX5_sumOf_6 rfl hl (by decide) rfl (fun ls hl => ?_)
  refine r_iconst hx hb dX5_sumOf_7 ?_
  refine lv_istore (lv' := [(4, .int (iI 0)), (3, .int (iI (nA : Int))), (2, .ref (ad G j k0)), (1, .int (iI 0)), (0, .ref (ad G j k0))]) hx hb dX5_sumOf_8 hl (by decide) rfl (fun ls hl => ?_)
  have hL10 : ∀ (n : Nat) (x1 : Int) (x4 : Int) (H0 : Heap) (locs0 : List Loc) (ls : Array Slot) (hm : (nA : Int) - x4 < (n : Int)) (i10_0 : 0 ≤ x4) (i10_1 : x4 ≤ (nA : Int)) (i10_2 : iI x1 = iI (sumX (gA (w j) k0) x4)) (hW : wo G w s H0 locs0) (hl : lv_has ls 6 [(4, .int (iI x4)), (3, .int (iI (nA : Int))), (2, .ref (ad G j k0)), (1, .int (iI x1)), (0, .ref (ad G j k0))]), W p l e (rmL 0 0) s m args below meth c H0 locs0 0 0 (QI G (po_X5_sumOf w j k0 nA) below args s) (F0 m 10 ls []) := by
    intro n
    induction n with
    | zero =>
      intro x1 x4 H0 locs0 ls hm i10_0 i10_1 i10_2 hW hl
      exact absurd hm (by omega)
    | succ n ih10 =>
      intro x1 x4 H0 locs0 ls hm i10_0 i10_1 i10_2 hW hl
      refine lv_iload hx hb dX5_sumOf_10 (lv_at hl 0 rfl) ?_
      refine lv_iload_n hx hb dX5_sumOf_12 rfl (lv_at hl 1 rfl) ?_
      refine r_icmp_ge (tgt := 33) hx hb ⟨by omega, by omega⟩ rnn dX5_sumOf_13 (by decide) (fun c1 => ?_) (fun c1 => ?_)
      · refine lv_iload_n hx hb dX5_sumOf_33 rfl (lv_at hl 3 rfl) ?_
        rw [← iI_o (iI x1)]
        exact r_iret C0 hW (inR_o _) (⟨by rw [iI_o, show (nA : Int) = x4 from by omega, ← i10_2], rfl⟩) dX5_sumOf_34
      · refine lv_aload_n hx hb dX5_sumOf_16 rfl (lv_at hl 2 rfl) ?_
        refine lv_iload hx hb dX5_sumOf_17 (lv_at hl 0 rfl) ?_
        refine r_ild C0 hW hj (he _) (n := nA) (by omega) (by omega) (by omega) dX5_sumOf_19 (fun z2 (hz2 : z2 = gA (w j) k0 x4) rz2 => ?_)
        have rz2a := rz2.1
        have rz2b := rz2.2
        refine lv_istore (lv' := [(5, .int (iI z2)), (4, .int (iI x4)), (3, .int (iI (nA : Int))), (2, .ref (ad G j k0)), (1, .int (iI x1)), (0, .ref (ad G j k0))]) hx hb dX5_sumOf_20 hl (by decide) rfl (fun ls hl => ?_)
        refine lv_iload_n hx hb dX5_sumOf_22 rfl (lv_at hl 4 rfl) ?_
        refine lv_iload hx hb dX5_sumOf_23 (lv_at hl 0 rfl) ?_
        refine r_iadd hx hb dX5_sumOf_25 ?_
        refine lv_istore_n (lv' := [(1, .int (iI (x1 + z2))), (5, .int (iI z2)), (4, .int (iI x4)), (3, .int (iI (nA : Int))), (2, .ref (ad G j k0)), (0, .ref (ad G j k0))]) hx hb dX5_sumOf_26 rfl hl (by decide) rfl (fun ls hl => ?_)
        refine r_iinc (lv' := [(4, .int (iI (x4 + 1))), (1, .int (iI (x1 + z2))), (5, .int (iI z2)), (3, .int (iI (nA : Int))), (2, .ref (ad G j k0)), (0, .ref (ad G j k0))]) hx hb dX5_sumOf_27 hl (k := 2) rfl (by decide) rfl (fun ls hl => ?_)
        refine lv_goto (tgt := 10) hx hb dX5_sumOf_30 (by decide) ?_
        exact ih10 (x1 + z2) (x4 + 1) _ _ ls (by omega) (by omega) (by omega) (by rw [← iI_add, i10_2, iI_add, sumX_s _ (by omega)]; congr 2) hW (lv_sub hl [0, 3, 4, 1, 5] rfl)
  exact hL10 121 0 0 _ _ ls (by omega) (by omega) (by omega) (by rw [sumX_0]) hW (lv_sub hl [0, 1, 2, 3, 4] rfl)

/-- X3_commonerOfCart: its end -/
def po_X3_commonerOfCart (w : gW) (j : Nat) (v : Int) : Int → gW → Prop := fun z w1 => (z = (gN (w j) 0 10 + v * 5) % 10 ∧ 0 ≤ z ∧ z ≤ 9) ∧ w = w1
theorem hdV_X3_commonerOfCart : yX3_commonerOfCart.cls = RX3 ∧ yX3_commonerOfCart.cls ≠ "java/lang/invoke/MethodHandle" ∧ yX3_commonerOfCart.cls ≠ "java/lang/invoke/VarHandle" ∧ (parseMethodDescriptor yX3_commonerOfCart.desc).map (fun d => d.parameters.length) = some 1 := by decide +kernel
set_option maxHeartbeats 4000000 in
set_option maxRecDepth 100000 in
theorem c_X3_commonerOfCart (l : Launch) (G : gG) (w : gW) {j : Nat} (hj : ms j) (hwf : wf (w j)) (v : Int) (rv : inR v) (hv9 : 0 ≤ v ∧ v ≤ 1) : mI l G yX3_commonerOfCart (wU yX3_commonerOfCart cX3_commonerOfCart 2 (some .int)) (rmL 0 0) [.ref (ad G j 0), .int (iI v)] w (po_X3_commonerOfCart w j v) := by
  refine mI_of (by decide +kernel) (Nat.le_of_ble_eq_true rfl) (fun p e s m args below meth c ls C0 hW hl => ?_)
  have hl : lv_has ls 2 [(0, .ref (ad G j 0)), (1, .int (iI v))] := hl
  have hx := C0.hx
  have hb := C0.hb
  obtain ⟨⟨hs1, hs2⟩, ⟨hd1, hd2, hd3⟩, -, -, -, -, ⟨hr1, hr2⟩, ⟨hc1, hc2⟩, hds⟩ := id hwf
  refine lv_aload_n hx hb dX3_commonerOfCart_0 rfl (lv_at hl 0 rfl) ?_
  refine r_gI C0 hW (ms_lt hj 0 (by decide)) (ceX_m hj G 0 _ _) rfl hiX3 (k := 10) (by decide) kf_X3_62 rfl rfl rfl dX3_commonerOfCart_1 (fun z1 (hz1 : z1 = gN (w j) 0 10) rz1 => ?_)
  have rz1a := rz1.1
  have rz1b := rz1.2
  refine lv_iload_n hx hb dX3_commonerOfCart_4 rfl (lv_at hl 1 rfl) ?_
  refine r_iconst hx hb dX3_commonerOfCart_5 ?_
  refine r_imul hx hb dX3_commonerOfCart_6 ?_
  refine r_iadd hx hb dX3_commonerOfCart_7 ?_
  refine r_bipush hx hb dX3_commonerOfCart_8 (by decide) ?_
  refine r_irem hx hb ⟨by omega, by omega⟩ ⟨by omega, by omega⟩ (by omega) (by omega) dX3_commonerOfCart_10 ?_
  exact r_iret C0 hW ⟨by omega, by omega⟩ (⟨⟨by omega, by omega, by omega⟩, rfl⟩) dX3_commonerOfCart_11

/-- X3_hasDayLeft: its end -/
def po_X3_hasDayLeft (w : gW) (j : Nat) (co : Int) : Int → gW → Prop := fun z w1 => ((z = 1 ∧ pD (w j) co) ∨ (z = 0 ∧ ¬ pD (w j) co)) ∧ w = w1
theorem hdV_X3_hasDayLeft : yX3_hasDayLeft.cls = RX3 ∧ yX3_hasDayLeft.cls ≠ "java/lang/invoke/MethodHandle" ∧ yX3_hasDayLeft.cls ≠ "java/lang/invoke/VarHandle" ∧ (parseMethodDescriptor yX3_hasDayLeft.desc).map (fun d => d.parameters.length) = some 1 := by decide +kernel
set_option maxHeartbeats 4000000 in
set_option maxRecDepth 100000 in
theorem c_X3_hasDayLeft (l : Launch) (G : gG) (w : gW) {j : Nat} (hj : ms j) (hwf : wf (w j)) (co : Int) (rco : inR co) : mI l G yX3_hasDayLeft (wU yX3_hasDayLeft cX3_hasDayLeft 2 (some .boolean)) (rmL 2 42) [.ref (ad G j 0), .int (iI co)] w (po_X3_hasDayLeft w j co) := by
  refine mI_of (by decide +kernel) (Nat.le_of_ble_eq_true rfl) (fun p e s m args below meth c ls C0 hW hl => ?_)
  have hl : lv_has ls 2 [(0, .ref (ad G j 0)), (1, .int (iI co))] := hl
  have hx := C0.hx
  have hb := C0.hb
  obtain ⟨⟨hs1, hs2⟩, ⟨hd1, hd2, hd3⟩, -, -, -, -, ⟨hr1, hr2⟩, ⟨hc1, hc2⟩, hds⟩ := id hwf
  refine lv_iload_n hx hb dX3_hasDayLeft_0 rfl (lv_at hl 1 rfl) ?_
  refine k_Ni (own := "") C0 hW (As := [.int (iI co)]) (c_X5_isCommoner l G w co rco) C0.nst.2.2.2.2.1 ks_X5_isCommoner kn_X5 kc_X5_isCommoner hdS_X5_isCommoner ⟨by decide, by decide⟩ rfl hl.1 rfl (Nat.le_of_ble_eq_true rfl) dX3_hasDayLeft_1 (fun z1 w1 H1 locs1 rz1 hp1 hW => ?_)
  obtain ⟨hp1, hq1⟩ := hp1
  subst hq1
  have rz1a := rz1.1
  have rz1b := rz1.2
  rcases hp1 with ⟨e1, hp1⟩ | ⟨e1, hp1⟩
  · subst e1
    refine r_if_eq (tgt := 26) hx hb ⟨by omega, by omega⟩ dX3_hasDayLeft_4 (by decide) (fun q => absurd q (by decide)) (fun _ => ?_)
    refine lv_aload_n hx hb dX3_hasDayLeft_7 rfl (lv_at hl 0 rfl) ?_
    refine r_gR C0 hW (ms_lt hj 0 (by decide)) (ceX_m hj G 0 _ _) rfl hiX3 (k := 4) (by decide) kf_X3_24 rfl rfl rfl dX3_hasDayLeft_8 ?_
    refine lv_iload_n hx hb dX3_hasDayLeft_11 rfl (lv_at hl 1 rfl) ?_
    refine r_ild C0 hW (ms_lt hj 5 (by decide)) (ceX_m hj G 5 _ _) (n := 10) (by omega) (by omega) (by omega) dX3_hasDayLeft_12 (fun z2 (hz2 : z2 = gA (w j) 5 co) rz2 => ?_)
    have rz2a := rz2.1
    have rz2b := rz2.2
    refine lv_aload_n hx hb dX3_hasDayLeft_13 rfl (lv_at hl 0 rfl) ?_
    refine r_gR C0 hW (ms_lt hj 0 (by decide)) (ceX_m hj G 0 _ _) rfl hiX3 (k := 3) (by decide) kf_X3_21 rfl rfl rfl dX3_hasDayLeft_14 ?_
    refine lv_iload_n hx hb dX3_hasDayLeft_17 rfl (lv_at hl 1 rfl) ?_
    refine r_ild C0 hW (ms_lt hj 4 (by decide)) (ceX_m hj G 4 _ _) (n := 10) (by omega) (by omega) (by omega) dX3_hasDayLeft_18 (fun z3 (hz3 : z3 = gA (w j) 4 co) rz3 => ?_)
    have rz3a := rz3.1
    have rz3b := rz3.2
    refine r_icmp_ge (tgt := 26) hx hb rz2 rz3 dX3_hasDayLeft_19 (by decide) (fun c4 => ?_) (fun c4 => ?_)
    · refine r_iconst hx hb dX3_hasDayLeft_26 ?_
      exact r_zret C0 hW (by first | exact Or.inl rfl | exact Or.inr rfl | omega) (⟨by unfold pD; omega, rfl⟩) dX3_hasDayLeft_27
    · refine r_iconst hx hb dX3_hasDayLeft_22 ?_
      refine lv_goto (tgt := 27) hx hb dX3_hasDayLeft_23 (by decide) ?_
      exact r_zret C0 hW (by first | exact Or.inl rfl | exact Or.inr rfl | omega) (⟨by unfold pD; omega, rfl⟩) dX3_hasDayLeft_27
  · subst e1
    refine r_if_eq (tgt := 26) hx hb ⟨by omega, by omega⟩ dX3_hasDayLeft_4 (by decide) (fun _ => ?_) (fun q => absurd q (by decide))
    refine r_iconst hx hb dX3_hasDayLeft_26 ?_
    exact r_zret C0 hW (by first | exact Or.inl rfl | exact Or.inr rfl | omega) (⟨by unfold pD; omega, rfl⟩) dX3_hasDayLeft_27

/-- X3_hasRight: its end -/
def po_X3_hasRight (w : gW) (j : Nat) (co : Int) (pl : Int) : Int → gW → Prop := fun z w1 => ((z = 1 ∧ pR (w j) co pl) ∨ (z = 0 ∧ ¬ pR (w j) co pl)) ∧ w = w1
theorem hdV_X3_hasRight : yX3_hasRight.cls = RX3 ∧ yX3_hasRight.cls ≠ "java/lang/invoke/MethodHandle" ∧ yX3_hasRight.cls ≠ "java/lang/invoke/VarHandle" ∧ (parseMethodDescriptor yX3_hasRight.desc).map (fun d => d.parameters.length) = some 2 := by decide +kernel
set_option maxHeartbeats 4000000 in
set_option maxRecDepth 100000 in
theorem c_X3_hasRight (l : Launch) (G : gG) (w : gW) {j : Nat} (hj : ms j) (hwf : wf (w j)) (co : Int) (pl : Int) (rco : inR co) (rpl : inR pl) : mI l G yX3_hasRight (wU yX3_hasRight cX3_hasRight 3 (some .boolean)) (rmL 2 42) [.ref (ad G j 0), .int (iI co), .int (iI pl)] w (po_X3_hasRight w j co pl) := by
  refine mI_of (by decide +kernel) (Nat.le_of_ble_eq_true rfl) (fun p e s m args below meth c ls C0 hW hl => ?_)
  have hl : lv_has ls 3 [(0, .ref (ad G j 0)), (1, .int (iI co)), (2, .int (iI pl))] := hl
  have hx := C0.hx
  have hb := C0.hb
  obtain ⟨⟨hs1, hs2⟩, ⟨hd1, hd2, hd3⟩, -, -, -, -, ⟨hr1, hr2⟩, ⟨hc1, hc2⟩, hds⟩ := id hwf
  refine lv_iload_n hx hb dX3_hasRight_0 rfl (lv_at hl 2 rfl) ?_
  refine k_Ni (own := "") C0 hW (As := [.int (iI pl)]) (c_X5_isPlot l G w pl rpl) C0.nst.2.2.2.2.2.1 ks_X5_isPlot kn_X5 kc_X5_isPlot hdS_X5_isPlot ⟨by decide, by decide⟩ rfl hl.1 rfl (Nat.le_of_ble_eq_true rfl) dX3_hasRight_1 (fun z1 w1 H1 locs1 rz1 hp1 hW => ?_)
  obtain ⟨hp1, hq1⟩ := hp1
  subst hq1
  have rz1a := rz1.1
  have rz1b := rz1.2
  rcases hp1 with ⟨e1, hp1⟩ | ⟨e1, hp1⟩
  · subst e1
    refine r_if_eq (tgt := 21) hx hb ⟨by omega, by omega⟩ dX3_hasRight_4 (by decide) (fun q => absurd q (by decide)) (fun _ => ?_)
    refine lv_aload_n hx hb dX3_hasRight_7 rfl (lv_at hl 0 rfl) ?_
    refine r_gR C0 hW (ms_lt hj 0 (by decide)) (ceX_m hj G 0 _ _) rfl hiX3 (k := 2) (by decide) kf_X3_18 rfl rfl rfl dX3_hasRight_8 ?_
    refine lv_iload_n hx hb dX3_hasRight_11 rfl (lv_at hl 2 rfl) ?_
    refine r_ild C0 hW (ms_lt hj 3 (by decide)) (ceX_m hj G 3 _ _) (n := 20) (by omega) (by omega) (by omega) dX3_hasRight_12 (fun z2 (hz2 : z2 = gA (w j) 3 pl) rz2 => ?_)
    have rz2a := rz2.1
    have rz2b := rz2.2
    refine lv_iload_n hx hb dX3_hasRight_13 rfl (lv_at hl 1 rfl) ?_
    refine r_icmp_ne (tgt := 21) hx hb rz2 rco dX3_hasRight_14 (by decide) (fun c3 => ?_) (fun c3 => ?_)
    · refine r_iconst hx hb dX3_hasRight_21 ?_
      exact r_zret C0 hW (by first | exact Or.inl rfl | exact Or.inr rfl | omega) (⟨by unfold pR; omega, rfl⟩) dX3_hasRight_22
    · refine r_iconst hx hb dX3_hasRight_17 ?_
      refine lv_goto (tgt := 22) hx hb dX3_hasRight_18 (by decide) ?_
      exact r_zret C0 hW (by first | exact Or.inl rfl | exact Or.inr rfl | omega) (⟨by unfold pR; omega, rfl⟩) dX3_hasRight_22
  · subst e1
    refine r_if_eq (tgt := 21) hx hb ⟨by omega, by omega⟩ dX3_hasRight_4 (by decide) (fun _ => ?_) (fun q => absurd q (by decide))
    refine r_iconst hx hb dX3_hasRight_21 ?_
    exact r_zret C0 hW (by first | exact Or.inl rfl | exact Or.inr rfl | omega) (⟨by unfold pR; omega, rfl⟩) dX3_hasRight_22

/-- X3_reasonAgainst: its end -/
def po_X3_reasonAgainst (w : gW) (j : Nat) (co : Int) (pl : Int) : Int → gW → Prop := fun z w1 => (rsn (w j) co pl z) ∧ w = w1
theorem hdV_X3_reasonAgainst : yX3_reasonAgainst.cls = RX3 ∧ yX3_reasonAgainst.cls ≠ "java/lang/invoke/MethodHandle" ∧ yX3_reasonAgainst.cls ≠ "java/lang/invoke/VarHandle" ∧ (parseMethodDescriptor yX3_reasonAgainst.desc).map (fun d => d.parameters.length) = some 2 := by decide +kernel
set_option maxHeartbeats 4000000 in
set_option maxRecDepth 100000 in
theorem c_X3_reasonAgainst (l : Launch) (G : gG) (w : gW) {j : Nat} (hj : ms j) (hwf : wf (w j)) (co : Int) (pl : Int) (rco : inR co) (rpl : inR pl) : mI l G yX3_reasonAgainst (wU yX3_reasonAgainst cX3_reasonAgainst 4 (some .int)) (rmL 3 64) [.ref (ad G j 0), .int (iI co), .int (iI pl)] w (po_X3_reasonAgainst w j co pl) := by
  refine mI_of (by decide +kernel) (Nat.le_of_ble_eq_true rfl) (fun p e s m args below meth c ls C0 hW hl => ?_)
  have hl : lv_has ls 4 [(0, .ref (ad G j 0)), (1, .int (iI co)), (2, .int (iI pl))] := hl
  have hx := C0.hx
  have hb := C0.hb
  obtain ⟨⟨hs1, hs2⟩, ⟨hd1, hd2, hd3⟩, -, -, -, -, ⟨hr1, hr2⟩, ⟨hc1, hc2⟩, hds⟩ := id hwf
  refine lv_aload_n hx hb dX3_reasonAgainst_0 rfl (lv_at hl 0 rfl) ?_
  refine lv_iload_n hx hb dX3_reasonAgainst_1 rfl (lv_at hl 1 rfl) ?_
  refine k_Vi (j := j) (k0 := 0) C0 hW (c_X3_hasDayLeft l G w hj hwf co rco) km_X3_74 ki_X3_hasDayLeft ke_X3_hasDayLeft kn_X3 kc_X3_hasDayLeft rfl hdV_X3_hasDayLeft ⟨by decide, by decide⟩ (ms_lt hj 0 (by decide)) (ceX_m hj G 0 _ _) rfl rfl hl.1 rfl (Nat.le_of_ble_eq_true rfl) dX3_reasonAgainst_2 (fun z1 w1 H1 locs1 rz1 hp1 hW => ?_)
  obtain ⟨hp1, hq1⟩ := hp1
  subst hq1
  have rz1a := rz1.1
  have rz1b := rz1.2
  rcases hp1 with ⟨e1, hp1⟩ | ⟨e1, hp1⟩
  · subst e1
    obtain ⟨⟨hp11, hp12⟩, hp13⟩ := id hp1
    refine r_if_ne (tgt := 10) hx hb ⟨by omega, by omega⟩ dX3_reasonAgainst_5 (by decide) (fun _ => ?_) (fun q => absurd q (by decide))
    refine lv_iload_n hx hb dX3_reasonAgainst_10 rfl (lv_at hl 2 rfl) ?_
    refine k_Ni (own := "") C0 hW (As := [.int (iI pl)]) (c_X5_isPlot l G w pl rpl) C0.nst.2.2.2.2.2.1 ks_X5_isPlot kn_X5 kc_X5_isPlot hdS_X5_isPlot ⟨by decide, by decide⟩ rfl hl.1 rfl (Nat.le_of_ble_eq_true rfl) dX3_reasonAgainst_11 (fun z2 w2 H1 locs1 rz2 hp2 hW => ?_)
    obtain ⟨hp2, hq2⟩ := hp2
    subst hq2
    have rz2a := rz2.1
    have rz2b := rz2.2
    rcases hp2 with ⟨e2, hp2⟩ | ⟨e2, hp2⟩
    · subst e2
      refine r_if_eq (tgt := 26) hx hb ⟨by omega, by omega⟩ dX3_reasonAgainst_14 (by decide) (fun q => absurd q (by decide)) (fun _ => ?_)
      refine lv_aload_n hx hb dX3_reasonAgainst_17 rfl (lv_at hl 0 rfl) ?_
      refine r_gR C0 hW (ms_lt hj 0 (by decide)) (ceX_m hj G 0 _ _) rfl hiX3 (k := 0) (by decide) kf_X3_9 rfl rfl rfl dX3_reasonAgainst_18 ?_
      refine lv_iload_n hx hb dX3_reasonAgainst_21 rfl (lv_at hl 2 rfl) ?_
      refine r_ild C0 hW (ms_lt hj 1 (by decide)) (ceX_m hj G 1 _ _) (n := 20) (by omega) (by omega) (by omega) dX3_reasonAgainst_22 (fun z3 (hz3 : z3 = gA (w j) 1 pl) rz3 => ?_)
      have rz3a := rz3.1
      have rz3b := rz3.2
      refine r_if_gt (tgt := 28) hx hb rz3 dX3_reasonAgainst_23 (by decide) (fun c4 => ?_) (fun c4 => ?_)
      · refine lv_aload_n hx hb dX3_reasonAgainst_28 rfl (lv_at hl 0 rfl) ?_
        refine r_gR C0 hW (ms_lt hj 0 (by decide)) (ceX_m hj G 0 _ _) rfl hiX3 (k := 6) (by decide) kf_X3_33 rfl rfl rfl dX3_reasonAgainst_29 ?_
        refine k_Vi (j := j) (k0 := 7) C0 hW (c_X4_countLying l G w hj hwf) km_X3_81 ki_X4_countLying ke_X4_countLying kn_X4 kc_X4_countLying rfl hdV_X4_countLying ⟨by decide, by decide⟩ (ms_lt hj 7 (by decide)) (ceX_m hj G 7 _ _) rfl rfl hl.1 rfl (Nat.le_of_ble_eq_true rfl) dX3_reasonAgainst_32 (fun z5 w5 H1 locs1 rz5 hp5 hW => ?_)
        obtain ⟨hp5, hq5⟩ := hp5
        subst hq5
        have rz5a := rz5.1
        have rz5b := rz5.2
        refine r_bipush hx hb dX3_reasonAgainst_35 (by decide) ?_
        refine r_icmp_lt (tgt := 42) hx hb rz5 ⟨by omega, by omega⟩ dX3_reasonAgainst_37 (by decide) (fun c6 => ?_) (fun c6 => ?_)
        · refine lv_aload_n hx hb dX3_reasonAgainst_42 rfl (lv_at hl 0 rfl) ?_
          refine lv_iload_n hx hb dX3_reasonAgainst_43 rfl (lv_at hl 1 rfl) ?_
          refine lv_iload_n hx hb dX3_reasonAgainst_44 rfl (lv_at hl 2 rfl) ?_
          refine k_Vi (j := j) (k0 := 0) C0 hW (c_X3_hasRight l G w hj hwf co pl rco rpl) km_X3_85 ki_X3_hasRight ke_X3_hasRight kn_X3 kc_X3_hasRight rfl hdV_X3_hasRight ⟨by decide, by decide⟩ (ms_lt hj 0 (by decide)) (ceX_m hj G 0 _ _) rfl rfl hl.1 rfl (Nat.le_of_ble_eq_true rfl) dX3_reasonAgainst_45 (fun z7 w7 H1 locs1 rz7 hp7 hW => ?_)
          obtain ⟨hp7, hq7⟩ := hp7
          subst hq7
          have rz7a := rz7.1
          have rz7b := rz7.2
          rcases hp7 with ⟨e7, hp7⟩ | ⟨e7, hp7⟩
          · subst e7
            refine r_if_ne (tgt := 73) hx hb ⟨by omega, by omega⟩ dX3_reasonAgainst_48 (by decide) (fun _ => ?_) (fun q => absurd q (by decide))
            refine r_iconst hx hb dX3_reasonAgainst_73 ?_
            refine lv_goto (tgt := 78) hx hb dX3_reasonAgainst_74 (by decide) ?_
            refine lv_istore_n (lv' := [(3, .int (iI 1)), (0, .ref (ad G j 0)), (1, .int (iI co)), (2, .int (iI pl))]) hx hb dX3_reasonAgainst_78 rfl hl (by decide) rfl (fun ls hl => ?_)
            refine lv_iload_n hx hb dX3_reasonAgainst_79 rfl (lv_at hl 0 rfl) ?_
            refine r_if_eq (tgt := 87) hx hb ⟨by omega, by omega⟩ dX3_reasonAgainst_80 (by decide) (fun q => absurd q (by decide)) (fun _ => ?_)
            refine r_iconst hx hb dX3_reasonAgainst_83 ?_
            refine lv_goto (tgt := 88) hx hb dX3_reasonAgainst_84 (by decide) ?_
            exact r_iret C0 hW ⟨by omega, by omega⟩ (⟨by unfold rsn; first | exact Or.inl ⟨rfl, by assumption⟩ | exact Or.inr (Or.inl ⟨rfl, by assumption, by omega⟩) | (refine Or.inr (Or.inr ⟨by assumption, by omega, by omega, ?_⟩); first | exact Or.inl ⟨rfl, by omega⟩ | (refine Or.inr ⟨by omega, ?_⟩; first | exact Or.inl ⟨rfl, Or.inl (by assumption)⟩ | exact Or.inl ⟨rfl, Or.inr (Or.inl (by assumption))⟩ | exact Or.inl ⟨rfl, Or.inr (Or.inr (by assumption))⟩ | exact Or.inr ⟨rfl, by assumption, by assumption, by assumption⟩)), rfl⟩) dX3_reasonAgainst_88
          · subst e7
            refine r_if_ne (tgt := 73) hx hb ⟨by omega, by omega⟩ dX3_reasonAgainst_48 (by decide) (fun q => absurd q (by decide)) (fun _ => ?_)
            refine lv_aload_n hx hb dX3_reasonAgainst_51 rfl (lv_at hl 0 rfl) ?_
            refine lv_iload_n hx hb dX3_reasonAgainst_52 rfl (lv_at hl 1 rfl) ?_
            refine lv_iload_n hx hb dX3_reasonAgainst_53 rfl (lv_at hl 2 rfl) ?_
            refine r_iconst hx hb dX3_reasonAgainst_54 ?_
            refine r_isub hx hb dX3_reasonAgainst_55 ?_
            refine k_Vi (j := j) (k0 := 0) C0 hW (c_X3_hasRight l G w hj hwf co (pl - 1) rco ⟨by omega, by omega⟩) km_X3_85 ki_X3_hasRight ke_X3_hasRight kn_X3 kc_X3_hasRight rfl hdV_X3_hasRight ⟨by decide, by decide⟩ (ms_lt hj 0 (by decide)) (ceX_m hj G 0 _ _) rfl rfl hl.1 rfl (Nat.le_of_ble_eq_true rfl) dX3_reasonAgainst_56 (fun z8 w8 H1 locs1 rz8 hp8 hW => ?_)
            obtain ⟨hp8, hq8⟩ := hp8
            subst hq8
            have rz8a := rz8.1
            have rz8b := rz8.2
            rcases hp8 with ⟨e8, hp8⟩ | ⟨e8, hp8⟩
            · subst e8
              refine r_if_ne (tgt := 73) hx hb ⟨by omega, by omega⟩ dX3_reasonAgainst_59 (by decide) (fun _ => ?_) (fun q => absurd q (by decide))
              refine r_iconst hx hb dX3_reasonAgainst_73 ?_
              refine lv_goto (tgt := 78) hx hb dX3_reasonAgainst_74 (by decide) ?_
              refine lv_istore_n (lv' := [(3, .int (iI 1)), (0, .ref (ad G j 0)), (1, .int (iI co)), (2, .int (iI pl))]) hx hb dX3_reasonAgainst_78 rfl hl (by decide) rfl (fun ls hl => ?_)
              refine lv_iload_n hx hb dX3_reasonAgainst_79 rfl (lv_at hl 0 rfl) ?_
              refine r_if_eq (tgt := 87) hx hb ⟨by omega, by omega⟩ dX3_reasonAgainst_80 (by decide) (fun q => absurd q (by decide)) (fun _ => ?_)
              refine r_iconst hx hb dX3_reasonAgainst_83 ?_
              refine lv_goto (tgt := 88) hx hb dX3_reasonAgainst_84 (by decide) ?_
              exact r_iret C0 hW ⟨by omega, by omega⟩ (⟨by unfold rsn; first | exact Or.inl ⟨rfl, by assumption⟩ | exact Or.inr (Or.inl ⟨rfl, by assumption, by omega⟩) | (refine Or.inr (Or.inr ⟨by assumption, by omega, by omega, ?_⟩); first | exact Or.inl ⟨rfl, by omega⟩ | (refine Or.inr ⟨by omega, ?_⟩; first | exact Or.inl ⟨rfl, Or.inl (by assumption)⟩ | exact Or.inl ⟨rfl, Or.inr (Or.inl (by assumption))⟩ | exact Or.inl ⟨rfl, Or.inr (Or.inr (by assumption))⟩ | exact Or.inr ⟨rfl, by assumption, by assumption, by assumption⟩)), rfl⟩) dX3_reasonAgainst_88
            · subst e8
              refine r_if_ne (tgt := 73) hx hb ⟨by omega, by omega⟩ dX3_reasonAgainst_59 (by decide) (fun q => absurd q (by decide)) (fun _ => ?_)
              refine lv_aload_n hx hb dX3_reasonAgainst_62 rfl (lv_at hl 0 rfl) ?_
              refine lv_iload_n hx hb dX3_reasonAgainst_63 rfl (lv_at hl 1 rfl) ?_
              refine lv_iload_n hx hb dX3_reasonAgainst_64 rfl (lv_at hl 2 rfl) ?_
              refine r_iconst hx hb dX3_reasonAgainst_65 ?_
              refine r_iadd hx hb dX3_reasonAgainst_66 ?_
              refine k_Vi (j := j) (k0 := 0) C0 hW (c_X3_hasRight l G w hj hwf co (pl + 1) rco ⟨by omega, by omega⟩) km_X3_85 ki_X3_hasRight ke_X3_hasRight kn_X3 kc_X3_hasRight rfl hdV_X3_hasRight ⟨by decide, by decide⟩ (ms_lt hj 0 (by decide)) (ceX_m hj G 0 _ _) rfl rfl hl.1 rfl (Nat.le_of_ble_eq_true rfl) dX3_reasonAgainst_67 (fun z9 w9 H1 locs1 rz9 hp9 hW => ?_)
              obtain ⟨hp9, hq9⟩ := hp9
              subst hq9
              have rz9a := rz9.1
              have rz9b := rz9.2
              rcases hp9 with ⟨e9, hp9⟩ | ⟨e9, hp9⟩
              · subst e9
                refine r_if_eq (tgt := 77) hx hb ⟨by omega, by omega⟩ dX3_reasonAgainst_70 (by decide) (fun q => absurd q (by decide)) (fun _ => ?_)
                refine r_iconst hx hb dX3_reasonAgainst_73 ?_
                refine lv_goto (tgt := 78) hx hb dX3_reasonAgainst_74 (by decide) ?_
                refine lv_istore_n (lv' := [(3, .int (iI 1)), (0, .ref (ad G j 0)), (1, .int (iI co)), (2, .int (iI pl))]) hx hb dX3_reasonAgainst_78 rfl hl (by decide) rfl (fun ls hl => ?_)
                refine lv_iload_n hx hb dX3_reasonAgainst_79 rfl (lv_at hl 0 rfl) ?_
                refine r_if_eq (tgt := 87) hx hb ⟨by omega, by omega⟩ dX3_reasonAgainst_80 (by decide) (fun q => absurd q (by decide)) (fun _ => ?_)
                refine r_iconst hx hb dX3_reasonAgainst_83 ?_
                refine lv_goto (tgt := 88) hx hb dX3_reasonAgainst_84 (by decide) ?_
                exact r_iret C0 hW ⟨by omega, by omega⟩ (⟨by unfold rsn; first | exact Or.inl ⟨rfl, by assumption⟩ | exact Or.inr (Or.inl ⟨rfl, by assumption, by omega⟩) | (refine Or.inr (Or.inr ⟨by assumption, by omega, by omega, ?_⟩); first | exact Or.inl ⟨rfl, by omega⟩ | (refine Or.inr ⟨by omega, ?_⟩; first | exact Or.inl ⟨rfl, Or.inl (by assumption)⟩ | exact Or.inl ⟨rfl, Or.inr (Or.inl (by assumption))⟩ | exact Or.inl ⟨rfl, Or.inr (Or.inr (by assumption))⟩ | exact Or.inr ⟨rfl, by assumption, by assumption, by assumption⟩)), rfl⟩) dX3_reasonAgainst_88
              · subst e9
                refine r_if_eq (tgt := 77) hx hb ⟨by omega, by omega⟩ dX3_reasonAgainst_70 (by decide) (fun _ => ?_) (fun q => absurd q (by decide))
                refine r_iconst hx hb dX3_reasonAgainst_77 ?_
                refine lv_istore_n (lv' := [(3, .int (iI 0)), (0, .ref (ad G j 0)), (1, .int (iI co)), (2, .int (iI pl))]) hx hb dX3_reasonAgainst_78 rfl hl (by decide) rfl (fun ls hl => ?_)
                refine lv_iload_n hx hb dX3_reasonAgainst_79 rfl (lv_at hl 0 rfl) ?_
                refine r_if_eq (tgt := 87) hx hb ⟨by omega, by omega⟩ dX3_reasonAgainst_80 (by decide) (fun _ => ?_) (fun q => absurd q (by decide))
                refine r_iconst hx hb dX3_reasonAgainst_87 ?_
                exact r_iret C0 hW ⟨by omega, by omega⟩ (⟨by unfold rsn; first | exact Or.inl ⟨rfl, by assumption⟩ | exact Or.inr (Or.inl ⟨rfl, by assumption, by omega⟩) | (refine Or.inr (Or.inr ⟨by assumption, by omega, by omega, ?_⟩); first | exact Or.inl ⟨rfl, by omega⟩ | (refine Or.inr ⟨by omega, ?_⟩; first | exact Or.inl ⟨rfl, Or.inl (by assumption)⟩ | exact Or.inl ⟨rfl, Or.inr (Or.inl (by assumption))⟩ | exact Or.inl ⟨rfl, Or.inr (Or.inr (by assumption))⟩ | exact Or.inr ⟨rfl, by assumption, by assumption, by assumption⟩)), rfl⟩) dX3_reasonAgainst_88
        · refine r_iconst hx hb dX3_reasonAgainst_40 ?_
          exact r_iret C0 hW ⟨by omega, by omega⟩ (⟨by unfold rsn; first | exact Or.inl ⟨rfl, by assumption⟩ | exact Or.inr (Or.inl ⟨rfl, by assumption, by omega⟩) | (refine Or.inr (Or.inr ⟨by assumption, by omega, by omega, ?_⟩); first | exact Or.inl ⟨rfl, by omega⟩ | (refine Or.inr ⟨by omega, ?_⟩; first | exact Or.inl ⟨rfl, Or.inl (by assumption)⟩ | exact Or.inl ⟨rfl, Or.inr (Or.inl (by assumption))⟩ | exact Or.inl ⟨rfl, Or.inr (Or.inr (by assumption))⟩ | exact Or.inr ⟨rfl, by assumption, by assumption, by assumption⟩)), rfl⟩) dX3_reasonAgainst_41
      · refine r_iconst hx hb dX3_reasonAgainst_26 ?_
        exact r_iret C0 hW ⟨by omega, by omega⟩ (⟨by unfold rsn; first | exact Or.inl ⟨rfl, by assumption⟩ | exact Or.inr (Or.inl ⟨rfl, by assumption, by omega⟩) | (refine Or.inr (Or.inr ⟨by assumption, by omega, by omega, ?_⟩); first | exact Or.inl ⟨rfl, by omega⟩ | (refine Or.inr ⟨by omega, ?_⟩; first | exact Or.inl ⟨rfl, Or.inl (by assumption)⟩ | exact Or.inl ⟨rfl, Or.inr (Or.inl (by assumption))⟩ | exact Or.inl ⟨rfl, Or.inr (Or.inr (by assumption))⟩ | exact Or.inr ⟨rfl, by assumption, by assumption, by assumption⟩)), rfl⟩) dX3_reasonAgainst_27
    · subst e2
      refine r_if_eq (tgt := 26) hx hb ⟨by omega, by omega⟩ dX3_reasonAgainst_14 (by decide) (fun _ => ?_) (fun q => absurd q (by decide))
      refine r_iconst hx hb dX3_reasonAgainst_26 ?_
      exact r_iret C0 hW ⟨by omega, by omega⟩ (⟨by unfold rsn; first | exact Or.inl ⟨rfl, by assumption⟩ | exact Or.inr (Or.inl ⟨rfl, by assumption, by omega⟩) | (refine Or.inr (Or.inr ⟨by assumption, by omega, by omega, ?_⟩); first | exact Or.inl ⟨rfl, by omega⟩ | (refine Or.inr ⟨by omega, ?_⟩; first | exact Or.inl ⟨rfl, Or.inl (by assumption)⟩ | exact Or.inl ⟨rfl, Or.inr (Or.inl (by assumption))⟩ | exact Or.inl ⟨rfl, Or.inr (Or.inr (by assumption))⟩ | exact Or.inr ⟨rfl, by assumption, by assumption, by assumption⟩)), rfl⟩) dX3_reasonAgainst_27
  · subst e1
    refine r_if_ne (tgt := 10) hx hb ⟨by omega, by omega⟩ dX3_reasonAgainst_5 (by decide) (fun q => absurd q (by decide)) (fun _ => ?_)
    refine r_iconst hx hb dX3_reasonAgainst_8 ?_
    exact r_iret C0 hW ⟨by omega, by omega⟩ (⟨by unfold rsn; first | exact Or.inl ⟨rfl, by assumption⟩ | exact Or.inr (Or.inl ⟨rfl, by assumption, by omega⟩) | (refine Or.inr (Or.inr ⟨by assumption, by omega, by omega, ?_⟩); first | exact Or.inl ⟨rfl, by omega⟩ | (refine Or.inr ⟨by omega, ?_⟩; first | exact Or.inl ⟨rfl, Or.inl (by assumption)⟩ | exact Or.inl ⟨rfl, Or.inr (Or.inl (by assumption))⟩ | exact Or.inl ⟨rfl, Or.inr (Or.inr (by assumption))⟩ | exact Or.inr ⟨rfl, by assumption, by assumption, by assumption⟩)), rfl⟩) dX3_reasonAgainst_9

/-- X3_takeLayer: its end -/
def po_X3_takeLayer (w : gW) (j : Nat) (co : Int) (pl : Int) : Int → gW → Prop := fun z w1 => z = gN (w j) 7 6 ∧ w1 = up w j (takM (w j) co pl)
theorem hdV_X3_takeLayer : yX3_takeLayer.cls = RX3 ∧ yX3_takeLayer.cls ≠ "java/lang/invoke/MethodHandle" ∧ yX3_takeLayer.cls ≠ "java/lang/invoke/VarHandle" ∧ (parseMethodDescriptor yX3_takeLayer.desc).map (fun d => d.parameters.length) = some 2 := by decide +kernel
set_option maxHeartbeats 4000000 in
set_option maxRecDepth 100000 in
theorem c_X3_takeLayer (l : Launch) (G : gG) (w : gW) {j : Nat} (hj : ms j) (hwf : wf (w j)) (co : Int) (pl : Int) (rco : inR co) (rpl : inR pl) (hco : 0 ≤ co ∧ co ≤ 9) (hpl : 0 ≤ pl ∧ pl ≤ 19) (hn9 : gN (w j) 7 6 < 120) : mI l G yX3_takeLayer (wU yX3_takeLayer cX3_takeLayer 4 (some .int)) (rmL 2 43) [.ref (ad G j 0), .int (iI co), .int (iI pl)] w (po_X3_takeLayer w j co pl) := by
  refine mI_of (by decide +kernel) (Nat.le_of_ble_eq_true rfl) (fun p e s m args below meth c ls C0 hW hl => ?_)
  have hl : lv_has ls 4 [(0, .ref (ad G j 0)), (1, .int (iI co)), (2, .int (iI pl))] := hl
  have hx := C0.hx
  have hb := C0.hb
  obtain ⟨⟨hs1, hs2⟩, ⟨hd1, hd2, hd3⟩, -, -, -, -, ⟨hr1, hr2⟩, ⟨hc1, hc2⟩, hds⟩ := id hwf
  refine lv_iload_n hx hb dX3_takeLayer_0 rfl (lv_at hl 1 rfl) ?_
  refine k_Ni (own := "") C0 hW (As := [.int (iI co)]) (c_X5_isCommoner l G w co rco) C0.nst.2.2.2.2.1 ks_X5_isCommoner kn_X5 kc_X5_isCommoner hdS_X5_isCommoner ⟨by decide, by decide⟩ rfl hl.1 rfl (Nat.le_of_ble_eq_true rfl) dX3_takeLayer_1 (fun z1 w1 H1 locs1 rz1 hp1 hW => ?_)
  obtain ⟨hp1, hq1⟩ := hp1
  subst hq1
  have rz1a := rz1.1
  have rz1b := rz1.2
  rcases hp1 with ⟨e1, hp1⟩ | ⟨e1, hp1⟩
  · subst e1
    refine r_if_eq (tgt := 14) hx hb ⟨by omega, by omega⟩ dX3_takeLayer_4 (by decide) (fun q => absurd q (by decide)) (fun _ => ?_)
    refine lv_iload_n hx hb dX3_takeLayer_7 rfl (lv_at hl 2 rfl) ?_
    refine k_Ni (own := "") C0 hW (As := [.int (iI pl)]) (c_X5_isPlot l G w pl rpl) C0.nst.2.2.2.2.2.1 ks_X5_isPlot kn_X5 kc_X5_isPlot hdS_X5_isPlot ⟨by decide, by decide⟩ rfl hl.1 rfl (Nat.le_of_ble_eq_true rfl) dX3_takeLayer_8 (fun z2 w2 H1 locs1 rz2 hp2 hW => ?_)
    obtain ⟨hp2, hq2⟩ := hp2
    subst hq2
    have rz2a := rz2.1
    have rz2b := rz2.2
    rcases hp2 with ⟨e2, hp2⟩ | ⟨e2, hp2⟩
    · subst e2
      refine r_if_ne (tgt := 16) hx hb ⟨by omega, by omega⟩ dX3_takeLayer_11 (by decide) (fun _ => ?_) (fun q => absurd q (by decide))
      refine lv_aload_n hx hb dX3_takeLayer_16 rfl (lv_at hl 0 rfl) ?_
      refine r_gR C0 hW (ms_lt hj 0 (by decide)) (ceX_m hj G 0 _ _) rfl hiX3 (k := 0) (by decide) kf_X3_9 rfl rfl rfl dX3_takeLayer_17 ?_
      refine lv_iload_n hx hb dX3_takeLayer_20 rfl (lv_at hl 2 rfl) ?_
      refine lv_dup2_11 hx hb dX3_takeLayer_21 rfl rfl ?_
      refine r_ild C0 hW (ms_lt hj 1 (by decide)) (ceX_m hj G 1 _ _) (n := 20) (by omega) (by omega) (by omega) dX3_takeLayer_22 (fun z3 (hz3 : z3 = gA (w j) 1 pl) rz3 => ?_)
      have rz3a := rz3.1
      have rz3b := rz3.2
      refine r_iconst hx hb dX3_takeLayer_23 ?_
      refine r_isub hx hb dX3_takeLayer_24 ?_
      refine r_ist C0 hW (ms_lt hj 1 (by decide)) (fun A => (ceX_m hj G 1 _ _)) (n := 20) (v := iI (z3 - 1)) (by omega) (by omega) (by decide) dX3_takeLayer_25 (fun H1 locs1 hW => ?_)
      obtain ⟨w4, hw4⟩ : ∃ q : gW, q = up w j (sA (w j) 1 pl (iI (z3 - 1))) := ⟨_, rfl⟩
      rw [← hw4] at hW
      refine lv_aload_n hx hb dX3_takeLayer_26 rfl (lv_at hl 0 rfl) ?_
      refine r_gR C0 hW (ms_lt hj 0 (by decide)) (ceX_m hj G 0 _ _) rfl hiX3 (k := 4) (by decide) kf_X3_24 rfl rfl rfl dX3_takeLayer_27 ?_
      refine lv_iload_n hx hb dX3_takeLayer_30 rfl (lv_at hl 1 rfl) ?_
      refine lv_dup2_11 hx hb dX3_takeLayer_31 rfl rfl ?_
      refine r_ild C0 hW (ms_lt hj 5 (by decide)) (ceX_m hj G 5 _ _) (n := 10) (by omega) (by omega) (by omega) dX3_takeLayer_32 (fun z5 (hz5 : z5 = gA (w4 j) 5 co) rz5 => ?_)
      have rz5a := rz5.1
      have rz5b := rz5.2
      try simp (decide := true) only [hw4, up_s, gA_sF, gN_sF, gA_sA, gN_sA, gA_sS, gN_sS, if_true, if_false, true_and, and_true, false_and, and_false, layM] at hz5
      refine r_iconst hx hb dX3_takeLayer_33 ?_
      refine r_iadd hx hb dX3_takeLayer_34 ?_
      refine r_ist C0 hW (ms_lt hj 5 (by decide)) (fun A => (ceX_m hj G 5 _ _)) (n := 10) (v := iI (z5 + 1)) (by omega) (by omega) (by decide) dX3_takeLayer_35 (fun H1 locs1 hW => ?_)
      obtain ⟨w6, hw6⟩ : ∃ q : gW, q = up w4 j (sA (w4 j) 5 co (iI (z5 + 1))) := ⟨_, rfl⟩
      rw [← hw6] at hW
      refine lv_aload_n hx hb dX3_takeLayer_36 rfl (lv_at hl 0 rfl) ?_
      refine r_gR C0 hW (ms_lt hj 0 (by decide)) (ceX_m hj G 0 _ _) rfl hiX3 (k := 6) (by decide) kf_X3_33 rfl rfl rfl dX3_takeLayer_37 ?_
      refine lv_iload_n hx hb dX3_takeLayer_40 rfl (lv_at hl 1 rfl) ?_
      refine lv_iload_n hx hb dX3_takeLayer_41 rfl (lv_at hl 2 rfl) ?_
      refine k_Vi (j := j) (k0 := 7) C0 hW (c_X4_lay l G w6 hj (by simp only [hw6, hw4, up_up, up_s]; exact wf_A hwf rfl rfl rfl rfl rfl rfl rfl rfl rfl) co pl rco rpl (by first | omega | (simp (decide := true) only [hw6, hw4, up_s, gA_sF, gN_sF, gA_sA, gN_sA, gA_sS, gN_sS, if_true, if_false, true_and, and_true, false_and, and_false, layM]; omega))) km_X3_92 ki_X4_lay ke_X4_lay kn_X4 kc_X4_lay rfl hdV_X4_lay ⟨by decide, by decide⟩ (ms_lt hj 7 (by decide)) (ceX_m hj G 7 _ _) rfl rfl hl.1 rfl (Nat.le_of_ble_eq_true rfl) dX3_takeLayer_42 (fun z7 w7 H1 locs1 rz7 hp7 hW => ?_)
      obtain ⟨hp7, hw7⟩ := hp7
      have rz7a := rz7.1
      have rz7b := rz7.2
      have ez7 : z7 = gN (w j) 7 6 := by rw [hp7]; simp (decide := true) only [hw7, hw6, hw4, up_s, gA_sF, gN_sF, gA_sA, gN_sA, gA_sS, gN_sS, if_true, if_false, true_and, and_true, false_and, and_false]
      refine lv_istore_n (lv' := [(3, .int (iI z7)), (0, .ref (ad G j 0)), (1, .int (iI co)), (2, .int (iI pl))]) hx hb dX3_takeLayer_45 rfl hl (by decide) rfl (fun ls hl => ?_)
      refine lv_aload_n hx hb dX3_takeLayer_46 rfl (lv_at hl 1 rfl) ?_
      refine r_gR C0 hW (ms_lt hj 0 (by decide)) (ceX_m hj G 0 _ _) rfl hiX3 (k := 2) (by decide) kf_X3_18 rfl rfl rfl dX3_takeLayer_47 ?_
      refine lv_iload_n hx hb dX3_takeLayer_50 rfl (lv_at hl 3 rfl) ?_
      refine r_ild C0 hW (ms_lt hj 3 (by decide)) (ceX_m hj G 3 _ _) (n := 20) (by omega) (by omega) (by omega) dX3_takeLayer_51 (fun z8 (hz8 : z8 = gA (w7 j) 3 pl) rz8 => ?_)
      have rz8a := rz8.1
      have rz8b := rz8.2
      try simp (decide := true) only [hw7, hw6, hw4, up_s, gA_sF, gN_sF, gA_sA, gN_sA, gA_sS, gN_sS, if_true, if_false, true_and, and_true, false_and, and_false, layM] at hz8
      refine lv_iload_n hx hb dX3_takeLayer_52 rfl (lv_at hl 2 rfl) ?_
      refine r_icmp_eq (tgt := 72) hx hb rz8 rco dX3_takeLayer_53 (by decide) (fun c9 => ?_) (fun c9 => ?_)
      · refine lv_iload_n hx hb dX3_takeLayer_72 rfl (lv_at hl 0 rfl) ?_
        exact r_iret C0 hW rz7 (⟨by first | omega | (simp (decide := true) only [hw7, hw6, hw4, up_s, gA_sF, gN_sF, gA_sA, gN_sA, gA_sS, gN_sS, if_true, if_false, true_and, and_true, false_and, and_false] at *; omega), by first | omega | (unfold takM; rw [if_pos (by omega)]; simp only [hw7, hw6, hw4, up_up, up_s, takM0, hz3, hz5, ez7, hz8]) | (unfold takM; rw [if_neg (by omega)]; simp only [hw7, hw6, hw4, up_up, up_s, takM0, hz3, hz5, ez7, hz8])⟩) dX3_takeLayer_73
      · refine lv_aload_n hx hb dX3_takeLayer_56 rfl (lv_at hl 1 rfl) ?_
        refine r_gR C0 hW (ms_lt hj 0 (by decide)) (ceX_m hj G 0 _ _) rfl hiX3 (k := 7) (by decide) kf_X3_40 rfl rfl rfl dX3_takeLayer_57 ?_
        refine lv_iload_n hx hb dX3_takeLayer_60 rfl (lv_at hl 2 rfl) ?_
        refine lv_aload_n hx hb dX3_takeLayer_61 rfl (lv_at hl 1 rfl) ?_
        refine r_gR C0 hW (ms_lt hj 0 (by decide)) (ceX_m hj G 0 _ _) rfl hiX3 (k := 2) (by decide) kf_X3_18 rfl rfl rfl dX3_takeLayer_62 ?_
        refine lv_iload_n hx hb dX3_takeLayer_65 rfl (lv_at hl 3 rfl) ?_
        refine r_ild C0 hW (ms_lt hj 3 (by decide)) (ceX_m hj G 3 _ _) (n := 20) (by omega) (by omega) (by omega) dX3_takeLayer_66 (fun z10 (hz10 : z10 = gA (w7 j) 3 pl) rz10 => ?_)
        have rz10a := rz10.1
        have rz10b := rz10.2
        try simp (decide := true) only [hw7, hw6, hw4, up_s, gA_sF, gN_sF, gA_sA, gN_sA, gA_sS, gN_sS, if_true, if_false, true_and, and_true, false_and, and_false, layM] at hz10
        refine lv_iload_n hx hb dX3_takeLayer_67 rfl (lv_at hl 0 rfl) ?_
        refine lv_iload_n hx hb dX3_takeLayer_68 rfl (lv_at hl 3 rfl) ?_
        refine k_Vv (j := j) (k0 := 14) C0 hW (c_X1_open l G w7 hj (by simp only [hw7, hw6, hw4, up_up, up_s]; exact wf_lay _ _ (wf_A hwf rfl rfl rfl rfl rfl rfl rfl rfl rfl) hn9) co z10 z7 pl rco rz10 rz7 rpl (by first | omega | (simp (decide := true) only [hw7, hw6, hw4, up_s, gA_sF, gN_sF, gA_sA, gN_sA, gA_sS, gN_sS, if_true, if_false, true_and, and_true, false_and, and_false, layM]; omega))) km_X3_96 ki_X1_open ke_X1_open kn_X1 kc_X1_open rfl hdV_X1_open ⟨by decide, by decide⟩ (ms_lt hj 14 (by decide)) (ceX_m hj G 14 _ _) rfl rfl hl.1 rfl (Nat.le_of_ble_eq_true rfl) dX3_takeLayer_69 (fun w11 H1 locs1 hp11 hW => ?_)
        have hw11 : w11 = _ := hp11
        refine lv_iload_n hx hb dX3_takeLayer_72 rfl (lv_at hl 0 rfl) ?_
        exact r_iret C0 hW rz7 (⟨by first | omega | (simp (decide := true) only [hw11, hw7, hw6, hw4, up_s, gA_sF, gN_sF, gA_sA, gN_sA, gA_sS, gN_sS, if_true, if_false, true_and, and_true, false_and, and_false] at *; omega), by first | omega | (unfold takM; rw [if_pos (by omega)]; simp only [hw11, hw7, hw6, hw4, up_up, up_s, takM0, hz3, hz5, ez7, hz8, hz10]) | (unfold takM; rw [if_neg (by omega)]; simp only [hw11, hw7, hw6, hw4, up_up, up_s, takM0, hz3, hz5, ez7, hz8, hz10])⟩) dX3_takeLayer_73
    · subst e2
      refine r_if_ne (tgt := 16) hx hb ⟨by omega, by omega⟩ dX3_takeLayer_11 (by decide) (fun q => absurd q (by decide)) (fun _ => ?_)
      refine r_iconst hx hb dX3_takeLayer_14 ?_
      exact r_iret C0 hW ⟨by omega, by omega⟩ (⟨by first | omega | (simp (decide := true) only [id, up_s, gA_sF, gN_sF, gA_sA, gN_sA, gA_sS, gN_sS, if_true, if_false, true_and, and_true, false_and, and_false] at *; omega), by first | omega | (unfold takM; rw [if_pos (by omega)]; simp only [id, up_up, up_s, takM0, id]) | (unfold takM; rw [if_neg (by omega)]; simp only [id, up_up, up_s, takM0, id])⟩) dX3_takeLayer_15
  · subst e1
    refine r_if_eq (tgt := 14) hx hb ⟨by omega, by omega⟩ dX3_takeLayer_4 (by decide) (fun _ => ?_) (fun q => absurd q (by decide))
    refine r_iconst hx hb dX3_takeLayer_14 ?_
    exact r_iret C0 hW ⟨by omega, by omega⟩ (⟨by first | omega | (simp (decide := true) only [id, up_s, gA_sF, gN_sF, gA_sA, gN_sA, gA_sS, gN_sS, if_true, if_false, true_and, and_true, false_and, and_false] at *; omega), by first | omega | (unfold takM; rw [if_pos (by omega)]; simp only [id, up_up, up_s, takM0, id]) | (unfold takM; rw [if_neg (by omega)]; simp only [id, up_up, up_s, takM0, id])⟩) dX3_takeLayer_15
end
section
theorem wf_srv {M : gM} (co : Int) (h : wf M) : wf (srvM M co) := wf_tk co _ h
theorem gN_srv (M : gM) (co : Int) {c f : Nat} (h : ¬ (c = 0 ∧ f = 13)) : gN (srvM M co) c f = gN M c f := gN_tk M co _ h
theorem srv_stop {M : gM} {co n : Int} (h0 : 0 ≤ n) (h1 : n ≤ gN M 0 8) (hb : bstI (tk M co n.toNat) co (gN (tk M co n.toNat) 7 6) = -5) : tk M co n.toNat = srvM M co := by
  unfold srvM
  rw [show (gN M 0 8).toNat = n.toNat + ((gN M 0 8).toNat - n.toNat) by omega]
  exact (tk_stop hb _).symm
theorem wf_dyX {M : gM} (wt n : Int) (h : wf M) : wf (dyX M wt n) := wf_dy wt h _
theorem dyX_0 (M : gM) (wt : Int) : dyX M wt 0 = M := rfl
theorem gN_wet1 (M : gM) (wt : Int) (c f : Nat) : gN (wet1 M wt) c f = gN M c f := rfl
/-- the oldest dispute, taken off -/
def stl1 (M : gM) : gM := sS M 14 4 (iI (gN M 14 4 + 1))
noncomputable def stlM (M : gM) : gM := if gN M 0 9 = 0 then usdM (stl1 M) (gA M 15 (gN M 14 4)) else @ite _ (lyi (stl1 M) (gA M 17 (gN M 14 4))) (Classical.propDecidable _) (sA (stl1 M) 8 (gA M 17 (gN M 14 4)) (iI (gA M 16 (gN M 14 4)))) (givM (stl1 M) (gA M 15 (gN M 14 4)) (gA M 16 (gN M 14 4)))
def stlZ (M : gM) : Int := if gN M 0 9 = 0 then 10 else gA M 16 (gN M 14 4)
theorem wf_stl1 {M : gM} (h : wf M) (ho : gN M 14 4 < gN M 14 5) : wf (stl1 M) := by
  obtain ⟨a1, a2, a3, a4, a5, a6, a7, a8, a9⟩ := h
  have e : gN (stl1 M) 14 4 = gN M 14 4 + 1 := iI_t (z := gN M 14 4 + 1) ⟨by omega, by omega⟩
  exact ⟨a1, ⟨by rw [e]; omega, by rw [e]; show _ ≤ gN M 14 5; omega, a2.2.2⟩, a3, a4, a5, a6, a7, a8, a9⟩
theorem wf_usd {M : gM} (co : Int) (h : wf M) : wf (usdM M co) := by
  unfold usdM
  by_cases q : pD M co
  · rw [@if_pos _ (Classical.propDecidable _) q]; exact wf_A h rfl rfl rfl rfl rfl rfl rfl rfl rfl
  · rw [@if_neg _ (Classical.propDecidable _) q]; exact h
theorem wf_giv {M : gM} (a b : Int) (h : wf M) : wf (givM M a b) := by
  unfold givM
  split
  · exact wf_A h rfl rfl rfl rfl rfl rfl rfl rfl rfl
  · exact h
theorem wf_stl {M : gM} (h : wf M) (ho : gN M 14 4 < gN M 14 5) : wf (stlM M) := by
  have h1 := wf_stl1 h ho
  unfold stlM
  split
  · exact wf_usd _ h1
  · by_cases q : lyi (stl1 M) (gA M 17 (gN M 14 4))
    · rw [@if_pos _ (Classical.propDecidable _) q]; exact wf_A h1 rfl rfl rfl rfl rfl rfl rfl rfl rfl
    · rw [@if_neg _ (Classical.propDecidable _) q]; exact wf_giv _ _ h1
/-- a state onto another: what the picture shows -/
def mosC (M N : gM) : gM := sS (sS (sS (sS (sS (sS (disC (rowC (sF (sF (sF (sF (sF (sF M 1 (N.1 1)) 2 (N.1 2)) 3 (N.1 3)) 4 (N.1 4)) 5 (N.1 5)) 6 (N.1 6)) N) N) 0 8 (N.2 0 8)) 0 9 (N.2 0 9)) 0 10 (N.2 0 10)) 0 11 (N.2 0 11)) 0 12 (N.2 0 12)) 0 13 (N.2 0 13)
theorem mosC_eq {G : gG} {j : Nat} (hj : ms j) (M N : gM) : ∀ c, c < bs j → ceX G j c ((mosC M N).1 c) ((mosC M N).2 c) = ceX G j c (N.1 c) (N.2 c) := by
  intro c hc
  have h19 : c < 19 := by rcases hj with rfl | rfl | rfl | rfl | rfl | rfl | rfl <;> exact hc
  rw [ceX_m hj, ceX_m hj]
  match c, h19 with
  | 0, _ => rfl
  | 1, _ => rfl
  | 2, _ => rfl
  | 3, _ => rfl
  | 4, _ => rfl
  | 5, _ => rfl
  | 6, _ => rfl
  | 7, _ => rfl
  | 8, _ => rfl
  | 9, _ => rfl
  | 10, _ => rfl
  | 11, _ => rfl
  | 12, _ => rfl
  | 13, _ => rfl
  | 14, _ => rfl
  | 15, _ => rfl
  | 16, _ => rfl
  | 17, _ => rfl
  | 18, _ => rfl
  | k + 19, h => exact absurd h (by omega)
end
section
/-- X3_serve: its end -/
def po_X3_serve (w : gW) (j : Nat) (co : Int) : gW → Prop := fun w1 => w1 = up w j (srvM (w j) co)
theorem hdV_X3_serve : yX3_serve.cls = RX3 ∧ yX3_serve.cls ≠ "java/lang/invoke/MethodHandle" ∧ yX3_serve.cls ≠ "java/lang/invoke/VarHandle" ∧ (parseMethodDescriptor yX3_serve.desc).map (fun d => d.parameters.length) = some 1 := by decide +kernel
set_option maxHeartbeats 4000000 in
set_option maxRecDepth 100000 in
theorem c_X3_serve (l : Launch) (G : gG) (w : gW) {j : Nat} (hj : ms j) (hwf : wf (w j)) (co : Int) (rco : inR co) (hco : 0 ≤ co ∧ co ≤ 9) : mV l G yX3_serve (wU yX3_serve cX3_serve 4 none) (rmL 3 64) [.ref (ad G j 0), .int (iI co)] w (po_X3_serve w j co) := by
  refine mV_of (by decide +kernel) (Nat.le_of_ble_eq_true rfl) (fun p e s m args below meth c ls C0 hW hl => ?_)
  have hl : lv_has ls 4 [(0, .ref (ad G j 0)), (1, .int (iI co))] := hl
  have hx := C0.hx
  have hb := C0.hb
  obtain ⟨⟨hs1, hs2⟩, ⟨hd1, hd2, hd3⟩, -, -, -, -, ⟨hr1, hr2⟩, ⟨hc1, hc2⟩, hds⟩ := id hwf
  refine r_iconst hx hb dX3_serve_0 ?_
  refine lv_istore_n (lv' := [(2, .int (iI 0)), (0, .ref (ad G j 0)), (1, .int (iI co))]) hx hb dX3_serve_1 rfl hl (by decide) rfl (fun ls hl => ?_)
  have hL2 : ∀ (n : Nat) (x2 : Int) (wv : gW) (hwv : wv = up w j (tk (w j) co x2.toNat)) (H0 : Heap) (locs0 : List Loc) (ls : Array Slot) (hm : gN (w j) 0 8 - x2 < (n : Int)) (i2_0 : 0 ≤ x2) (i2_1 : x2 ≤ gN (w j) 0 8) (hW : wo G wv s H0 locs0) (hl : lv_has ls 4 [(2, .int (iI x2)), (0, .ref (ad G j 0)), (1, .int (iI co))]), W p l e (rmL 3 64) s m args below meth c H0 locs0 0 0 (QV G (po_X3_serve w j co) below args s) (F0 m 2 ls []) := by
    intro n
    induction n with
    | zero =>
      intro x2 wv hwv H0 locs0 ls hm i2_0 i2_1 hW hl
      exact absurd hm (by omega)
    | succ n ih2 =>
      intro x2 wv hwv H0 locs0 ls hm i2_0 i2_1 hW hl
      have hwv2 : wf (wv j) := by rw [hwv, up_s]; exact wf_tk co _ hwf
      have hv1 := hwv2.1.2
      refine lv_iload_n hx hb dX3_serve_2 rfl (lv_at hl 0 rfl) ?_
      refine lv_aload_n hx hb dX3_serve_3 rfl (lv_at hl 1 rfl) ?_
      refine r_gI C0 hW (ms_lt hj 0 (by decide)) (ceX_m hj G 0 _ _) rfl hiX3 (k := 8) (by decide) kf_X3_44 rfl rfl rfl dX3_serve_4 (fun z1 (hz1 : z1 = gN (wv j) 0 8) rz1 => ?_)
      have rz1a := rz1.1
      have rz1b := rz1.2
      try simp (decide := true) only [hwv, up_s, gA_sF, gN_sF, gA_sA, gN_sA, gA_sS, gN_sS, if_true, if_false, true_and, and_true, false_and, and_false, gN_tk] at hz1
      refine r_icmp_ge (tgt := 81) hx hb ⟨by omega, by omega⟩ rz1 dX3_serve_7 (by decide) (fun c2 => ?_) (fun c2 => ?_)
      · exact r_vret C0 hW (by unfold po_X3_serve srvM; rw [hwv, show gN (w j) 0 8 = x2 from by omega]) dX3_serve_81
      · refine lv_aload_n hx hb dX3_serve_10 rfl (lv_at hl 1 rfl) ?_
        refine r_gR C0 hW (ms_lt hj 0 (by decide)) (ceX_m hj G 0 _ _) rfl hiX3 (k := 6) (by decide) kf_X3_33 rfl rfl rfl dX3_serve_11 ?_
        refine lv_iload_n hx hb dX3_serve_14 rfl (lv_at hl 2 rfl) ?_
        refine k_Vi (j := j) (k0 := 7) C0 hW (c_X4_driestStackedOf l G wv hj (by exact hwv2) co rco) km_X3_111 ki_X4_driestStackedOf ke_X4_driestStackedOf kn_X4 kc_X4_driestStackedOf rfl hdV_X4_driestStackedOf ⟨by decide, by decide⟩ (ms_lt hj 7 (by decide)) (ceX_m hj G 7 _ _) rfl rfl hl.1 rfl (Nat.le_of_ble_eq_true rfl) dX3_serve_15 (fun z3 w3 H1 locs1 rz3 hp3 hW => ?_)
        obtain ⟨hp3, hq3⟩ := hp3
        subst hq3
        have rz3a := rz3.1
        have rz3b := rz3.2
        have pQl : z3 = -5 ∨ lyi (wv j) z3 := by rw [hp3]; exact pQ_lyi (hwv2.1.1)
        have e15 : z3 = bstI (tk (w j) co x2.toNat) co (gN (tk (w j) co x2.toNat) 7 6) := by rw [hp3, hwv, up_s]
        refine lv_istore_n (lv' := [(3, .int (iI z3)), (2, .int (iI x2)), (0, .ref (ad G j 0)), (1, .int (iI co))]) hx hb dX3_serve_18 rfl hl (by decide) rfl (fun ls hl => ?_)
        refine lv_iload_n hx hb dX3_serve_19 rfl (lv_at hl 3 rfl) ?_
        refine k_Ni (own := "") C0 hW (As := [.int (iI co)]) (c_X5_isCommoner l G wv co rco) C0.nst.2.2.2.2.1 ks_X5_isCommoner kn_X5 kc_X5_isCommoner hdS_X5_isCommoner ⟨by decide, by decide⟩ rfl hl.1 rfl (Nat.le_of_ble_eq_true rfl) dX3_serve_20 (fun z4 w4 H1 locs1 rz4 hp4 hW => ?_)
        obtain ⟨hp4, hq4⟩ := hp4
        subst hq4
        have rz4a := rz4.1
        have rz4b := rz4.2
        rcases hp4 with ⟨e4, hp4⟩ | ⟨e4, hp4⟩
        · subst e4
          refine r_if_eq (tgt := 37) hx hb ⟨by omega, by omega⟩ dX3_serve_23 (by decide) (fun q => absurd q (by decide)) (fun _ => ?_)
          refine lv_aload_n hx hb dX3_serve_26 rfl (lv_at hl 2 rfl) ?_
          refine r_gR C0 hW (ms_lt hj 0 (by decide)) (ceX_m hj G 0 _ _) rfl hiX3 (k := 6) (by decide) kf_X3_33 rfl rfl rfl dX3_serve_27 ?_
          refine lv_iload_n hx hb dX3_serve_30 rfl (lv_at hl 0 rfl) ?_
          refine k_Vi (j := j) (k0 := 7) C0 hW (c_X4_isLying l G wv hj (by exact hwv2) z3 rz3) km_X3_114 ki_X4_isLying ke_X4_isLying kn_X4 kc_X4_isLying rfl hdV_X4_isLying ⟨by decide, by decide⟩ (ms_lt hj 7 (by decide)) (ceX_m hj G 7 _ _) rfl rfl hl.1 rfl (Nat.le_of_ble_eq_true rfl) dX3_serve_31 (fun z5 w5 H1 locs1 rz5 hp5 hW => ?_)
          obtain ⟨hp5, hq5⟩ := hp5
          subst hq5
          have rz5a := rz5.1
          have rz5b := rz5.2
          rcases hp5 with ⟨e5, hp5⟩ | ⟨e5, hp5⟩
          · subst e5
            obtain ⟨hp51, hp52, hp53⟩ := id hp5
            refine r_if_ne (tgt := 38) hx hb ⟨by omega, by omega⟩ dX3_serve_34 (by decide) (fun _ => ?_) (fun q => absurd q (by decide))
            refine lv_aload_n hx hb dX3_serve_38 rfl (lv_at hl 2 rfl) ?_
            refine r_gR C0 hW (ms_lt hj 0 (by decide)) (ceX_m hj G 0 _ _) rfl hiX3 (k := 5) (by decide) kf_X3_27 rfl rfl rfl dX3_serve_39 ?_
            refine lv_iload_n hx hb dX3_serve_42 rfl (lv_at hl 3 rfl) ?_
            refine lv_dup2_11 hx hb dX3_serve_43 rfl rfl ?_
            refine r_ild C0 hW (ms_lt hj 6 (by decide)) (ceX_m hj G 6 _ _) (n := 10) (by omega) (by omega) (by omega) dX3_serve_44 (fun z6 (hz6 : z6 = gA (wv j) 6 co) rz6 => ?_)
            have rz6a := rz6.1
            have rz6b := rz6.2
            try simp (decide := true) only [hwv, up_s, gA_sF, gN_sF, gA_sA, gN_sA, gA_sS, gN_sS, if_true, if_false, true_and, and_true, false_and, and_false, gN_tk] at hz6
            refine lv_aload_n hx hb dX3_serve_45 rfl (lv_at hl 2 rfl) ?_
            refine r_gR C0 hW (ms_lt hj 0 (by decide)) (ceX_m hj G 0 _ _) rfl hiX3 (k := 6) (by decide) kf_X3_33 rfl rfl rfl dX3_serve_46 ?_
            refine lv_iload_n hx hb dX3_serve_49 rfl (lv_at hl 0 rfl) ?_
            refine k_Vi (j := j) (k0 := 7) C0 hW (c_X4_peatsAtHearth l G wv hj (by exact hwv2) z3 rz3) km_X3_117 ki_X4_peatsAtHearth ke_X4_peatsAtHearth kn_X4 kc_X4_peatsAtHearth rfl hdV_X4_peatsAtHearth ⟨by decide, by decide⟩ (ms_lt hj 7 (by decide)) (ceX_m hj G 7 _ _) rfl rfl hl.1 rfl (Nat.le_of_ble_eq_true rfl) dX3_serve_50 (fun z7 w7 H1 locs1 rz7 hp7 hW => ?_)
            obtain ⟨hp7, hq7⟩ := hp7
            subst hq7
            have rz7a := rz7.1
            have rz7b := rz7.2
            have e50 : z7 = max 0 (40 - gA (tk (w j) co x2.toNat) 10 z3) := by
              rcases hp7 with ⟨-, q⟩ | ⟨q, -⟩
              · rw [q, hwv, up_s]
              · exact absurd hp5 q
            refine r_iadd hx hb dX3_serve_53 ?_
            refine r_ist C0 hW (ms_lt hj 6 (by decide)) (fun A => (ceX_m hj G 6 _ _)) (n := 10) (v := iI (z6 + z7)) (by omega) (by omega) (by decide) dX3_serve_54 (fun H1 locs1 hW => ?_)
            obtain ⟨w8, hw8⟩ : ∃ q : gW, q = up wv j (sA (wv j) 6 co (iI (z6 + z7))) := ⟨_, rfl⟩
            rw [← hw8] at hW
            refine lv_aload_n hx hb dX3_serve_55 rfl (lv_at hl 2 rfl) ?_
            refine r_gR C0 hW (ms_lt hj 0 (by decide)) (ceX_m hj G 0 _ _) rfl hiX3 (k := 6) (by decide) kf_X3_33 rfl rfl rfl dX3_serve_56 ?_
            refine r_gR C0 hW (ms_lt hj 7 (by decide)) (ceX_m hj G 7 _ _) rfl hiX4 (k := 5) (by decide) kf_X3_120 rfl rfl rfl dX3_serve_59 ?_
            refine lv_iload_n hx hb dX3_serve_62 rfl (lv_at hl 0 rfl) ?_
            refine r_iconst hx hb dX3_serve_63 ?_
            refine r_zst C0 hW (ms_lt hj 13 (by decide)) (fun A => (ceX_m hj G 13 _ _)) (n := 120) (v := iI 0) (iI_narz (by first | exact Or.inl rfl | exact Or.inr rfl | omega)) (by omega) (by omega) (by decide) dX3_serve_64 (fun H1 locs1 hW => ?_)
            obtain ⟨w9, hw9⟩ : ∃ q : gW, q = up w8 j (sA (w8 j) 13 z3 (iI 0)) := ⟨_, rfl⟩
            rw [← hw9] at hW
            refine lv_aload_n hx hb dX3_serve_65 rfl (lv_at hl 2 rfl) ?_
            refine lv_dup hx hb dX3_serve_66 rfl ?_
            refine r_gI C0 hW (ms_lt hj 0 (by decide)) (ceX_m hj G 0 _ _) rfl hiX3 (k := 13) (by decide) kf_X3_71 rfl rfl rfl dX3_serve_67 (fun z10 (hz10 : z10 = gN (w9 j) 0 13) rz10 => ?_)
            have rz10a := rz10.1
            have rz10b := rz10.2
            try simp (decide := true) only [hw9, hw8, hwv, up_s, gA_sF, gN_sF, gA_sA, gN_sA, gA_sS, gN_sS, if_true, if_false, true_and, and_true, false_and, and_false, gN_tk] at hz10
            refine r_iconst hx hb dX3_serve_70 ?_
            refine r_iadd hx hb dX3_serve_71 ?_
            refine r_pI C0 hW (ms_lt hj 0 (by decide)) (ceX_m hj G 0 _ _) rfl hiX3 tyX3 tyX3_ok nmX3 (k := 13) (v := iI (z10 + 1)) (by decide) kf_X3_71 rfl rfl rfl (tyX3_ok 13 (by decide)) rfl rfl (by simp) (ceX_m hj G 0 _ _) dX3_serve_72 (fun H1 locs1 hW => ?_)
            obtain ⟨w11, hw11⟩ : ∃ q : gW, q = up w9 j (sS (w9 j) 0 13 (iI (z10 + 1))) := ⟨_, rfl⟩
            rw [← hw11] at hW
            refine r_iinc (lv' := [(2, .int (iI (x2 + 1))), (3, .int (iI z3)), (0, .ref (ad G j 0)), (1, .int (iI co))]) hx hb dX3_serve_75 hl (k := 1) rfl (by decide) rfl (fun ls hl => ?_)
            refine lv_goto (tgt := 2) hx hb dX3_serve_78 (by decide) ?_
            exact ih2 (x2 + 1) _ (by simp only [hw11, hw9, hw8, hwv, up_up, up_s]; rw [toNat_s (by omega), tk_s, if_neg (by rw [← e15]; omega), ← e15]; unfold tak1; simp only [hz1, hz6, hz10, e50]) _ _ ls (by omega) (by omega) (by omega) hW (lv_sub hl [0, 2, 3] rfl)
          · subst e5
            refine r_if_ne (tgt := 38) hx hb ⟨by omega, by omega⟩ dX3_serve_34 (by decide) (fun q => absurd q (by decide)) (fun _ => ?_)
            exact r_vret C0 hW (by unfold po_X3_serve; rw [hwv, srv_stop (by omega) (by omega) (by rw [← e15]; exact pQl.resolve_right hp5)]) dX3_serve_37
        · subst e4
          refine r_if_eq (tgt := 37) hx hb ⟨by omega, by omega⟩ dX3_serve_23 (by decide) (fun _ => ?_) (fun q => absurd q (by decide))
          exact r_vret C0 hW (by exact absurd hco hp4) dX3_serve_37
  exact hL2 121 0 _ (by rw [show (0 : Int).toNat = 0 from rfl]; exact (up_id w j).symm) _ _ ls (by omega) (by omega) (by omega) hW (lv_sub hl [0, 1, 2] rfl)

/-- X3_passDays: its end -/
def po_X3_passDays (w : gW) (j : Nat) (nd : Int) (wt : Int) : Int → gW → Prop := fun z w1 => iI z = iI (gN (dyX (w j) wt nd) 0 13 - gN (w j) 0 13) ∧ w1 = up w j (dyX (w j) wt nd)
theorem hdV_X3_passDays : yX3_passDays.cls = RX3 ∧ yX3_passDays.cls ≠ "java/lang/invoke/MethodHandle" ∧ yX3_passDays.cls ≠ "java/lang/invoke/VarHandle" ∧ (parseMethodDescriptor yX3_passDays.desc).map (fun d => d.parameters.length) = some 2 := by decide +kernel
set_option maxHeartbeats 4000000 in
set_option maxRecDepth 100000 in
theorem c_X3_passDays (l : Launch) (G : gG) (w : gW) {j : Nat} (hj : ms j) (hwf : wf (w j)) (nd : Int) (wt : Int) (rnd : inR nd) (rwt : inR wt) (hnd : 0 ≤ nd ∧ nd ≤ 60) (hwt : 0 ≤ wt ∧ wt ≤ 2) : mI l G yX3_passDays (wU yX3_passDays cX3_passDays 6 (some .int)) (rmL 4 87) [.ref (ad G j 0), .int (iI nd), .int (iI wt)] w (po_X3_passDays w j nd wt) := by
  refine mI_of (by decide +kernel) (Nat.le_of_ble_eq_true rfl) (fun p e s m args below meth c ls C0 hW hl => ?_)
  have hl : lv_has ls 6 [(0, .ref (ad G j 0)), (1, .int (iI nd)), (2, .int (iI wt))] := hl
  have hx := C0.hx
  have hb := C0.hb
  obtain ⟨⟨hs1, hs2⟩, ⟨hd1, hd2, hd3⟩, -, -, -, -, ⟨hr1, hr2⟩, ⟨hc1, hc2⟩, hds⟩ := id hwf
  refine lv_aload_n hx hb dX3_passDays_0 rfl (lv_at hl 0 rfl) ?_
  refine r_gI C0 hW (ms_lt hj 0 (by decide)) (ceX_m hj G 0 _ _) rfl hiX3 (k := 13) (by decide) kf_X3_71 rfl rfl rfl dX3_passDays_1 (fun z1 (hz1 : z1 = gN (w j) 0 13) rz1 => ?_)
  have rz1a := rz1.1
  have rz1b := rz1.2
  refine lv_istore_n (lv' := [(3, .int (iI z1)), (0, .ref (ad G j 0)), (1, .int (iI nd)), (2, .int (iI wt))]) hx hb dX3_passDays_4 rfl hl (by decide) rfl (fun ls hl => ?_)
  refine r_iconst hx hb dX3_passDays_5 ?_
  refine lv_istore (lv' := [(4, .int (iI 0)), (3, .int (iI z1)), (0, .ref (ad G j 0)), (1, .int (iI nd)), (2, .int (iI wt))]) hx hb dX3_passDays_6 hl (by decide) rfl (fun ls hl => ?_)
  have hL8 : ∀ (n : Nat) (x4 : Int) (wv : gW) (hwv : wv = up w j (dyX (w j) wt x4)) (H0 : Heap) (locs0 : List Loc) (ls : Array Slot) (hm : nd - x4 < (n : Int)) (i8_0 : 0 ≤ x4) (i8_1 : x4 ≤ nd) (hW : wo G wv s H0 locs0) (hl : lv_has ls 6 [(4, .int (iI x4)), (3, .int (iI z1)), (0, .ref (ad G j 0)), (1, .int (iI nd)), (2, .int (iI wt))]), W p l e (rmL 4 87) s m args below meth c H0 locs0 0 0 (QI G (po_X3_passDays w j nd wt) below args s) (F0 m 8 ls []) := by
    intro n
    induction n with
    | zero =>
      intro x4 wv hwv H0 locs0 ls hm i8_0 i8_1 hW hl
      exact absurd hm (by omega)
    | succ n ih8 =>
      intro x4 wv hwv H0 locs0 ls hm i8_0 i8_1 hW hl
      have hwD : wf (dyX (w j) wt x4) := wf_dyX wt x4 hwf
      have hwvf : wf (wv j) := by rw [hwv, up_s]; exact hwD
      have hvr := hwD.2.2.2.2.2.2.1
      refine lv_iload hx hb dX3_passDays_8 (lv_at hl 0 rfl) ?_
      refine lv_iload_n hx hb dX3_passDays_10 rfl (lv_at hl 3 rfl) ?_
      refine r_icmp_ge (tgt := 76) hx hb ⟨by omega, by omega⟩ rnd dX3_passDays_11 (by decide) (fun c2 => ?_) (fun c2 => ?_)
      · refine lv_aload_n hx hb dX3_passDays_76 rfl (lv_at hl 2 rfl) ?_
        refine r_gI C0 hW (ms_lt hj 0 (by decide)) (ceX_m hj G 0 _ _) rfl hiX3 (k := 13) (by decide) kf_X3_71 rfl rfl rfl dX3_passDays_77 (fun z3 (hz3 : z3 = gN (wv j) 0 13) rz3 => ?_)
        have rz3a := rz3.1
        have rz3b := rz3.2
        try simp (decide := true) only [hwv, up_s, gA_sF, gN_sF, gA_sA, gN_sA, gA_sS, gN_sS, if_true, if_false, true_and, and_true, false_and, and_false, gN_srv, gN_wet1] at hz3
        refine lv_iload_n hx hb dX3_passDays_80 rfl (lv_at hl 1 rfl) ?_
        refine r_isub hx hb dX3_passDays_81 ?_
        rw [← iI_o (iI (z3 - z1))]
        exact r_iret C0 hW (inR_o _) (⟨by rw [iI_o, show nd = x4 from by omega]; simp only [hz1, hz3], by rw [show nd = x4 from by omega]; exact hwv⟩) dX3_passDays_82
      · refine lv_aload_n hx hb dX3_passDays_14 rfl (lv_at hl 2 rfl) ?_
        refine r_gR C0 hW (ms_lt hj 0 (by decide)) (ceX_m hj G 0 _ _) rfl hiX3 (k := 6) (by decide) kf_X3_33 rfl rfl rfl dX3_passDays_15 ?_
        refine lv_iload_n hx hb dX3_passDays_18 rfl (lv_at hl 4 rfl) ?_
        refine k_Vv (j := j) (k0 := 7) C0 hW (c_X4_dryOrWet l G wv hj (by exact hwvf) wt rwt) km_X3_100 ki_X4_dryOrWet ke_X4_dryOrWet kn_X4 kc_X4_dryOrWet rfl hdV_X4_dryOrWet ⟨by decide, by decide⟩ (ms_lt hj 7 (by decide)) (ceX_m hj G 7 _ _) rfl rfl hl.1 rfl (Nat.le_of_ble_eq_true rfl) dX3_passDays_19 (fun w4 H1 locs1 hp4 hW => ?_)
        have hw4 : w4 = _ := hp4
        refine r_iconst hx hb dX3_passDays_22 ?_
        refine lv_istore (lv' := [(5, .int (iI 0)), (4, .int (iI x4)), (3, .int (iI z1)), (0, .ref (ad G j 0)), (1, .int (iI nd)), (2, .int (iI wt))]) hx hb dX3_passDays_23 hl (by decide) rfl (fun ls hl => ?_)
        refine lv_iload hx hb dX3_passDays_25 (lv_at hl 0 rfl) ?_
        refine r_iconst hx hb dX3_passDays_27 ?_
        refine r_icmp_ge (tgt := 47) hx hb ⟨by omega, by omega⟩ ⟨by omega, by omega⟩ dX3_passDays_28 (by decide) (fun q => absurd q (by decide)) (fun _ => ?_)
        refine lv_aload_n hx hb dX3_passDays_31 rfl (lv_at hl 3 rfl) ?_
        refine lv_aload_n hx hb dX3_passDays_32 rfl (lv_at hl 3 rfl) ?_
        refine lv_iload hx hb dX3_passDays_33 (lv_at hl 0 rfl) ?_
        refine k_Vi (j := j) (k0 := 0) C0 hW (c_X3_commonerOfCart l G w4 hj (by simp only [hw4, hwv, up_up, up_s]; exact wf_wet _ hwD) 0 ⟨by omega, by omega⟩ (by omega)) km_X3_104 ki_X3_commonerOfCart ke_X3_commonerOfCart kn_X3 kc_X3_commonerOfCart rfl hdV_X3_commonerOfCart ⟨by decide, by decide⟩ (ms_lt hj 0 (by decide)) (ceX_m hj G 0 _ _) rfl rfl hl.1 rfl (Nat.le_of_ble_eq_true rfl) dX3_passDays_35 (fun z5 w5 H1 locs1 rz5 hp5 hW => ?_)
        obtain ⟨hp5, hq5⟩ := hp5
        subst hq5
        have rz5a := rz5.1
        have rz5b := rz5.2
        try simp only [hw4, hwv, up_s, gA_sF, gN_sF, gA_sA, gN_sA, gA_sS, gN_sS, if_true, if_false, true_and, and_true, false_and, and_false, gN_srv, gN_wet1] at hp5
        have qz5 : z5 = (gN (dyX (w j) wt x4) 0 10 % 10) := by
          have q := hp5.1
          try simp (decide := true) only [hw4, hwv, up_s, gA_sF, gN_sF, gA_sA, gN_sA, gA_sS, gN_sS, if_true, if_false, true_and, and_true, false_and, and_false, gN_srv, gN_wet1] at q
          omega
        have hz9z5 := hp5.2
        refine k_Vv (j := j) (k0 := 0) C0 hW (c_X3_serve l G w4 hj (by simp only [hw4, hwv, up_up, up_s]; exact wf_wet _ hwD) z5 rz5 (by omega)) km_X3_108 ki_X3_serve ke_X3_serve kn_X3 kc_X3_serve rfl hdV_X3_serve ⟨by decide, by decide⟩ (ms_lt hj 0 (by decide)) (ceX_m hj G 0 _ _) rfl rfl hl.1 rfl (Nat.le_of_ble_eq_true rfl) dX3_passDays_38 (fun w6 H1 locs1 hp6 hW => ?_)
        have hw6 : w6 = _ := hp6
        refine r_iinc (lv' := [(5, .int (iI (0 + 1))), (4, .int (iI x4)), (3, .int (iI z1)), (0, .ref (ad G j 0)), (1, .int (iI nd)), (2, .int (iI wt))]) hx hb dX3_passDays_41 hl (k := 0) rfl (by decide) rfl (fun ls hl => ?_)
        refine lv_goto (tgt := 25) hx hb dX3_passDays_44 (by decide) ?_
        refine lv_iload hx hb dX3_passDays_25 (lv_at hl 0 rfl) ?_
        refine r_iconst hx hb dX3_passDays_27 ?_
        refine r_icmp_ge (tgt := 47) hx hb ⟨by omega, by omega⟩ ⟨by omega, by omega⟩ dX3_passDays_28 (by decide) (fun q => absurd q (by decide)) (fun _ => ?_)
        refine lv_aload_n hx hb dX3_passDays_31 rfl (lv_at hl 3 rfl) ?_
        refine lv_aload_n hx hb dX3_passDays_32 rfl (lv_at hl 3 rfl) ?_
        refine lv_iload hx hb dX3_passDays_33 (lv_at hl 0 rfl) ?_
        refine k_Vi (j := j) (k0 := 0) C0 hW (c_X3_commonerOfCart l G w6 hj (by simp only [hw6, hw4, hwv, up_up, up_s]; exact wf_srv _ (wf_wet _ hwD)) (0 + 1) ⟨by omega, by omega⟩ (by omega)) km_X3_104 ki_X3_commonerOfCart ke_X3_commonerOfCart kn_X3 kc_X3_commonerOfCart rfl hdV_X3_commonerOfCart ⟨by decide, by decide⟩ (ms_lt hj 0 (by decide)) (ceX_m hj G 0 _ _) rfl rfl hl.1 rfl (Nat.le_of_ble_eq_true rfl) dX3_passDays_35 (fun z7 w7 H1 locs1 rz7 hp7 hW => ?_)
        obtain ⟨hp7, hq7⟩ := hp7
        subst hq7
        have rz7a := rz7.1
        have rz7b := rz7.2
        try simp only [hw6, hw4, hwv, up_s, gA_sF, gN_sF, gA_sA, gN_sA, gA_sS, gN_sS, if_true, if_false, true_and, and_true, false_and, and_false, gN_srv, gN_wet1] at hp7
        have qz7 : z7 = (gN (dyX (w j) wt x4) 0 10 + 5) % 10 := by
          have q := hp7.1
          try simp (decide := true) only [hw6, hw4, hwv, up_s, gA_sF, gN_sF, gA_sA, gN_sA, gA_sS, gN_sS, if_true, if_false, true_and, and_true, false_and, and_false, gN_srv, gN_wet1] at q
          omega
        have hz9z7 := hp7.2
        refine k_Vv (j := j) (k0 := 0) C0 hW (c_X3_serve l G w6 hj (by simp only [hw6, hw4, hwv, up_up, up_s]; exact wf_srv _ (wf_wet _ hwD)) z7 rz7 (by omega)) km_X3_108 ki_X3_serve ke_X3_serve kn_X3 kc_X3_serve rfl hdV_X3_serve ⟨by decide, by decide⟩ (ms_lt hj 0 (by decide)) (ceX_m hj G 0 _ _) rfl rfl hl.1 rfl (Nat.le_of_ble_eq_true rfl) dX3_passDays_38 (fun w8 H1 locs1 hp8 hW => ?_)
        have hw8 : w8 = _ := hp8
        refine r_iinc (lv' := [(5, .int (iI ((0 + 1) + 1))), (4, .int (iI x4)), (3, .int (iI z1)), (0, .ref (ad G j 0)), (1, .int (iI nd)), (2, .int (iI wt))]) hx hb dX3_passDays_41 hl (k := 0) rfl (by decide) rfl (fun ls hl => ?_)
        refine lv_goto (tgt := 25) hx hb dX3_passDays_44 (by decide) ?_
        refine lv_iload hx hb dX3_passDays_25 (lv_at hl 0 rfl) ?_
        refine r_iconst hx hb dX3_passDays_27 ?_
        refine r_icmp_ge (tgt := 47) hx hb ⟨by omega, by omega⟩ ⟨by omega, by omega⟩ dX3_passDays_28 (by decide) (fun _ => ?_) (fun q => absurd q (by decide))
        refine lv_aload_n hx hb dX3_passDays_47 rfl (lv_at hl 3 rfl) ?_
        refine lv_aload_n hx hb dX3_passDays_48 rfl (lv_at hl 3 rfl) ?_
        refine r_gI C0 hW (ms_lt hj 0 (by decide)) (ceX_m hj G 0 _ _) rfl hiX3 (k := 10) (by decide) kf_X3_62 rfl rfl rfl dX3_passDays_49 (fun z9 (hz9 : z9 = gN (w8 j) 0 10) rz9 => ?_)
        have rz9a := rz9.1
        have rz9b := rz9.2
        try simp (decide := true) only [hw8, hw6, hw4, hwv, up_s, gA_sF, gN_sF, gA_sA, gN_sA, gA_sS, gN_sS, if_true, if_false, true_and, and_true, false_and, and_false, gN_srv, gN_wet1] at hz9
        refine r_iconst hx hb dX3_passDays_52 ?_
        refine r_iadd hx hb dX3_passDays_53 ?_
        refine r_bipush hx hb dX3_passDays_54 (by decide) ?_
        refine r_irem hx hb ⟨by omega, by omega⟩ ⟨by omega, by omega⟩ (by omega) (by omega) dX3_passDays_56 ?_
        refine r_pI C0 hW (ms_lt hj 0 (by decide)) (ceX_m hj G 0 _ _) rfl hiX3 tyX3 tyX3_ok nmX3 (k := 10) (v := iI ((z9 + 1) % 10)) (by decide) kf_X3_62 rfl rfl rfl (tyX3_ok 10 (by decide)) rfl rfl (by simp) (ceX_m hj G 0 _ _) dX3_passDays_57 (fun H1 locs1 hW => ?_)
        obtain ⟨w10, hw10⟩ : ∃ q : gW, q = up w8 j (sS (w8 j) 0 10 (iI ((z9 + 1) % 10))) := ⟨_, rfl⟩
        rw [← hw10] at hW
        refine lv_aload_n hx hb dX3_passDays_60 rfl (lv_at hl 3 rfl) ?_
        refine lv_dup hx hb dX3_passDays_61 rfl ?_
        refine r_gI C0 hW (ms_lt hj 0 (by decide)) (ceX_m hj G 0 _ _) rfl hiX3 (k := 11) (by decide) kf_X3_65 rfl rfl rfl dX3_passDays_62 (fun z11 (hz11 : z11 = gN (w10 j) 0 11) rz11 => ?_)
        have rz11a := rz11.1
        have rz11b := rz11.2
        try simp (decide := true) only [hw10, hw8, hw6, hw4, hwv, up_s, gA_sF, gN_sF, gA_sA, gN_sA, gA_sS, gN_sS, if_true, if_false, true_and, and_true, false_and, and_false, gN_srv, gN_wet1] at hz11
        refine r_iconst hx hb dX3_passDays_65 ?_
        refine r_iadd hx hb dX3_passDays_66 ?_
        refine r_pI C0 hW (ms_lt hj 0 (by decide)) (ceX_m hj G 0 _ _) rfl hiX3 tyX3 tyX3_ok nmX3 (k := 11) (v := iI (z11 + 1)) (by decide) kf_X3_65 rfl rfl rfl (tyX3_ok 11 (by decide)) rfl rfl (by simp) (ceX_m hj G 0 _ _) dX3_passDays_67 (fun H1 locs1 hW => ?_)
        obtain ⟨w12, hw12⟩ : ∃ q : gW, q = up w10 j (sS (w10 j) 0 11 (iI (z11 + 1))) := ⟨_, rfl⟩
        rw [← hw12] at hW
        refine r_iinc (lv' := [(4, .int (iI (x4 + 1))), (5, .int (iI ((0 + 1) + 1))), (3, .int (iI z1)), (0, .ref (ad G j 0)), (1, .int (iI nd)), (2, .int (iI wt))]) hx hb dX3_passDays_70 hl (k := 1) rfl (by decide) rfl (fun ls hl => ?_)
        refine lv_goto (tgt := 8) hx hb dX3_passDays_73 (by decide) ?_
        exact ih8 (x4 + 1) _ (by rw [dyX_s _ _ (by omega)]; simp only [hw12, hw10, hw8, hw6, hw4, hwv, up_up, up_s, dayM, wet1, hz1, qz5, qz7, hz9, hz11]) _ _ ls (by omega) (by omega) (by omega) hW (lv_sub hl [0, 2, 3, 4, 5] rfl)
  exact hL8 121 0 _ (by rw [dyX_0, up_id]) _ _ ls (by omega) (by omega) (by omega) hW (lv_sub hl [0, 1, 2, 3, 4] rfl)
end
section
/-- X3_useDayIfLeft: its end -/
def po_X3_useDayIfLeft (w : gW) (j : Nat) (co : Int) : gW → Prop := fun w1 => w1 = up w j (usdM (w j) co)
theorem hdV_X3_useDayIfLeft : yX3_useDayIfLeft.cls = RX3 ∧ yX3_useDayIfLeft.cls ≠ "java/lang/invoke/MethodHandle" ∧ yX3_useDayIfLeft.cls ≠ "java/lang/invoke/VarHandle" ∧ (parseMethodDescriptor yX3_useDayIfLeft.desc).map (fun d => d.parameters.length) = some 1 := by decide +kernel
set_option maxHeartbeats 4000000 in
set_option maxRecDepth 100000 in
theorem c_X3_useDayIfLeft (l : Launch) (G : gG) (w : gW) {j : Nat} (hj : ms j) (hwf : wf (w j)) (co : Int) (rco : inR co) : mV l G yX3_useDayIfLeft (wU yX3_useDayIfLeft cX3_useDayIfLeft 2 none) (rmL 3 63) [.ref (ad G j 0), .int (iI co)] w (po_X3_useDayIfLeft w j co) := by
  refine mV_of (by decide +kernel) (Nat.le_of_ble_eq_true rfl) (fun p e s m args below meth c ls C0 hW hl => ?_)
  have hl : lv_has ls 2 [(0, .ref (ad G j 0)), (1, .int (iI co))] := hl
  have hx := C0.hx
  have hb := C0.hb
  obtain ⟨⟨hs1, hs2⟩, ⟨hd1, hd2, hd3⟩, -, -, -, -, ⟨hr1, hr2⟩, ⟨hc1, hc2⟩, hds⟩ := id hwf
  refine lv_aload_n hx hb dX3_useDayIfLeft_0 rfl (lv_at hl 0 rfl) ?_
  refine lv_iload_n hx hb dX3_useDayIfLeft_1 rfl (lv_at hl 1 rfl) ?_
  refine k_Vi (j := j) (k0 := 0) C0 hW (c_X3_hasDayLeft l G w hj hwf co rco) km_X3_74 ki_X3_hasDayLeft ke_X3_hasDayLeft kn_X3 kc_X3_hasDayLeft rfl hdV_X3_hasDayLeft ⟨by decide, by decide⟩ (ms_lt hj 0 (by decide)) (ceX_m hj G 0 _ _) rfl rfl hl.1 rfl (Nat.le_of_ble_eq_true rfl) dX3_useDayIfLeft_2 (fun z1 w1 H1 locs1 rz1 hp1 hW => ?_)
  obtain ⟨hp1, hq1⟩ := hp1
  subst hq1
  have rz1a := rz1.1
  have rz1b := rz1.2
  rcases hp1 with ⟨e1, hp1⟩ | ⟨e1, hp1⟩
  · subst e1
    obtain ⟨⟨hp11, hp12⟩, hp13⟩ := id hp1
    refine r_if_eq (tgt := 18) hx hb ⟨by omega, by omega⟩ dX3_useDayIfLeft_5 (by decide) (fun q => absurd q (by decide)) (fun _ => ?_)
    refine lv_aload_n hx hb dX3_useDayIfLeft_8 rfl (lv_at hl 0 rfl) ?_
    refine r_gR C0 hW (ms_lt hj 0 (by decide)) (ceX_m hj G 0 _ _) rfl hiX3 (k := 4) (by decide) kf_X3_24 rfl rfl rfl dX3_useDayIfLeft_9 ?_
    refine lv_iload_n hx hb dX3_useDayIfLeft_12 rfl (lv_at hl 1 rfl) ?_
    refine lv_dup2_11 hx hb dX3_useDayIfLeft_13 rfl rfl ?_
    refine r_ild C0 hW (ms_lt hj 5 (by decide)) (ceX_m hj G 5 _ _) (n := 10) (by omega) (by omega) (by omega) dX3_useDayIfLeft_14 (fun z2 (hz2 : z2 = gA (w j) 5 co) rz2 => ?_)
    have rz2a := rz2.1
    have rz2b := rz2.2
    refine r_iconst hx hb dX3_useDayIfLeft_15 ?_
    refine r_iadd hx hb dX3_useDayIfLeft_16 ?_
    refine r_ist C0 hW (ms_lt hj 5 (by decide)) (fun A => (ceX_m hj G 5 _ _)) (n := 10) (v := iI (z2 + 1)) (by omega) (by omega) (by decide) dX3_useDayIfLeft_17 (fun H1 locs1 hW => ?_)
    obtain ⟨w3, hw3⟩ : ∃ q : gW, q = up w j (sA (w j) 5 co (iI (z2 + 1))) := ⟨_, rfl⟩
    rw [← hw3] at hW
    exact r_vret C0 hW (by unfold po_X3_useDayIfLeft usdM; rw [@if_pos _ (Classical.propDecidable _) hp1]; simp only [hw3, hz2]) dX3_useDayIfLeft_18
  · subst e1
    refine r_if_eq (tgt := 18) hx hb ⟨by omega, by omega⟩ dX3_useDayIfLeft_5 (by decide) (fun _ => ?_) (fun q => absurd q (by decide))
    exact r_vret C0 hW (by unfold po_X3_useDayIfLeft usdM; rw [@if_neg _ (Classical.propDecidable _) hp1, up_id]) dX3_useDayIfLeft_18

/-- X3_givePeats: its end -/
def po_X3_givePeats (w : gW) (j : Nat) (a : Int) (b : Int) : gW → Prop := fun w1 => w1 = up w j (givM (w j) a b)
theorem hdV_X3_givePeats : yX3_givePeats.cls = RX3 ∧ yX3_givePeats.cls ≠ "java/lang/invoke/MethodHandle" ∧ yX3_givePeats.cls ≠ "java/lang/invoke/VarHandle" ∧ (parseMethodDescriptor yX3_givePeats.desc).map (fun d => d.parameters.length) = some 2 := by decide +kernel
set_option maxHeartbeats 4000000 in
set_option maxRecDepth 100000 in
theorem c_X3_givePeats (l : Launch) (G : gG) (w : gW) {j : Nat} (hj : ms j) (hwf : wf (w j)) (a : Int) (b : Int) (ra : inR a) (rb : inR b) : mV l G yX3_givePeats (wU yX3_givePeats cX3_givePeats 4 none) (rmL 2 42) [.ref (ad G j 0), .int (iI a), .int (iI b)] w (po_X3_givePeats w j a b) := by
  refine mV_of (by decide +kernel) (Nat.le_of_ble_eq_true rfl) (fun p e s m args below meth c ls C0 hW hl => ?_)
  have hl : lv_has ls 4 [(0, .ref (ad G j 0)), (1, .int (iI a)), (2, .int (iI b))] := hl
  have hx := C0.hx
  have hb := C0.hb
  obtain ⟨⟨hs1, hs2⟩, ⟨hd1, hd2, hd3⟩, -, -, -, -, ⟨hr1, hr2⟩, ⟨hc1, hc2⟩, hds⟩ := id hwf
  refine lv_iload_n hx hb dX3_givePeats_0 rfl (lv_at hl 1 rfl) ?_
  refine k_Ni (own := "") C0 hW (As := [.int (iI a)]) (c_X5_isCommoner l G w a ra) C0.nst.2.2.2.2.1 ks_X5_isCommoner kn_X5 kc_X5_isCommoner hdS_X5_isCommoner ⟨by decide, by decide⟩ rfl hl.1 rfl (Nat.le_of_ble_eq_true rfl) dX3_givePeats_1 (fun z1 w1 H1 locs1 rz1 hp1 hW => ?_)
  obtain ⟨hp1, hq1⟩ := hp1
  subst hq1
  have rz1a := rz1.1
  have rz1b := rz1.2
  rcases hp1 with ⟨e1, hp1⟩ | ⟨e1, hp1⟩
  · subst e1
    refine r_if_eq (tgt := 46) hx hb ⟨by omega, by omega⟩ dX3_givePeats_4 (by decide) (fun q => absurd q (by decide)) (fun _ => ?_)
    refine lv_iload_n hx hb dX3_givePeats_7 rfl (lv_at hl 2 rfl) ?_
    refine k_Ni (own := "") C0 hW (As := [.int (iI b)]) (c_X5_isCommoner l G w b rb) C0.nst.2.2.2.2.1 ks_X5_isCommoner kn_X5 kc_X5_isCommoner hdS_X5_isCommoner ⟨by decide, by decide⟩ rfl hl.1 rfl (Nat.le_of_ble_eq_true rfl) dX3_givePeats_8 (fun z2 w2 H1 locs1 rz2 hp2 hW => ?_)
    obtain ⟨hp2, hq2⟩ := hp2
    subst hq2
    have rz2a := rz2.1
    have rz2b := rz2.2
    rcases hp2 with ⟨e2, hp2⟩ | ⟨e2, hp2⟩
    · subst e2
      refine r_if_eq (tgt := 46) hx hb ⟨by omega, by omega⟩ dX3_givePeats_11 (by decide) (fun q => absurd q (by decide)) (fun _ => ?_)
      refine r_bipush hx hb dX3_givePeats_14 (by decide) ?_
      refine lv_aload_n hx hb dX3_givePeats_16 rfl (lv_at hl 0 rfl) ?_
      refine r_gR C0 hW (ms_lt hj 0 (by decide)) (ceX_m hj G 0 _ _) rfl hiX3 (k := 5) (by decide) kf_X3_27 rfl rfl rfl dX3_givePeats_17 ?_
      refine lv_iload_n hx hb dX3_givePeats_20 rfl (lv_at hl 1 rfl) ?_
      refine r_ild C0 hW (ms_lt hj 6 (by decide)) (ceX_m hj G 6 _ _) (n := 10) (by omega) (by omega) (by omega) dX3_givePeats_21 (fun z3 (hz3 : z3 = gA (w j) 6 a) rz3 => ?_)
      have rz3a := rz3.1
      have rz3b := rz3.2
      refine r_min C0 ⟨by omega, by omega⟩ rz3 km_X3_149 ks_J9_min_7cf53 kn_J9 kc_min rfl hl.1 (by decide) (Nat.le_of_ble_eq_true rfl) dX3_givePeats_22 ?_
      refine lv_istore_n (lv' := [(3, .int (iI (min 20 z3))), (0, .ref (ad G j 0)), (1, .int (iI a)), (2, .int (iI b))]) hx hb dX3_givePeats_25 rfl hl (by decide) rfl (fun ls hl => ?_)
      refine lv_aload_n hx hb dX3_givePeats_26 rfl (lv_at hl 1 rfl) ?_
      refine r_gR C0 hW (ms_lt hj 0 (by decide)) (ceX_m hj G 0 _ _) rfl hiX3 (k := 5) (by decide) kf_X3_27 rfl rfl rfl dX3_givePeats_27 ?_
      refine lv_iload_n hx hb dX3_givePeats_30 rfl (lv_at hl 2 rfl) ?_
      refine lv_dup2_11 hx hb dX3_givePeats_31 rfl rfl ?_
      refine r_ild C0 hW (ms_lt hj 6 (by decide)) (ceX_m hj G 6 _ _) (n := 10) (by omega) (by omega) (by omega) dX3_givePeats_32 (fun z4 (hz4 : z4 = gA (w j) 6 a) rz4 => ?_)
      have rz4a := rz4.1
      have rz4b := rz4.2
      refine lv_iload_n hx hb dX3_givePeats_33 rfl (lv_at hl 0 rfl) ?_
      refine r_isub hx hb dX3_givePeats_34 ?_
      refine r_ist C0 hW (ms_lt hj 6 (by decide)) (fun A => (ceX_m hj G 6 _ _)) (n := 10) (v := iI (z4 - (min 20 z3))) (by omega) (by omega) (by decide) dX3_givePeats_35 (fun H1 locs1 hW => ?_)
      obtain ⟨w5, hw5⟩ : ∃ q : gW, q = up w j (sA (w j) 6 a (iI (z4 - (min 20 z3)))) := ⟨_, rfl⟩
      rw [← hw5] at hW
      refine lv_aload_n hx hb dX3_givePeats_36 rfl (lv_at hl 1 rfl) ?_
      refine r_gR C0 hW (ms_lt hj 0 (by decide)) (ceX_m hj G 0 _ _) rfl hiX3 (k := 5) (by decide) kf_X3_27 rfl rfl rfl dX3_givePeats_37 ?_
      refine lv_iload_n hx hb dX3_givePeats_40 rfl (lv_at hl 3 rfl) ?_
      refine lv_dup2_11 hx hb dX3_givePeats_41 rfl rfl ?_
      refine r_ild C0 hW (ms_lt hj 6 (by decide)) (ceX_m hj G 6 _ _) (n := 10) (by omega) (by omega) (by omega) dX3_givePeats_42 (fun z6 (hz6 : z6 = gA (w5 j) 6 b) rz6 => ?_)
      have rz6a := rz6.1
      have rz6b := rz6.2
      try simp (decide := true) only [hw5, up_s, gA_sF, gN_sF, gA_sA, gN_sA, gA_sS, gN_sS, if_true, if_false, true_and, and_true, false_and, and_false] at hz6
      refine lv_iload_n hx hb dX3_givePeats_43 rfl (lv_at hl 0 rfl) ?_
      refine r_iadd hx hb dX3_givePeats_44 ?_
      refine r_ist C0 hW (ms_lt hj 6 (by decide)) (fun A => (ceX_m hj G 6 _ _)) (n := 10) (v := iI (z6 + (min 20 z3))) (by omega) (by omega) (by decide) dX3_givePeats_45 (fun H1 locs1 hW => ?_)
      obtain ⟨w7, hw7⟩ : ∃ q : gW, q = up w5 j (sA (w5 j) 6 b (iI (z6 + (min 20 z3)))) := ⟨_, rfl⟩
      rw [← hw7] at hW
      exact r_vret C0 hW (by unfold po_X3_givePeats givM; rw [if_pos ⟨hp1, hp2⟩]; simp (decide := true) only [hw7, hw5, up_up, up_s, gA_sF, gN_sF, gA_sA, gN_sA, gA_sS, gN_sS, if_true, if_false, true_and, and_true, false_and, and_false, hz3, hz4, hz6]) dX3_givePeats_46
    · subst e2
      refine r_if_eq (tgt := 46) hx hb ⟨by omega, by omega⟩ dX3_givePeats_11 (by decide) (fun _ => ?_) (fun q => absurd q (by decide))
      exact r_vret C0 hW (by unfold po_X3_givePeats givM; rw [if_neg (fun q => hp2 q.2), up_id]) dX3_givePeats_46
  · subst e1
    refine r_if_eq (tgt := 46) hx hb ⟨by omega, by omega⟩ dX3_givePeats_4 (by decide) (fun _ => ?_) (fun q => absurd q (by decide))
    exact r_vret C0 hW (by unfold po_X3_givePeats givM; rw [if_neg (fun q => hp1 q.1), up_id]) dX3_givePeats_46

/-- X3_settleOldest: its end -/
def po_X3_settleOldest (w : gW) (j : Nat) : Int → gW → Prop := fun z w1 => z = stlZ (w j) ∧ w1 = up w j (stlM (w j))
theorem hdV_X3_settleOldest : yX3_settleOldest.cls = RX3 ∧ yX3_settleOldest.cls ≠ "java/lang/invoke/MethodHandle" ∧ yX3_settleOldest.cls ≠ "java/lang/invoke/VarHandle" ∧ (parseMethodDescriptor yX3_settleOldest.desc).map (fun d => d.parameters.length) = some 0 := by decide +kernel
set_option maxHeartbeats 4000000 in
set_option maxRecDepth 100000 in
theorem c_X3_settleOldest (l : Launch) (G : gG) (w : gW) {j : Nat} (hj : ms j) (hwf : wf (w j)) (ho9 : gN (w j) 14 4 < gN (w j) 14 5) : mI l G yX3_settleOldest (wU yX3_settleOldest cX3_settleOldest 5 (some .int)) (rmL 4 84) [.ref (ad G j 0)] w (po_X3_settleOldest w j) := by
  refine mI_of (by decide +kernel) (Nat.le_of_ble_eq_true rfl) (fun p e s m args below meth c ls C0 hW hl => ?_)
  have hl : lv_has ls 5 [(0, .ref (ad G j 0))] := hl
  have hx := C0.hx
  have hb := C0.hb
  obtain ⟨⟨hs1, hs2⟩, ⟨hd1, hd2, hd3⟩, -, -, -, -, ⟨hr1, hr2⟩, ⟨hc1, hc2⟩, hds⟩ := id hwf
  have hM1 : wf (stl1 (w j)) := wf_stl1 hwf ho9
  refine lv_aload_n hx hb dX3_settleOldest_0 rfl (lv_at hl 0 rfl) ?_
  refine r_gR C0 hW (ms_lt hj 0 (by decide)) (ceX_m hj G 0 _ _) rfl hiX3 (k := 7) (by decide) kf_X3_40 rfl rfl rfl dX3_settleOldest_1 ?_
  refine k_Vi (j := j) (k0 := 14) C0 hW (c_X1_countOpen l G w hj hwf) km_X3_124 ki_X1_countOpen ke_X1_countOpen kn_X1 kc_X1_countOpen rfl hdV_X1_countOpen ⟨by decide, by decide⟩ (ms_lt hj 14 (by decide)) (ceX_m hj G 14 _ _) rfl rfl hl.1 rfl (Nat.le_of_ble_eq_true rfl) dX3_settleOldest_4 (fun z1 w1 H1 locs1 rz1 hp1 hW => ?_)
  obtain ⟨hp1, hq1⟩ := hp1
  subst hq1
  have rz1a := rz1.1
  have rz1b := rz1.2
  refine r_if_ne (tgt := 13) hx hb rz1 dX3_settleOldest_7 (by decide) (fun c2 => ?_) (fun c2 => ?_)
  · refine lv_aload_n hx hb dX3_settleOldest_13 rfl (lv_at hl 0 rfl) ?_
    refine r_gR C0 hW (ms_lt hj 0 (by decide)) (ceX_m hj G 0 _ _) rfl hiX3 (k := 7) (by decide) kf_X3_40 rfl rfl rfl dX3_settleOldest_14 ?_
    refine r_gI C0 hW (ms_lt hj 14 (by decide)) (ceX_m hj G 14 _ _) rfl hiX1 (k := 4) (by decide) kf_X3_127 rfl rfl rfl dX3_settleOldest_17 (fun z3 (hz3 : z3 = gN (w j) 14 4) rz3 => ?_)
    have rz3a := rz3.1
    have rz3b := rz3.2
    refine lv_istore_n (lv' := [(1, .int (iI z3)), (0, .ref (ad G j 0))]) hx hb dX3_settleOldest_20 rfl hl (by decide) rfl (fun ls hl => ?_)
    refine lv_aload_n hx hb dX3_settleOldest_21 rfl (lv_at hl 1 rfl) ?_
    refine r_gR C0 hW (ms_lt hj 0 (by decide)) (ceX_m hj G 0 _ _) rfl hiX3 (k := 7) (by decide) kf_X3_40 rfl rfl rfl dX3_settleOldest_22 ?_
    refine lv_dup hx hb dX3_settleOldest_25 rfl ?_
    refine r_gI C0 hW (ms_lt hj 14 (by decide)) (ceX_m hj G 14 _ _) rfl hiX1 (k := 4) (by decide) kf_X3_127 rfl rfl rfl dX3_settleOldest_26 (fun z4 (hz4 : z4 = gN (w j) 14 4) rz4 => ?_)
    have rz4a := rz4.1
    have rz4b := rz4.2
    refine r_iconst hx hb dX3_settleOldest_29 ?_
    refine r_iadd hx hb dX3_settleOldest_30 ?_
    refine r_pI C0 hW (ms_lt hj 14 (by decide)) (ceX_m hj G 14 _ _) rfl hiX1 tyX1 tyX1_ok nmX1 (k := 4) (v := iI (z4 + 1)) (by decide) kf_X3_127 rfl rfl rfl (tyX1_ok 4 (by decide)) rfl rfl (by simp) (ceX_m hj G 14 _ _) dX3_settleOldest_31 (fun H1 locs1 hW => ?_)
    obtain ⟨w5, hw5⟩ : ∃ q : gW, q = up w j (sS (w j) 14 4 (iI (z4 + 1))) := ⟨_, rfl⟩
    rw [← hw5] at hW
    have hsM : gN (w5 j) 7 6 ≤ 120 := by simp (decide := true) only [hw5, up_s, gA_sF, gN_sF, gA_sA, gN_sA, gA_sS, gN_sS, if_true, if_false, true_and, and_true, false_and, and_false]; omega
    refine lv_aload_n hx hb dX3_settleOldest_34 rfl (lv_at hl 1 rfl) ?_
    refine r_gR C0 hW (ms_lt hj 0 (by decide)) (ceX_m hj G 0 _ _) rfl hiX3 (k := 7) (by decide) kf_X3_40 rfl rfl rfl dX3_settleOldest_35 ?_
    refine r_gR C0 hW (ms_lt hj 14 (by decide)) (ceX_m hj G 14 _ _) rfl hiX1 (k := 0) (by decide) kf_X3_130 rfl rfl rfl dX3_settleOldest_38 ?_
    refine lv_iload_n hx hb dX3_settleOldest_41 rfl (lv_at hl 0 rfl) ?_
    refine r_ild C0 hW (ms_lt hj 15 (by decide)) (ceX_m hj G 15 _ _) (n := 120) (by omega) (by omega) (by omega) dX3_settleOldest_42 (fun z6 (hz6 : z6 = gA (w5 j) 15 z3) rz6 => ?_)
    have rz6a := rz6.1
    have rz6b := rz6.2
    try simp (decide := true) only [hw5, up_s, gA_sF, gN_sF, gA_sA, gN_sA, gA_sS, gN_sS, if_true, if_false, true_and, and_true, false_and, and_false] at hz6
    refine lv_istore_n (lv' := [(2, .int (iI z6)), (1, .int (iI z3)), (0, .ref (ad G j 0))]) hx hb dX3_settleOldest_43 rfl hl (by decide) rfl (fun ls hl => ?_)
    refine lv_aload_n hx hb dX3_settleOldest_44 rfl (lv_at hl 2 rfl) ?_
    refine r_gI C0 hW (ms_lt hj 0 (by decide)) (ceX_m hj G 0 _ _) rfl hiX3 (k := 9) (by decide) kf_X3_59 rfl rfl rfl dX3_settleOldest_45 (fun z7 (hz7 : z7 = gN (w5 j) 0 9) rz7 => ?_)
    have rz7a := rz7.1
    have rz7b := rz7.2
    try simp (decide := true) only [hw5, up_s, gA_sF, gN_sF, gA_sA, gN_sA, gA_sS, gN_sS, if_true, if_false, true_and, and_true, false_and, and_false] at hz7
    refine r_if_ne (tgt := 59) hx hb rz7 dX3_settleOldest_48 (by decide) (fun c8 => ?_) (fun c8 => ?_)
    · refine lv_aload_n hx hb dX3_settleOldest_59 rfl (lv_at hl 2 rfl) ?_
      refine r_gR C0 hW (ms_lt hj 0 (by decide)) (ceX_m hj G 0 _ _) rfl hiX3 (k := 7) (by decide) kf_X3_40 rfl rfl rfl dX3_settleOldest_60 ?_
      refine r_gR C0 hW (ms_lt hj 14 (by decide)) (ceX_m hj G 14 _ _) rfl hiX1 (k := 1) (by decide) kf_X3_136 rfl rfl rfl dX3_settleOldest_63 ?_
      refine lv_iload_n hx hb dX3_settleOldest_66 rfl (lv_at hl 1 rfl) ?_
      refine r_ild C0 hW (ms_lt hj 16 (by decide)) (ceX_m hj G 16 _ _) (n := 120) (by omega) (by omega) (by omega) dX3_settleOldest_67 (fun z9 (hz9 : z9 = gA (w5 j) 16 z3) rz9 => ?_)
      have rz9a := rz9.1
      have rz9b := rz9.2
      try simp (decide := true) only [hw5, up_s, gA_sF, gN_sF, gA_sA, gN_sA, gA_sS, gN_sS, if_true, if_false, true_and, and_true, false_and, and_false] at hz9
      refine lv_istore_n (lv' := [(3, .int (iI z9)), (2, .int (iI z6)), (1, .int (iI z3)), (0, .ref (ad G j 0))]) hx hb dX3_settleOldest_68 rfl hl (by decide) rfl (fun ls hl => ?_)
      refine lv_aload_n hx hb dX3_settleOldest_69 rfl (lv_at hl 3 rfl) ?_
      refine r_gR C0 hW (ms_lt hj 0 (by decide)) (ceX_m hj G 0 _ _) rfl hiX3 (k := 7) (by decide) kf_X3_40 rfl rfl rfl dX3_settleOldest_70 ?_
      refine r_gR C0 hW (ms_lt hj 14 (by decide)) (ceX_m hj G 14 _ _) rfl hiX1 (k := 2) (by decide) kf_X3_139 rfl rfl rfl dX3_settleOldest_73 ?_
      refine lv_iload_n hx hb dX3_settleOldest_76 rfl (lv_at hl 2 rfl) ?_
      refine r_ild C0 hW (ms_lt hj 17 (by decide)) (ceX_m hj G 17 _ _) (n := 120) (by omega) (by omega) (by omega) dX3_settleOldest_77 (fun z10 (hz10 : z10 = gA (w5 j) 17 z3) rz10 => ?_)
      have rz10a := rz10.1
      have rz10b := rz10.2
      try simp (decide := true) only [hw5, up_s, gA_sF, gN_sF, gA_sA, gN_sA, gA_sS, gN_sS, if_true, if_false, true_and, and_true, false_and, and_false] at hz10
      refine lv_istore (lv' := [(4, .int (iI z10)), (3, .int (iI z9)), (2, .int (iI z6)), (1, .int (iI z3)), (0, .ref (ad G j 0))]) hx hb dX3_settleOldest_78 hl (by decide) rfl (fun ls hl => ?_)
      refine lv_aload_n hx hb dX3_settleOldest_80 rfl (lv_at hl 4 rfl) ?_
      refine r_gR C0 hW (ms_lt hj 0 (by decide)) (ceX_m hj G 0 _ _) rfl hiX3 (k := 6) (by decide) kf_X3_33 rfl rfl rfl dX3_settleOldest_81 ?_
      refine lv_iload hx hb dX3_settleOldest_84 (lv_at hl 0 rfl) ?_
      refine k_Vi (j := j) (k0 := 7) C0 hW (c_X4_isLying l G w5 hj (by simp only [hw5, up_up, up_s, hz3, hz4, hz6, hz7, hz9, hz10]; exact hM1) z10 rz10) km_X3_114 ki_X4_isLying ke_X4_isLying kn_X4 kc_X4_isLying rfl hdV_X4_isLying ⟨by decide, by decide⟩ (ms_lt hj 7 (by decide)) (ceX_m hj G 7 _ _) rfl rfl hl.1 rfl (Nat.le_of_ble_eq_true rfl) dX3_settleOldest_86 (fun z11 w11 H1 locs1 rz11 hp11 hW => ?_)
      obtain ⟨hp11, hq11⟩ := hp11
      subst hq11
      have rz11a := rz11.1
      have rz11b := rz11.2
      rcases hp11 with ⟨e11, hp11⟩ | ⟨e11, hp11⟩
      · subst e11
        obtain ⟨hp111, hp112, hp113⟩ := id hp11
        refine r_if_eq (tgt := 106) hx hb ⟨by omega, by omega⟩ dX3_settleOldest_89 (by decide) (fun q => absurd q (by decide)) (fun _ => ?_)
        refine lv_aload_n hx hb dX3_settleOldest_92 rfl (lv_at hl 4 rfl) ?_
        refine r_gR C0 hW (ms_lt hj 0 (by decide)) (ceX_m hj G 0 _ _) rfl hiX3 (k := 6) (by decide) kf_X3_33 rfl rfl rfl dX3_settleOldest_93 ?_
        refine r_gR C0 hW (ms_lt hj 7 (by decide)) (ceX_m hj G 7 _ _) rfl hiX4 (k := 0) (by decide) kf_X3_142 rfl rfl rfl dX3_settleOldest_96 ?_
        refine lv_iload hx hb dX3_settleOldest_99 (lv_at hl 0 rfl) ?_
        refine lv_iload_n hx hb dX3_settleOldest_101 rfl (lv_at hl 1 rfl) ?_
        refine r_ist C0 hW (ms_lt hj 8 (by decide)) (fun A => (ceX_m hj G 8 _ _)) (n := 120) (v := iI z9) (by omega) (by omega) (by decide) dX3_settleOldest_102 (fun H1 locs1 hW => ?_)
        obtain ⟨w12, hw12⟩ : ∃ q : gW, q = up w5 j (sA (w5 j) 8 z10 (iI z9)) := ⟨_, rfl⟩
        rw [← hw12] at hW
        refine lv_goto (tgt := 112) hx hb dX3_settleOldest_103 (by decide) ?_
        refine lv_iload_n hx hb dX3_settleOldest_112 rfl (lv_at hl 1 rfl) ?_
        exact r_iret C0 hW rz9 (⟨by unfold stlZ; rw [if_neg (by omega)]; simp only [hz3, hz4, hz6, hz7, hz9, hz10], by unfold stlM; rw [if_neg (by omega), @if_pos _ (Classical.propDecidable _) (by have q := hp11; simp only [hw12, hw5, up_s, hz3, hz4, hz6, hz7, hz9, hz10] at q; exact q)]; simp only [stl1, hw12, hw5, up_up, up_s, hz3, hz4, hz6, hz7, hz9, hz10]⟩) dX3_settleOldest_113
      · subst e11
        refine r_if_eq (tgt := 106) hx hb ⟨by omega, by omega⟩ dX3_settleOldest_89 (by decide) (fun _ => ?_) (fun q => absurd q (by decide))
        refine lv_aload_n hx hb dX3_settleOldest_106 rfl (lv_at hl 4 rfl) ?_
        refine lv_iload_n hx hb dX3_settleOldest_107 rfl (lv_at hl 2 rfl) ?_
        refine lv_iload_n hx hb dX3_settleOldest_108 rfl (lv_at hl 1 rfl) ?_
        refine k_Vv (j := j) (k0 := 0) C0 hW (c_X3_givePeats l G w5 hj (by simp only [hw5, up_up, up_s, hz3, hz4, hz6, hz7, hz9, hz10]; exact hM1) z6 z9 rz6 rz9) km_X3_145 ki_X3_givePeats ke_X3_givePeats kn_X3 kc_X3_givePeats rfl hdV_X3_givePeats ⟨by decide, by decide⟩ (ms_lt hj 0 (by decide)) (ceX_m hj G 0 _ _) rfl rfl hl.1 rfl (Nat.le_of_ble_eq_true rfl) dX3_settleOldest_109 (fun w13 H1 locs1 hp13 hW => ?_)
        have hw13 : w13 = _ := hp13
        refine lv_iload_n hx hb dX3_settleOldest_112 rfl (lv_at hl 1 rfl) ?_
        exact r_iret C0 hW rz9 (⟨by unfold stlZ; rw [if_neg (by omega)]; simp only [hz3, hz4, hz6, hz7, hz9, hz10], by unfold stlM; rw [if_neg (by omega), @if_neg _ (Classical.propDecidable _) (by have q := hp11; simp only [hw13, hw5, up_s, hz3, hz4, hz6, hz7, hz9, hz10] at q; exact q)]; simp only [stl1, hw13, hw5, up_up, up_s, hz3, hz4, hz6, hz7, hz9, hz10]⟩) dX3_settleOldest_113
    · refine lv_aload_n hx hb dX3_settleOldest_51 rfl (lv_at hl 2 rfl) ?_
      refine lv_iload_n hx hb dX3_settleOldest_52 rfl (lv_at hl 0 rfl) ?_
      refine k_Vv (j := j) (k0 := 0) C0 hW (c_X3_useDayIfLeft l G w5 hj (by simp only [hw5, up_up, up_s, hz3, hz4, hz6, hz7]; exact hM1) z6 rz6) km_X3_133 ki_X3_useDayIfLeft ke_X3_useDayIfLeft kn_X3 kc_X3_useDayIfLeft rfl hdV_X3_useDayIfLeft ⟨by decide, by decide⟩ (ms_lt hj 0 (by decide)) (ceX_m hj G 0 _ _) rfl rfl hl.1 rfl (Nat.le_of_ble_eq_true rfl) dX3_settleOldest_53 (fun w14 H1 locs1 hp14 hW => ?_)
      have hw14 : w14 = _ := hp14
      refine r_bipush hx hb dX3_settleOldest_56 (by decide) ?_
      exact r_iret C0 hW ⟨by omega, by omega⟩ (⟨by unfold stlZ; rw [if_pos (by omega)], by unfold stlM stl1; rw [if_pos (by omega)]; simp only [hw14, hw5, up_up, up_s, hz3, hz4, hz6, hz7]⟩) dX3_settleOldest_58
  · refine r_bipush hx hb dX3_settleOldest_10 (by decide) ?_
    exact r_iret C0 hW ⟨by omega, by omega⟩ (⟨by omega, by omega⟩) dX3_settleOldest_12

/-- X3_closeYear: its end -/
def po_X3_closeYear (w : gW) (j : Nat) : Int → gW → Prop := fun z w1 => z = cntI (pLy (w j)) (gN (w j) 7 6) ∧ w1 = up w j (yrM (w j))
theorem hdV_X3_closeYear : yX3_closeYear.cls = RX3 ∧ yX3_closeYear.cls ≠ "java/lang/invoke/MethodHandle" ∧ yX3_closeYear.cls ≠ "java/lang/invoke/VarHandle" ∧ (parseMethodDescriptor yX3_closeYear.desc).map (fun d => d.parameters.length) = some 0 := by decide +kernel
set_option maxHeartbeats 4000000 in
set_option maxRecDepth 100000 in
theorem c_X3_closeYear (l : Launch) (G : gG) (w : gW) {j : Nat} (hj : ms j) (hwf : wf (w j)) : mI l G yX3_closeYear (wU yX3_closeYear cX3_closeYear 3 (some .int)) (rmL 3 64) [.ref (ad G j 0)] w (po_X3_closeYear w j) := by
  refine mI_of (by decide +kernel) (Nat.le_of_ble_eq_true rfl) (fun p e s m args below meth c ls C0 hW hl => ?_)
  have hl : lv_has ls 3 [(0, .ref (ad G j 0))] := hl
  have hx := C0.hx
  have hb := C0.hb
  obtain ⟨⟨hs1, hs2⟩, ⟨hd1, hd2, hd3⟩, -, -, -, -, ⟨hr1, hr2⟩, ⟨hc1, hc2⟩, hds⟩ := id hwf
  refine lv_aload_n hx hb dX3_closeYear_0 rfl (lv_at hl 0 rfl) ?_
  refine r_gR C0 hW (ms_lt hj 0 (by decide)) (ceX_m hj G 0 _ _) rfl hiX3 (k := 6) (by decide) kf_X3_33 rfl rfl rfl dX3_closeYear_1 ?_
  refine k_Vi (j := j) (k0 := 7) C0 hW (c_X4_loseAll l G w hj hwf) km_X3_154 ki_X4_loseAll ke_X4_loseAll kn_X4 kc_X4_loseAll rfl hdV_X4_loseAll ⟨by decide, by decide⟩ (ms_lt hj 7 (by decide)) (ceX_m hj G 7 _ _) rfl rfl hl.1 rfl (Nat.le_of_ble_eq_true rfl) dX3_closeYear_4 (fun z1 w1 H1 locs1 rz1 hp1 hW => ?_)
  obtain ⟨hp1, hw1⟩ := hp1
  have rz1a := rz1.1
  have rz1b := rz1.2
  refine lv_istore_n (lv' := [(1, .int (iI z1)), (0, .ref (ad G j 0))]) hx hb dX3_closeYear_7 rfl hl (by decide) rfl (fun ls hl => ?_)
  refine lv_aload_n hx hb dX3_closeYear_8 rfl (lv_at hl 1 rfl) ?_
  refine r_gR C0 hW (ms_lt hj 0 (by decide)) (ceX_m hj G 0 _ _) rfl hiX3 (k := 7) (by decide) kf_X3_40 rfl rfl rfl dX3_closeYear_9 ?_
  refine lv_aload_n hx hb dX3_closeYear_12 rfl (lv_at hl 1 rfl) ?_
  refine r_gR C0 hW (ms_lt hj 0 (by decide)) (ceX_m hj G 0 _ _) rfl hiX3 (k := 7) (by decide) kf_X3_40 rfl rfl rfl dX3_closeYear_13 ?_
  refine r_gI C0 hW (ms_lt hj 14 (by decide)) (ceX_m hj G 14 _ _) rfl hiX1 (k := 5) (by decide) kf_X3_157 rfl rfl rfl dX3_closeYear_16 (fun z2 (hz2 : z2 = gN (w1 j) 14 5) rz2 => ?_)
  have rz2a := rz2.1
  have rz2b := rz2.2
  try simp (decide := true) only [hw1, up_s, gA_sF, gN_sF, gA_sA, gN_sA, gA_sS, gN_sS, if_true, if_false, true_and, and_true, false_and, and_false] at hz2
  refine r_pI C0 hW (ms_lt hj 14 (by decide)) (ceX_m hj G 14 _ _) rfl hiX1 tyX1 tyX1_ok nmX1 (k := 4) (v := iI z2) (by decide) kf_X3_127 rfl rfl rfl (tyX1_ok 4 (by decide)) rfl rfl (by simp) (ceX_m hj G 14 _ _) dX3_closeYear_19 (fun H1 locs1 hW => ?_)
  obtain ⟨w3, hw3⟩ : ∃ q : gW, q = up w1 j (sS (w1 j) 14 4 (iI z2)) := ⟨_, rfl⟩
  rw [← hw3] at hW
  refine lv_aload_n hx hb dX3_closeYear_22 rfl (lv_at hl 1 rfl) ?_
  refine r_gR C0 hW (ms_lt hj 0 (by decide)) (ceX_m hj G 0 _ _) rfl hiX3 (k := 1) (by decide) kf_X3_15 rfl rfl rfl dX3_closeYear_23 ?_
  refine lv_aload_n hx hb dX3_closeYear_26 rfl (lv_at hl 1 rfl) ?_
  refine r_gR C0 hW (ms_lt hj 0 (by decide)) (ceX_m hj G 0 _ _) rfl hiX3 (k := 2) (by decide) kf_X3_18 rfl rfl rfl dX3_closeYear_27 ?_
  refine k_Nv (own := "") C0 hW (As := [.ref (ad G j 2), .ref (ad G j 3)]) (c_X5_copyNumbers l G w3 (n := 20) (ms_lt hj 2 (by decide)) (ms_lt hj 3 (by decide)) (by decide) (fun A => (ceX_m hj G 2 _ _)) (fun A => (ceX_m hj G 3 _ _))) C0.nst.1 ks_X5_copyNumbers kn_X5 kc_X5_copyNumbers hdS_X5_copyNumbers ⟨by decide, by decide⟩ rfl hl.1 rfl (Nat.le_of_ble_eq_true rfl) dX3_closeYear_30 (fun w4 H1 locs1 hp4 hW => ?_)
  have hw4 : w4 = _ := hp4
  refine r_iconst hx hb dX3_closeYear_33 ?_
  refine lv_istore_n (lv' := [(2, .int (iI 0)), (1, .int (iI z1)), (0, .ref (ad G j 0))]) hx hb dX3_closeYear_34 rfl hl (by decide) rfl (fun ls hl => ?_)
  have hL35 : ∀ (n : Nat) (x2 : Int) (wv : gW) (hwv : wv = up w4 j (sF (w4 j) 5 (zeF (w4 j) 5 x2))) (H0 : Heap) (locs0 : List Loc) (ls : Array Slot) (hm : 10 - x2 < (n : Int)) (i35_0 : 0 ≤ x2) (i35_1 : x2 ≤ 10) (hW : wo G wv s H0 locs0) (hl : lv_has ls 3 [(2, .int (iI x2)), (1, .int (iI z1)), (0, .ref (ad G j 0))]), W p l e (rmL 3 64) s m args below meth c H0 locs0 0 0 (QI G (po_X3_closeYear w j) below args s) (F0 m 35 ls []) := by
    intro n
    induction n with
    | zero =>
      intro x2 wv hwv H0 locs0 ls hm i35_0 i35_1 hW hl
      exact absurd hm (by omega)
    | succ n ih35 =>
      intro x2 wv hwv H0 locs0 ls hm i35_0 i35_1 hW hl
      refine lv_iload_n hx hb dX3_closeYear_35 rfl (lv_at hl 0 rfl) ?_
      refine r_bipush hx hb dX3_closeYear_36 (by decide) ?_
      refine r_icmp_ge (tgt := 54) hx hb ⟨by omega, by omega⟩ ⟨by omega, by omega⟩ dX3_closeYear_38 (by decide) (fun c5 => ?_) (fun c5 => ?_)
      · have e10 : x2 = 10 := by omega
        rw [e10] at hwv
        refine lv_aload_n hx hb dX3_closeYear_54 rfl (lv_at hl 2 rfl) ?_
        refine r_iconst hx hb dX3_closeYear_55 ?_
        refine r_pI C0 hW (ms_lt hj 0 (by decide)) (ceX_m hj G 0 _ _) rfl hiX3 tyX3 tyX3_ok nmX3 (k := 11) (v := iI 0) (by decide) kf_X3_65 rfl rfl rfl (tyX3_ok 11 (by decide)) rfl rfl (by simp) (ceX_m hj G 0 _ _) dX3_closeYear_56 (fun H1 locs1 hW => ?_)
        obtain ⟨w6, hw6⟩ : ∃ q : gW, q = up wv j (sS (wv j) 0 11 (iI 0)) := ⟨_, rfl⟩
        rw [← hw6] at hW
        refine lv_aload_n hx hb dX3_closeYear_59 rfl (lv_at hl 2 rfl) ?_
        refine lv_dup hx hb dX3_closeYear_60 rfl ?_
        refine r_gI C0 hW (ms_lt hj 0 (by decide)) (ceX_m hj G 0 _ _) rfl hiX3 (k := 12) (by decide) kf_X3_68 rfl rfl rfl dX3_closeYear_61 (fun z7 (hz7 : z7 = gN (w6 j) 0 12) rz7 => ?_)
        have rz7a := rz7.1
        have rz7b := rz7.2
        try simp (decide := true) only [hw6, hwv, hw4, hw3, hw1, up_s, gA_sF, gN_sF, gA_sA, gN_sA, gA_sS, gN_sS, if_true, if_false, true_and, and_true, false_and, and_false] at hz7
        refine r_iconst hx hb dX3_closeYear_64 ?_
        refine r_iadd hx hb dX3_closeYear_65 ?_
        refine r_pI C0 hW (ms_lt hj 0 (by decide)) (ceX_m hj G 0 _ _) rfl hiX3 tyX3 tyX3_ok nmX3 (k := 12) (v := iI (z7 + 1)) (by decide) kf_X3_68 rfl rfl rfl (tyX3_ok 12 (by decide)) rfl rfl (by simp) (ceX_m hj G 0 _ _) dX3_closeYear_66 (fun H1 locs1 hW => ?_)
        obtain ⟨w8, hw8⟩ : ∃ q : gW, q = up w6 j (sS (w6 j) 0 12 (iI (z7 + 1))) := ⟨_, rfl⟩
        rw [← hw8] at hW
        refine lv_iload_n hx hb dX3_closeYear_69 rfl (lv_at hl 1 rfl) ?_
        exact r_iret C0 hW rz1 (⟨by omega, by unfold yrM; simp (decide := true) only [hw8, hw6, hwv, hw4, hw3, hw1, up_up, up_s, gA_sF, gN_sF, gA_sA, gN_sA, gA_sS, gN_sS, if_true, if_false, true_and, and_true, false_and, and_false, hz2, hz7]⟩) dX3_closeYear_70
      · refine lv_aload_n hx hb dX3_closeYear_41 rfl (lv_at hl 2 rfl) ?_
        refine r_gR C0 hW (ms_lt hj 0 (by decide)) (ceX_m hj G 0 _ _) rfl hiX3 (k := 4) (by decide) kf_X3_24 rfl rfl rfl dX3_closeYear_42 ?_
        refine lv_iload_n hx hb dX3_closeYear_45 rfl (lv_at hl 0 rfl) ?_
        refine r_iconst hx hb dX3_closeYear_46 ?_
        refine r_ist C0 hW (ms_lt hj 5 (by decide)) (fun A => (ceX_m hj G 5 _ _)) (n := 10) (v := iI 0) (by omega) (by omega) (by decide) dX3_closeYear_47 (fun H1 locs1 hW => ?_)
        obtain ⟨w9, hw9⟩ : ∃ q : gW, q = up wv j (sA (wv j) 5 x2 (iI 0)) := ⟨_, rfl⟩
        rw [← hw9] at hW
        refine r_iinc (lv' := [(2, .int (iI (x2 + 1))), (1, .int (iI z1)), (0, .ref (ad G j 0))]) hx hb dX3_closeYear_48 hl (k := 0) rfl (by decide) rfl (fun ls hl => ?_)
        refine lv_goto (tgt := 35) hx hb dX3_closeYear_51 (by decide) ?_
        exact ih35 (x2 + 1) _ (by simp only [hw9, hwv, hw4, hw3, hw1, up_up, up_s, sA_sF]; rw [zeF_s _ _ (by omega)]) _ _ ls (by omega) (by omega) (by omega) hW (lv_sub hl [0, 1, 2] rfl)
  exact hL35 11 0 _ (by rw [zeF_0, sF_id, up_id]) _ _ ls (by omega) (by omega) (by omega) hW (lv_sub hl [0, 1, 2] rfl)

/-- X3_copyFrom: its end -/
def po_X3_copyFrom (w : gW) (j : Nat) (j2 : Nat) : gW → Prop := fun w1 => w1 = up w j (w j2)
theorem hdV_X3_copyFrom : yX3_copyFrom.cls = RX3 ∧ yX3_copyFrom.cls ≠ "java/lang/invoke/MethodHandle" ∧ yX3_copyFrom.cls ≠ "java/lang/invoke/VarHandle" ∧ (parseMethodDescriptor yX3_copyFrom.desc).map (fun d => d.parameters.length) = some 1 := by decide +kernel
set_option maxHeartbeats 4000000 in
set_option maxRecDepth 100000 in
theorem c_X3_copyFrom (l : Launch) (G : gG) (w : gW) {j : Nat} {j2 : Nat} (hj : ms j) (hj2 : ms j2) (hne : ¬ j2 = j) (hwf : wf (w j2)) : mV l G yX3_copyFrom (wU yX3_copyFrom cX3_copyFrom 2 none) (rmL 3 60) [.ref (ad G j 0), .ref (ad G j2 0)] w (po_X3_copyFrom w j j2) := by
  refine mV_of (by decide +kernel) (Nat.le_of_ble_eq_true rfl) (fun p e s m args below meth c ls C0 hW hl => ?_)
  have hl : lv_has ls 2 [(0, .ref (ad G j 0)), (1, .ref (ad G j2 0))] := hl
  have hx := C0.hx
  have hb := C0.hb
  have hun : ∀ (w : gW) (M : gM), up w j M j2 = w j2 := fun w M => up_n w M hne
  obtain ⟨-, -, -, hf1, hf2, hf3, -⟩ := id hwf
  refine lv_aload_n hx hb dX3_copyFrom_0 rfl (lv_at hl 1 rfl) ?_
  refine r_gR C0 hW (ms_lt hj2 0 (by decide)) (ceX_m hj2 G 0 _ _) rfl hiX3 (k := 0) (by decide) kf_X3_9 rfl rfl rfl dX3_copyFrom_1 ?_
  refine lv_aload_n hx hb dX3_copyFrom_4 rfl (lv_at hl 0 rfl) ?_
  refine r_gR C0 hW (ms_lt hj 0 (by decide)) (ceX_m hj G 0 _ _) rfl hiX3 (k := 0) (by decide) kf_X3_9 rfl rfl rfl dX3_copyFrom_5 ?_
  refine k_Nv (own := "") C0 hW (As := [.ref (ad G j2 1), .ref (ad G j 1)]) (c_X5_copyNumbers l G w (n := 20) (ms_lt hj2 1 (by decide)) (ms_lt hj 1 (by decide)) (by decide) (fun A => (ceX_m hj2 G 1 _ _)) (fun A => (ceX_m hj G 1 _ _))) C0.nst.1 ks_X5_copyNumbers kn_X5 kc_X5_copyNumbers hdS_X5_copyNumbers ⟨by decide, by decide⟩ rfl hl.1 rfl (Nat.le_of_ble_eq_true rfl) dX3_copyFrom_8 (fun w1 H1 locs1 hp1 hW => ?_)
  have hw1 : w1 = _ := hp1
  refine lv_aload_n hx hb dX3_copyFrom_11 rfl (lv_at hl 1 rfl) ?_
  refine r_gR C0 hW (ms_lt hj2 0 (by decide)) (ceX_m hj2 G 0 _ _) rfl hiX3 (k := 1) (by decide) kf_X3_15 rfl rfl rfl dX3_copyFrom_12 ?_
  refine lv_aload_n hx hb dX3_copyFrom_15 rfl (lv_at hl 0 rfl) ?_
  refine r_gR C0 hW (ms_lt hj 0 (by decide)) (ceX_m hj G 0 _ _) rfl hiX3 (k := 1) (by decide) kf_X3_15 rfl rfl rfl dX3_copyFrom_16 ?_
  refine k_Nv (own := "") C0 hW (As := [.ref (ad G j2 2), .ref (ad G j 2)]) (c_X5_copyNumbers l G w1 (n := 20) (ms_lt hj2 2 (by decide)) (ms_lt hj 2 (by decide)) (by decide) (fun A => (ceX_m hj2 G 2 _ _)) (fun A => (ceX_m hj G 2 _ _))) C0.nst.1 ks_X5_copyNumbers kn_X5 kc_X5_copyNumbers hdS_X5_copyNumbers ⟨by decide, by decide⟩ rfl hl.1 rfl (Nat.le_of_ble_eq_true rfl) dX3_copyFrom_19 (fun w2 H1 locs1 hp2 hW => ?_)
  have hw2 : w2 = _ := hp2
  refine lv_aload_n hx hb dX3_copyFrom_22 rfl (lv_at hl 1 rfl) ?_
  refine r_gR C0 hW (ms_lt hj2 0 (by decide)) (ceX_m hj2 G 0 _ _) rfl hiX3 (k := 2) (by decide) kf_X3_18 rfl rfl rfl dX3_copyFrom_23 ?_
  refine lv_aload_n hx hb dX3_copyFrom_26 rfl (lv_at hl 0 rfl) ?_
  refine r_gR C0 hW (ms_lt hj 0 (by decide)) (ceX_m hj G 0 _ _) rfl hiX3 (k := 2) (by decide) kf_X3_18 rfl rfl rfl dX3_copyFrom_27 ?_
  refine k_Nv (own := "") C0 hW (As := [.ref (ad G j2 3), .ref (ad G j 3)]) (c_X5_copyNumbers l G w2 (n := 20) (ms_lt hj2 3 (by decide)) (ms_lt hj 3 (by decide)) (by decide) (fun A => (ceX_m hj2 G 3 _ _)) (fun A => (ceX_m hj G 3 _ _))) C0.nst.1 ks_X5_copyNumbers kn_X5 kc_X5_copyNumbers hdS_X5_copyNumbers ⟨by decide, by decide⟩ rfl hl.1 rfl (Nat.le_of_ble_eq_true rfl) dX3_copyFrom_30 (fun w3 H1 locs1 hp3 hW => ?_)
  have hw3 : w3 = _ := hp3
  refine lv_aload_n hx hb dX3_copyFrom_33 rfl (lv_at hl 1 rfl) ?_
  refine r_gR C0 hW (ms_lt hj2 0 (by decide)) (ceX_m hj2 G 0 _ _) rfl hiX3 (k := 3) (by decide) kf_X3_21 rfl rfl rfl dX3_copyFrom_34 ?_
  refine lv_aload_n hx hb dX3_copyFrom_37 rfl (lv_at hl 0 rfl) ?_
  refine r_gR C0 hW (ms_lt hj 0 (by decide)) (ceX_m hj G 0 _ _) rfl hiX3 (k := 3) (by decide) kf_X3_21 rfl rfl rfl dX3_copyFrom_38 ?_
  refine k_Nv (own := "") C0 hW (As := [.ref (ad G j2 4), .ref (ad G j 4)]) (c_X5_copyNumbers l G w3 (n := 10) (ms_lt hj2 4 (by decide)) (ms_lt hj 4 (by decide)) (by decide) (fun A => (ceX_m hj2 G 4 _ _)) (fun A => (ceX_m hj G 4 _ _))) C0.nst.1 ks_X5_copyNumbers kn_X5 kc_X5_copyNumbers hdS_X5_copyNumbers ⟨by decide, by decide⟩ rfl hl.1 rfl (Nat.le_of_ble_eq_true rfl) dX3_copyFrom_41 (fun w4 H1 locs1 hp4 hW => ?_)
  have hw4 : w4 = _ := hp4
  refine lv_aload_n hx hb dX3_copyFrom_44 rfl (lv_at hl 1 rfl) ?_
  refine r_gR C0 hW (ms_lt hj2 0 (by decide)) (ceX_m hj2 G 0 _ _) rfl hiX3 (k := 4) (by decide) kf_X3_24 rfl rfl rfl dX3_copyFrom_45 ?_
  refine lv_aload_n hx hb dX3_copyFrom_48 rfl (lv_at hl 0 rfl) ?_
  refine r_gR C0 hW (ms_lt hj 0 (by decide)) (ceX_m hj G 0 _ _) rfl hiX3 (k := 4) (by decide) kf_X3_24 rfl rfl rfl dX3_copyFrom_49 ?_
  refine k_Nv (own := "") C0 hW (As := [.ref (ad G j2 5), .ref (ad G j 5)]) (c_X5_copyNumbers l G w4 (n := 10) (ms_lt hj2 5 (by decide)) (ms_lt hj 5 (by decide)) (by decide) (fun A => (ceX_m hj2 G 5 _ _)) (fun A => (ceX_m hj G 5 _ _))) C0.nst.1 ks_X5_copyNumbers kn_X5 kc_X5_copyNumbers hdS_X5_copyNumbers ⟨by decide, by decide⟩ rfl hl.1 rfl (Nat.le_of_ble_eq_true rfl) dX3_copyFrom_52 (fun w5 H1 locs1 hp5 hW => ?_)
  have hw5 : w5 = _ := hp5
  refine lv_aload_n hx hb dX3_copyFrom_55 rfl (lv_at hl 1 rfl) ?_
  refine r_gR C0 hW (ms_lt hj2 0 (by decide)) (ceX_m hj2 G 0 _ _) rfl hiX3 (k := 5) (by decide) kf_X3_27 rfl rfl rfl dX3_copyFrom_56 ?_
  refine lv_aload_n hx hb dX3_copyFrom_59 rfl (lv_at hl 0 rfl) ?_
  refine r_gR C0 hW (ms_lt hj 0 (by decide)) (ceX_m hj G 0 _ _) rfl hiX3 (k := 5) (by decide) kf_X3_27 rfl rfl rfl dX3_copyFrom_60 ?_
  refine k_Nv (own := "") C0 hW (As := [.ref (ad G j2 6), .ref (ad G j 6)]) (c_X5_copyNumbers l G w5 (n := 10) (ms_lt hj2 6 (by decide)) (ms_lt hj 6 (by decide)) (by decide) (fun A => (ceX_m hj2 G 6 _ _)) (fun A => (ceX_m hj G 6 _ _))) C0.nst.1 ks_X5_copyNumbers kn_X5 kc_X5_copyNumbers hdS_X5_copyNumbers ⟨by decide, by decide⟩ rfl hl.1 rfl (Nat.le_of_ble_eq_true rfl) dX3_copyFrom_63 (fun w6 H1 locs1 hp6 hW => ?_)
  have hw6 : w6 = _ := hp6
  refine lv_aload_n hx hb dX3_copyFrom_66 rfl (lv_at hl 0 rfl) ?_
  refine r_gR C0 hW (ms_lt hj 0 (by decide)) (ceX_m hj G 0 _ _) rfl hiX3 (k := 6) (by decide) kf_X3_33 rfl rfl rfl dX3_copyFrom_67 ?_
  refine lv_aload_n hx hb dX3_copyFrom_70 rfl (lv_at hl 1 rfl) ?_
  refine r_gR C0 hW (ms_lt hj2 0 (by decide)) (ceX_m hj2 G 0 _ _) rfl hiX3 (k := 6) (by decide) kf_X3_33 rfl rfl rfl dX3_copyFrom_71 ?_
  refine k_Vv (j := j) (k0 := 7) C0 hW (c_X4_copyFrom l G w6 hj hj2 (by omega) (by simp only [hw6, hw5, hw4, hw3, hw2, hw1, up_up, up_s, hun]; exact hwf)) km_X3_52 ki_X4_copyFrom ke_X4_copyFrom kn_X4 kc_X4_copyFrom rfl hdV_X4_copyFrom ⟨by decide, by decide⟩ (ms_lt hj 7 (by decide)) (ceX_m hj G 7 _ _) rfl rfl hl.1 rfl (Nat.le_of_ble_eq_true rfl) dX3_copyFrom_74 (fun w7 H1 locs1 hp7 hW => ?_)
  have hw7 : w7 = _ := hp7
  refine lv_aload_n hx hb dX3_copyFrom_77 rfl (lv_at hl 0 rfl) ?_
  refine r_gR C0 hW (ms_lt hj 0 (by decide)) (ceX_m hj G 0 _ _) rfl hiX3 (k := 7) (by decide) kf_X3_40 rfl rfl rfl dX3_copyFrom_78 ?_
  refine lv_aload_n hx hb dX3_copyFrom_81 rfl (lv_at hl 1 rfl) ?_
  refine r_gR C0 hW (ms_lt hj2 0 (by decide)) (ceX_m hj2 G 0 _ _) rfl hiX3 (k := 7) (by decide) kf_X3_40 rfl rfl rfl dX3_copyFrom_82 ?_
  refine k_Vv (j := j) (k0 := 14) C0 hW (c_X1_copyFrom l G w7 hj hj2 (by omega) (by simp only [hw7, hw6, hw5, hw4, hw3, hw2, hw1, up_up, up_s, hun]; exact hwf)) km_X3_56 ki_X1_copyFrom ke_X1_copyFrom kn_X1 kc_X1_copyFrom rfl hdV_X1_copyFrom ⟨by decide, by decide⟩ (ms_lt hj 14 (by decide)) (ceX_m hj G 14 _ _) rfl rfl hl.1 rfl (Nat.le_of_ble_eq_true rfl) dX3_copyFrom_85 (fun w8 H1 locs1 hp8 hW => ?_)
  have hw8 : w8 = _ := hp8
  refine lv_aload_n hx hb dX3_copyFrom_88 rfl (lv_at hl 0 rfl) ?_
  refine lv_aload_n hx hb dX3_copyFrom_89 rfl (lv_at hl 1 rfl) ?_
  refine r_gI C0 hW (ms_lt hj2 0 (by decide)) (ceX_m hj2 G 0 _ _) rfl hiX3 (k := 8) (by decide) kf_X3_44 rfl rfl rfl dX3_copyFrom_90 (fun z9 (hz9 : z9 = gN (w8 j2) 0 8) rz9 => ?_)
  have rz9a := rz9.1
  have rz9b := rz9.2
  try simp (decide := true) only [hw8, hw7, hw6, hw5, hw4, hw3, hw2, hw1, up_s, gA_sF, gN_sF, gA_sA, gN_sA, gA_sS, gN_sS, if_true, if_false, true_and, and_true, false_and, and_false, hun] at hz9
  refine r_pI C0 hW (ms_lt hj 0 (by decide)) (ceX_m hj G 0 _ _) rfl hiX3 tyX3 tyX3_ok nmX3 (k := 8) (v := iI z9) (by decide) kf_X3_44 rfl rfl rfl (tyX3_ok 8 (by decide)) rfl rfl (by simp) (ceX_m hj G 0 _ _) dX3_copyFrom_93 (fun H1 locs1 hW => ?_)
  obtain ⟨w10, hw10⟩ : ∃ q : gW, q = up w8 j (sS (w8 j) 0 8 (iI z9)) := ⟨_, rfl⟩
  rw [← hw10] at hW
  refine lv_aload_n hx hb dX3_copyFrom_96 rfl (lv_at hl 0 rfl) ?_
  refine lv_aload_n hx hb dX3_copyFrom_97 rfl (lv_at hl 1 rfl) ?_
  refine r_gI C0 hW (ms_lt hj2 0 (by decide)) (ceX_m hj2 G 0 _ _) rfl hiX3 (k := 9) (by decide) kf_X3_59 rfl rfl rfl dX3_copyFrom_98 (fun z11 (hz11 : z11 = gN (w10 j2) 0 9) rz11 => ?_)
  have rz11a := rz11.1
  have rz11b := rz11.2
  try simp (decide := true) only [hw10, hw8, hw7, hw6, hw5, hw4, hw3, hw2, hw1, up_s, gA_sF, gN_sF, gA_sA, gN_sA, gA_sS, gN_sS, if_true, if_false, true_and, and_true, false_and, and_false, hun] at hz11
  refine r_pI C0 hW (ms_lt hj 0 (by decide)) (ceX_m hj G 0 _ _) rfl hiX3 tyX3 tyX3_ok nmX3 (k := 9) (v := iI z11) (by decide) kf_X3_59 rfl rfl rfl (tyX3_ok 9 (by decide)) rfl rfl (by simp) (ceX_m hj G 0 _ _) dX3_copyFrom_101 (fun H1 locs1 hW => ?_)
  obtain ⟨w12, hw12⟩ : ∃ q : gW, q = up w10 j (sS (w10 j) 0 9 (iI z11)) := ⟨_, rfl⟩
  rw [← hw12] at hW
  refine lv_aload_n hx hb dX3_copyFrom_104 rfl (lv_at hl 0 rfl) ?_
  refine lv_aload_n hx hb dX3_copyFrom_105 rfl (lv_at hl 1 rfl) ?_
  refine r_gI C0 hW (ms_lt hj2 0 (by decide)) (ceX_m hj2 G 0 _ _) rfl hiX3 (k := 10) (by decide) kf_X3_62 rfl rfl rfl dX3_copyFrom_106 (fun z13 (hz13 : z13 = gN (w12 j2) 0 10) rz13 => ?_)
  have rz13a := rz13.1
  have rz13b := rz13.2
  try simp (decide := true) only [hw12, hw10, hw8, hw7, hw6, hw5, hw4, hw3, hw2, hw1, up_s, gA_sF, gN_sF, gA_sA, gN_sA, gA_sS, gN_sS, if_true, if_false, true_and, and_true, false_and, and_false, hun] at hz13
  refine r_pI C0 hW (ms_lt hj 0 (by decide)) (ceX_m hj G 0 _ _) rfl hiX3 tyX3 tyX3_ok nmX3 (k := 10) (v := iI z13) (by decide) kf_X3_62 rfl rfl rfl (tyX3_ok 10 (by decide)) rfl rfl (by simp) (ceX_m hj G 0 _ _) dX3_copyFrom_109 (fun H1 locs1 hW => ?_)
  obtain ⟨w14, hw14⟩ : ∃ q : gW, q = up w12 j (sS (w12 j) 0 10 (iI z13)) := ⟨_, rfl⟩
  rw [← hw14] at hW
  refine lv_aload_n hx hb dX3_copyFrom_112 rfl (lv_at hl 0 rfl) ?_
  refine lv_aload_n hx hb dX3_copyFrom_113 rfl (lv_at hl 1 rfl) ?_
  refine r_gI C0 hW (ms_lt hj2 0 (by decide)) (ceX_m hj2 G 0 _ _) rfl hiX3 (k := 11) (by decide) kf_X3_65 rfl rfl rfl dX3_copyFrom_114 (fun z15 (hz15 : z15 = gN (w14 j2) 0 11) rz15 => ?_)
  have rz15a := rz15.1
  have rz15b := rz15.2
  try simp (decide := true) only [hw14, hw12, hw10, hw8, hw7, hw6, hw5, hw4, hw3, hw2, hw1, up_s, gA_sF, gN_sF, gA_sA, gN_sA, gA_sS, gN_sS, if_true, if_false, true_and, and_true, false_and, and_false, hun] at hz15
  refine r_pI C0 hW (ms_lt hj 0 (by decide)) (ceX_m hj G 0 _ _) rfl hiX3 tyX3 tyX3_ok nmX3 (k := 11) (v := iI z15) (by decide) kf_X3_65 rfl rfl rfl (tyX3_ok 11 (by decide)) rfl rfl (by simp) (ceX_m hj G 0 _ _) dX3_copyFrom_117 (fun H1 locs1 hW => ?_)
  obtain ⟨w16, hw16⟩ : ∃ q : gW, q = up w14 j (sS (w14 j) 0 11 (iI z15)) := ⟨_, rfl⟩
  rw [← hw16] at hW
  refine lv_aload_n hx hb dX3_copyFrom_120 rfl (lv_at hl 0 rfl) ?_
  refine lv_aload_n hx hb dX3_copyFrom_121 rfl (lv_at hl 1 rfl) ?_
  refine r_gI C0 hW (ms_lt hj2 0 (by decide)) (ceX_m hj2 G 0 _ _) rfl hiX3 (k := 12) (by decide) kf_X3_68 rfl rfl rfl dX3_copyFrom_122 (fun z17 (hz17 : z17 = gN (w16 j2) 0 12) rz17 => ?_)
  have rz17a := rz17.1
  have rz17b := rz17.2
  try simp (decide := true) only [hw16, hw14, hw12, hw10, hw8, hw7, hw6, hw5, hw4, hw3, hw2, hw1, up_s, gA_sF, gN_sF, gA_sA, gN_sA, gA_sS, gN_sS, if_true, if_false, true_and, and_true, false_and, and_false, hun] at hz17
  refine r_pI C0 hW (ms_lt hj 0 (by decide)) (ceX_m hj G 0 _ _) rfl hiX3 tyX3 tyX3_ok nmX3 (k := 12) (v := iI z17) (by decide) kf_X3_68 rfl rfl rfl (tyX3_ok 12 (by decide)) rfl rfl (by simp) (ceX_m hj G 0 _ _) dX3_copyFrom_125 (fun H1 locs1 hW => ?_)
  obtain ⟨w18, hw18⟩ : ∃ q : gW, q = up w16 j (sS (w16 j) 0 12 (iI z17)) := ⟨_, rfl⟩
  rw [← hw18] at hW
  refine lv_aload_n hx hb dX3_copyFrom_128 rfl (lv_at hl 0 rfl) ?_
  refine lv_aload_n hx hb dX3_copyFrom_129 rfl (lv_at hl 1 rfl) ?_
  refine r_gI C0 hW (ms_lt hj2 0 (by decide)) (ceX_m hj2 G 0 _ _) rfl hiX3 (k := 13) (by decide) kf_X3_71 rfl rfl rfl dX3_copyFrom_130 (fun z19 (hz19 : z19 = gN (w18 j2) 0 13) rz19 => ?_)
  have rz19a := rz19.1
  have rz19b := rz19.2
  try simp (decide := true) only [hw18, hw16, hw14, hw12, hw10, hw8, hw7, hw6, hw5, hw4, hw3, hw2, hw1, up_s, gA_sF, gN_sF, gA_sA, gN_sA, gA_sS, gN_sS, if_true, if_false, true_and, and_true, false_and, and_false, hun] at hz19
  refine r_pI C0 hW (ms_lt hj 0 (by decide)) (ceX_m hj G 0 _ _) rfl hiX3 tyX3 tyX3_ok nmX3 (k := 13) (v := iI z19) (by decide) kf_X3_71 rfl rfl rfl (tyX3_ok 13 (by decide)) rfl rfl (by simp) (ceX_m hj G 0 _ _) dX3_copyFrom_133 (fun H1 locs1 hW => ?_)
  obtain ⟨w20, hw20⟩ : ∃ q : gW, q = up w18 j (sS (w18 j) 0 13 (iI z19)) := ⟨_, rfl⟩
  rw [← hw20] at hW
  rw [show w20 = up w j (mosC (w j) (w j2)) from by simp only [hw20, hw18, hw16, hw14, hw12, hw10, hw8, hw7, hw6, hw5, hw4, hw3, hw2, hw1, up_up, up_s, hun, mosC, hz9, hz11, hz13, hz15, hz17, hz19, gN_i]] at hW
  have hW := wo_eqM (w j2) (mosC_eq hj _ _) hW
  exact r_vret C0 hW (rfl) dX3_copyFrom_136
end
section
/-! the history: its four fields hold the numbers of four blocks -/
def hst (w : gW) (b0 b1 b2 b3 : Nat) : Prop := gN (w 4) 0 0 = (b0 : Int) ∧ gN (w 4) 0 1 = (b1 : Int) ∧ gN (w 4) 0 2 = (b2 : Int) ∧ gN (w 4) 0 3 = (b3 : Int)
def p4 (b0 b1 b2 b3 : Nat) : Prop := (5 ≤ b0 ∧ b0 ≤ 8) ∧ (5 ≤ b1 ∧ b1 ≤ 8) ∧ (5 ≤ b2 ∧ b2 ≤ 8) ∧ (5 ≤ b3 ∧ b3 ≤ 8) ∧ ¬ b0 = b1 ∧ ¬ b0 = b2 ∧ ¬ b0 = b3 ∧ ¬ b1 = b2 ∧ ¬ b1 = b3 ∧ ¬ b2 = b3
theorem ms_b {b : Nat} (h : 5 ≤ b ∧ b ≤ 8) : ms b := by unfold ms; omega
theorem hb_of {M : gM} {k b : Nat} (h : gN M 0 k = (b : Int)) : hb (M.2 0) k = b := by
  unfold hb
  rw [show (M.2 0 k).toInt = (b : Int) from h]
  rfl
theorem up_over (w : gW) (a b : Nat) (A B M : gM) : up (up (up w a A) b M) a B = up (up w b M) a B := by
  funext q
  simp only [up]
  by_cases h1 : q = a
  · simp [h1]
  · by_cases h2 : q = b
    · simp [h1, h2]
    · simp [h1, h2]
theorem iI_nat {b : Nat} (h : b < 11) : (iI (b : Int)).toInt = (b : Int) := iI_t ⟨by omega, by omega⟩
def recM (M : gM) (b0 b1 b2 b3 : Nat) : gM := sS (sS (sS (sS (sS M 0 3 (iI b2)) 0 2 (iI b1)) 0 1 (iI b0)) 0 0 (iI b3)) 0 4 (iI (min 4 (gN M 0 4 + 1)))
def tbM (M : gM) (b0 b1 b2 b3 : Nat) : gM := sS (sS (sS (sS (sS M 0 0 (iI b1)) 0 1 (iI b2)) 0 2 (iI b3)) 0 3 (iI b0)) 0 4 (iI (gN M 0 4 - 1))
section RPH
variable {p : Program} {l : Launch} {e : Env} {R : Room} {s : State} {m : MethodId} {args : Array Value} {below : List Frame} {meth : Method} {c : Code} {H : Heap} {locs : List Loc} {cells slots : Nat} {Q : State → Prop}
variable {cc : ByteArray} {pc : Nat} {ls : Array Slot} {rest : List Value} {G : gG} {w : gW} {y : MethodName} {nL : Nat} {ret : Option FieldType}
theorem r_pH (C0 : cx p s m args meth c y cc nL ret) (hW : wo G w s H locs) {k index b : Nat} (hk : k < 4) (hb9 : b < 11) (hlink : Cond.fieldLink RX2 index "PeatBanks$History" (TX2 k).2.1 (TX2 k).2.2.1 ∈ wsG) (ho : RX2 = y.cls) (hdg : decode cc pc = .ok (.putfield index, 3))
    (kk : ∀ (H1 : Heap) (locs1 : List Loc), wo G (up w 4 (sS (w 4) 0 k (iI (b : Int)))) s H1 locs1 → W p l e R s m args below meth c H1 locs1 cells slots Q (F0 m (pc + 3) ls rest)) : W p l e R s m args below meth c H locs cells slots Q (F0 m pc ls (.ref (ad G b 0) :: .ref (ad G 4 0) :: rest)) := by
  have hxx := C0.hx
  have hbb := C0.hb
  have hts := C0.fix.2.2.2.2
  have hown := C0.fix.2.2.2.1
  have hj : 4 < 11 ∧ 0 < bs 4 := ⟨by decide, by decide⟩
  have hbk : ∀ F : Nat → Int32, F k = iI (b : Int) → hb F k = b := fun F h => by
    unfold hb
    rw [h, iI_nat hb9]
    rfl
  have hcl : vwCl[2]? = some (RX2, TX2, 5) := rfl
  have hd : ∃ ty, parseFieldDescriptor (TX2 k).2.2.1 = some ty ∧ ty = .object "PeatBanks$Moss" ∧ (TX2 k).1 = "PeatBanks$History" ∧ (TX2 k).2.2.2 = false := by
    match k, hk with
    | 0, _ => exact ⟨_, tyX2_ok 0 (by decide), rfl, rfl, rfl⟩
    | 1, _ => exact ⟨_, tyX2_ok 1 (by decide), rfl, rfl, rfl⟩
    | 2, _ => exact ⟨_, tyX2_ok 2 (by decide), rfl, rfl, rfl⟩
    | 3, _ => exact ⟨_, tyX2_ok 3 (by decide), rfl, rfl, rfl⟩
    | j + 4, h => exact absurd h (by omega)
  obtain ⟨ty, hd, hty, hfr, hfin⟩ := hd
  rw [← ho] at hown
  refine va_put hxx hbb hts (fun w hw => wU_in (hiX2 w hw)) tyX2 tyX2_ok nmX2 hown hW.2.1 hW.1 (WL_D G w) hW.2.2 (bo 4 + 0) (fs := [.ref (ad G (hb ((w 4).2 0) 0) 0), .ref (ad G (hb ((w 4).2 0) 1) 0), .ref (ad G (hb ((w 4).2 0) 2) 0), .ref (ad G (hb ((w 4).2 0) 3) 0), .int ((w 4).2 0 4)]) (WL_get G w hj) hcl k (by omega) (hts _ (wU_in hlink)) (fun _ h9 => by rw [← hfr]; exact h9) hfin hd (by rw [hty]; rfl) (by rw [hty]; rfl) (by show k < 5; omega) hdg (fun H1 locs1 hP _ hS => kk H1 locs1 ?_)
  have he2 : ceX G 4 0 ((w 4).1 0) (fun f' => if f' = k then iI (b : Int) else (w 4).2 0 f') = .inr (2, [.ref (ad G (hb ((w 4).2 0) 0) 0), .ref (ad G (hb ((w 4).2 0) 1) 0), .ref (ad G (hb ((w 4).2 0) 2) 0), .ref (ad G (hb ((w 4).2 0) 3) 0), .int ((w 4).2 0 4)].set k (.ref (ad G b 0))) := by
    have hs := hbk (fun f' => if f' = k then iI (b : Int) else (w 4).2 0 f') (by simp)
    match k, hk, hs with
    | 0, _, hs => exact congrArg (fun q : Nat => (Sum.inr (2, [Value.ref (ad G q 0), Value.ref (ad G (hb ((w 4).2 0) 1) 0), Value.ref (ad G (hb ((w 4).2 0) 2) 0), Value.ref (ad G (hb ((w 4).2 0) 3) 0), Value.int ((w 4).2 0 4)]) : va_E)) hs
    | 1, _, hs => exact congrArg (fun q : Nat => (Sum.inr (2, [Value.ref (ad G (hb ((w 4).2 0) 0) 0), Value.ref (ad G q 0), Value.ref (ad G (hb ((w 4).2 0) 2) 0), Value.ref (ad G (hb ((w 4).2 0) 3) 0), Value.int ((w 4).2 0 4)]) : va_E)) hs
    | 2, _, hs => exact congrArg (fun q : Nat => (Sum.inr (2, [Value.ref (ad G (hb ((w 4).2 0) 0) 0), Value.ref (ad G (hb ((w 4).2 0) 1) 0), Value.ref (ad G q 0), Value.ref (ad G (hb ((w 4).2 0) 3) 0), Value.int ((w 4).2 0 4)]) : va_E)) hs
    | 3, _, hs => exact congrArg (fun q : Nat => (Sum.inr (2, [Value.ref (ad G (hb ((w 4).2 0) 0) 0), Value.ref (ad G (hb ((w 4).2 0) 1) 0), Value.ref (ad G (hb ((w 4).2 0) 2) 0), Value.ref (ad G q 0), Value.int ((w 4).2 0 4)]) : va_E)) hs
    | j + 4, h, _ => exact absurd h (by omega)
  have h := wo_set hj hW.2.1 he2 hP hS
  rwa [sC_S] at h
end RPH
/-! the text -/
def isL (ch : Int) : Prop := ch = 115 ∨ ch = 99 ∨ ch = 114
def isDg (ch : Int) : Prop := 48 ≤ ch ∧ ch ≤ 57
def wOf (ch : Int) : Int := if ch = 115 then 0 else if ch = 99 then 1 else 2
def opnG (M : gM) (wt : Int) : gM := sS (sA (sA M 2 (gN M 0 4) (iI wt)) 3 (gN M 0 4) (iI 1)) 0 4 (iI (gN M 0 4 + 1))
def appM (M : gM) (ch : Int) : gM := sS (sA M 1 (gN M 0 1) (iI ch)) 0 1 (iI (gN M 0 1 + 1))
/-- the reader behind n characters: the block, and the number that is being read -/
noncomputable def rgs (M : gM) : Nat → gM × Int
  | 0 => (sS M 0 4 (iI 0), 0)
  | n + 1 => @ite _ (isL (gA M 1 n)) (Classical.propDecidable _) (opnG (rgs M n).1 (wOf (gA M 1 n)), 0) (sA (rgs M n).1 3 (gN (rgs M n).1 0 4 - 1) (iI ((rgs M n).2 * 10 + (gA M 1 n - 48))), (rgs M n).2 * 10 + (gA M 1 n - 48))
theorem rgs_s (M : gM) (n : Nat) : rgs M (n + 1) = @ite _ (isL (gA M 1 n)) (Classical.propDecidable _) (opnG (rgs M n).1 (wOf (gA M 1 n)), 0) (sA (rgs M n).1 3 (gN (rgs M n).1 0 4 - 1) (iI ((rgs M n).2 * 10 + (gA M 1 n - 48))), (rgs M n).2 * 10 + (gA M 1 n - 48)) := rfl
noncomputable def rgW (M : gM) (x : Int) : gM := (rgs M x.toNat).1
noncomputable def rgN (M : gM) (x : Int) : Int := (rgs M x.toNat).2
/-- the character at x is allowed there -/
def rgO (M : gM) (x : Int) : Prop := (isL (gA M 1 x) ∧ ¬ rgN M x = 1) ∨ (¬ isL (gA M 1 x) ∧ isDg (gA M 1 x) ∧ 0 < gN (rgW M x) 0 4 ∧ ¬ rgN M x * 10 + (gA M 1 x - 48) = 0 ∧ rgN M x * 10 + (gA M 1 x - 48) ≤ 60)
theorem rg_L {M : gM} {x : Int} (h : 0 ≤ x) (hL : isL (gA M 1 x)) : rgW M (x + 1) = opnG (rgW M x) (wOf (gA M 1 x)) ∧ rgN M (x + 1) = 0 := by
  unfold rgW rgN
  rw [toNat_s h, rgs_s, Int.toNat_of_nonneg h, @if_pos _ (Classical.propDecidable _) hL]
  exact ⟨rfl, rfl⟩
theorem rg_D {M : gM} {x : Int} (h : 0 ≤ x) (hL : ¬ isL (gA M 1 x)) : rgW M (x + 1) = sA (rgW M x) 3 (gN (rgW M x) 0 4 - 1) (iI (rgN M x * 10 + (gA M 1 x - 48))) ∧ rgN M (x + 1) = rgN M x * 10 + (gA M 1 x - 48) := by
  unfold rgW rgN
  rw [toNat_s h, rgs_s, Int.toNat_of_nonneg h, @if_neg _ (Classical.propDecidable _) hL]
  exact ⟨rfl, rfl⟩
theorem rg_0 (M : gM) : rgW M 0 = sS M 0 4 (iI 0) ∧ rgN M 0 = 0 := ⟨rfl, rfl⟩
theorem rg_keep (M : gM) : ∀ n : Nat, (rgs M n).1.1 1 = M.1 1 ∧ (rgs M n).1.2 0 1 = M.2 0 1
  | 0 => ⟨rfl, rfl⟩
  | n + 1 => by
    obtain ⟨h1, h2⟩ := rg_keep M n
    rw [rgs_s]
    by_cases hL : isL (gA M 1 n)
    · rw [@if_pos _ (Classical.propDecidable _) hL]; exact ⟨h1, h2⟩
    · rw [@if_neg _ (Classical.propDecidable _) hL]; exact ⟨h1, h2⟩
theorem rgW_1 (M : gM) (x : Int) : (rgW M x).1 1 = M.1 1 := (rg_keep M x.toNat).1
theorem rgW_len (M : gM) (x : Int) : gN (rgW M x) 0 1 = gN M 0 1 := congrArg Int32.toInt (rg_keep M x.toNat).2
theorem rgW_ch (M : gM) (x q : Int) : gA (rgW M x) 1 q = gA M 1 q := by unfold gA; rw [rgW_1]
end
section
/-- X2_record: its end -/
def po_X2_record (w : gW) (b0 : Nat) (b1 : Nat) (b2 : Nat) (b3 : Nat) : gW → Prop := fun w1 => w1 = up (up w b3 (w 1)) 4 (recM (w 4) b0 b1 b2 b3)
theorem hdV_X2_record : yX2_record.cls = RX2 ∧ yX2_record.cls ≠ "java/lang/invoke/MethodHandle" ∧ yX2_record.cls ≠ "java/lang/invoke/VarHandle" ∧ (parseMethodDescriptor yX2_record.desc).map (fun d => d.parameters.length) = some 1 := by decide +kernel
set_option maxHeartbeats 4000000 in
set_option maxRecDepth 100000 in
theorem c_X2_record (l : Launch) (G : gG) (w : gW) {b0 : Nat} {b1 : Nat} {b2 : Nat} {b3 : Nat} (hp4 : p4 b0 b1 b2 b3) (hh : hst w b0 b1 b2 b3) (hwf : wf (w 1)) (hs4 : 0 ≤ gN (w 4) 0 4 ∧ gN (w 4) 0 4 ≤ 4) : mV l G yX2_record (wU yX2_record cX2_record 3 none) (rmL 4 81) [.ref (ad G 4 0), .ref (ad G 1 0)] w (po_X2_record w b0 b1 b2 b3) := by
  refine mV_of (by decide +kernel) (Nat.le_of_ble_eq_true rfl) (fun p e s m args below meth c ls C0 hW hl => ?_)
  have hl : lv_has ls 3 [(0, .ref (ad G 4 0)), (1, .ref (ad G 1 0))] := hl
  have hx := C0.hx
  have hb := C0.hb
  obtain ⟨q0, q1, q2, q3, n1, n2, n3, n4, n5, n6⟩ := id hp4
  obtain ⟨hh0, hh1, hh2, hh3⟩ := id hh
  have hm0 := ms_b q0
  have hm3 := ms_b q3
  have hu3 : ∀ (w : gW) (M : gM), up w b3 M 4 = w 4 := fun w M => up_n w M (by omega)
  have hu1 : ∀ (w : gW) (M : gM), up w 4 M 1 = w 1 := fun w M => up_n w M (by decide)
  have hu0 : ∀ (w : gW) (M : gM), up w 4 M b0 = w b0 := fun w M => up_n w M (by omega)
  have hu4 : ∀ (w : gW) (M : gM), up w 1 M 4 = w 4 := fun w M => up_n w M (by decide)
  refine lv_aload_n hx hb dX2_record_0 rfl (lv_at hl 0 rfl) ?_
  refine r_gR C0 hW (show 4 < 11 ∧ 0 < bs 4 from ⟨by decide, by decide⟩) rfl rfl hiX2 (k := 3) (by decide) kf_X2_24 rfl rfl rfl dX2_record_1 ?_
  rw [hb_of hh3]
  refine lv_astore_n (lv' := [(2, .ref (ad G b3 0)), (0, .ref (ad G 4 0)), (1, .ref (ad G 1 0))]) hx hb dX2_record_4 rfl hl (by decide) rfl (fun ls hl => ?_)
  refine lv_aload_n hx hb dX2_record_5 rfl (lv_at hl 1 rfl) ?_
  refine lv_aload_n hx hb dX2_record_6 rfl (lv_at hl 1 rfl) ?_
  refine r_gR C0 hW (show 4 < 11 ∧ 0 < bs 4 from ⟨by decide, by decide⟩) rfl rfl hiX2 (k := 2) (by decide) kf_X2_21 rfl rfl rfl dX2_record_7 ?_
  rw [hb_of hh2]
  refine r_pH C0 hW (k := 3) (b := b2) (by decide) (by omega) kf_X2_24 rfl dX2_record_10 (fun H1 locs1 hW => ?_)
  obtain ⟨w1, hw1⟩ : ∃ q : gW, q = up w 4 (sS (w 4) 0 3 (iI (b2 : Int))) := ⟨_, rfl⟩
  rw [← hw1] at hW
  obtain ⟨hh0, hh1, hh2, hh3⟩ : hst w1 b0 b1 b2 b2 := by
    refine ⟨?_, ?_, ?_, ?_⟩ <;> (rw [hw1, up_s, gN_sS]; first | (rw [if_pos (by decide)]; exact iI_nat (by omega)) | (rw [if_neg (by decide)]; assumption))
  refine lv_aload_n hx hb dX2_record_13 rfl (lv_at hl 1 rfl) ?_
  refine lv_aload_n hx hb dX2_record_14 rfl (lv_at hl 1 rfl) ?_
  refine r_gR C0 hW (show 4 < 11 ∧ 0 < bs 4 from ⟨by decide, by decide⟩) rfl rfl hiX2 (k := 1) (by decide) kf_X2_18 rfl rfl rfl dX2_record_15 ?_
  rw [hb_of hh1]
  refine r_pH C0 hW (k := 2) (b := b1) (by decide) (by omega) kf_X2_21 rfl dX2_record_18 (fun H1 locs1 hW => ?_)
  obtain ⟨w2, hw2⟩ : ∃ q : gW, q = up w1 4 (sS (w1 4) 0 2 (iI (b1 : Int))) := ⟨_, rfl⟩
  rw [← hw2] at hW
  obtain ⟨hh0, hh1, hh2, hh3⟩ : hst w2 b0 b1 b1 b2 := by
    refine ⟨?_, ?_, ?_, ?_⟩ <;> (rw [hw2, up_s, gN_sS]; first | (rw [if_pos (by decide)]; exact iI_nat (by omega)) | (rw [if_neg (by decide)]; assumption))
  refine lv_aload_n hx hb dX2_record_21 rfl (lv_at hl 1 rfl) ?_
  refine lv_aload_n hx hb dX2_record_22 rfl (lv_at hl 1 rfl) ?_
  refine r_gR C0 hW (show 4 < 11 ∧ 0 < bs 4 from ⟨by decide, by decide⟩) rfl rfl hiX2 (k := 0) (by decide) kf_X2_12 rfl rfl rfl dX2_record_23 ?_
  rw [hb_of hh0]
  refine r_pH C0 hW (k := 1) (b := b0) (by decide) (by omega) kf_X2_18 rfl dX2_record_26 (fun H1 locs1 hW => ?_)
  obtain ⟨w3, hw3⟩ : ∃ q : gW, q = up w2 4 (sS (w2 4) 0 1 (iI (b0 : Int))) := ⟨_, rfl⟩
  rw [← hw3] at hW
  obtain ⟨hh0, hh1, hh2, hh3⟩ : hst w3 b0 b0 b1 b2 := by
    refine ⟨?_, ?_, ?_, ?_⟩ <;> (rw [hw3, up_s, gN_sS]; first | (rw [if_pos (by decide)]; exact iI_nat (by omega)) | (rw [if_neg (by decide)]; assumption))
  refine lv_aload_n hx hb dX2_record_29 rfl (lv_at hl 1 rfl) ?_
  refine lv_aload_n hx hb dX2_record_30 rfl (lv_at hl 0 rfl) ?_
  refine r_pH C0 hW (k := 0) (b := b3) (by decide) (by omega) kf_X2_12 rfl dX2_record_31 (fun H1 locs1 hW => ?_)
  obtain ⟨w4, hw4⟩ : ∃ q : gW, q = up w3 4 (sS (w3 4) 0 0 (iI (b3 : Int))) := ⟨_, rfl⟩
  rw [← hw4] at hW
  obtain ⟨hh0, hh1, hh2, hh3⟩ : hst w4 b3 b0 b1 b2 := by
    refine ⟨?_, ?_, ?_, ?_⟩ <;> (rw [hw4, up_s, gN_sS]; first | (rw [if_pos (by decide)]; exact iI_nat (by omega)) | (rw [if_neg (by decide)]; assumption))
  refine lv_aload_n hx hb dX2_record_34 rfl (lv_at hl 1 rfl) ?_
  refine r_gR C0 hW (show 4 < 11 ∧ 0 < bs 4 from ⟨by decide, by decide⟩) rfl rfl hiX2 (k := 0) (by decide) kf_X2_12 rfl rfl rfl dX2_record_35 ?_
  rw [hb_of hh0]
  refine lv_aload_n hx hb dX2_record_38 rfl (lv_at hl 2 rfl) ?_
  refine k_Vv (j := b3) (k0 := 0) C0 hW (c_X3_copyFrom l G w4 hm3 (by unfold ms; omega) (by omega) (by simp only [hw4, hw3, hw2, hw1, up_up, up_s, hu1]; exact hwf)) km_X2_27 ki_X3_copyFrom ke_X3_copyFrom kn_X3 kc_X3_copyFrom rfl hdV_X3_copyFrom ⟨by decide, by decide⟩ (ms_lt hm3 0 (by decide)) (ceX_m hm3 G 0 _ _) rfl rfl hl.1 rfl (Nat.le_of_ble_eq_true rfl) dX2_record_39 (fun w5 H1 locs1 hp5 hW => ?_)
  have hw5 : w5 = _ := hp5
  refine lv_aload_n hx hb dX2_record_42 rfl (lv_at hl 1 rfl) ?_
  refine r_iconst hx hb dX2_record_43 ?_
  refine lv_aload_n hx hb dX2_record_44 rfl (lv_at hl 1 rfl) ?_
  refine r_gI C0 hW (show 4 < 11 ∧ 0 < bs 4 from ⟨by decide, by decide⟩) rfl rfl hiX2 (k := 4) (by decide) kf_X2_31 rfl rfl rfl dX2_record_45 (fun z6 (hz6 : z6 = gN (w5 4) 0 4) rz6 => ?_)
  have rz6a := rz6.1
  have rz6b := rz6.2
  try simp (decide := true) only [hw5, hw4, hw3, hw2, hw1, up_s, gA_sF, gN_sF, gA_sA, gN_sA, gA_sS, gN_sS, if_true, if_false, true_and, and_true, false_and, and_false, hu3, hu1, hu0, hu4] at hz6
  refine r_iconst hx hb dX2_record_48 ?_
  refine r_iadd hx hb dX2_record_49 ?_
  refine r_min C0 ⟨by omega, by omega⟩ ⟨by omega, by omega⟩ km_X2_35 ks_J9_min_7cf53 kn_J9 kc_min rfl hl.1 (by decide) (Nat.le_of_ble_eq_true rfl) dX2_record_50 ?_
  refine r_pI C0 hW (show 4 < 11 ∧ 0 < bs 4 from ⟨by decide, by decide⟩) rfl rfl hiX2 tyX2 tyX2_ok nmX2 (k := 4) (v := iI (min 4 (z6 + 1))) (by decide) kf_X2_31 rfl rfl rfl (tyX2_ok 4 (by decide)) rfl rfl (by simp) rfl dX2_record_53 (fun H1 locs1 hW => ?_)
  obtain ⟨w7, hw7⟩ : ∃ q : gW, q = up w5 4 (sS (w5 4) 0 4 (iI (min 4 (z6 + 1)))) := ⟨_, rfl⟩
  rw [← hw7] at hW
  exact r_vret C0 hW (by unfold po_X2_record recM; simp only [hw7, hw5, hw4, hw3, hw2, hw1, up_up, up_s, hu3, hu1, up_over, hz6]) dX2_record_56

/-- X2_takeBack: its end -/
def po_X2_takeBack (w : gW) (b0 : Nat) (b1 : Nat) (b2 : Nat) (b3 : Nat) : gW → Prop := fun w1 => w1 = up (up w 1 (w b0)) 4 (tbM (w 4) b0 b1 b2 b3)
theorem hdV_X2_takeBack : yX2_takeBack.cls = RX2 ∧ yX2_takeBack.cls ≠ "java/lang/invoke/MethodHandle" ∧ yX2_takeBack.cls ≠ "java/lang/invoke/VarHandle" ∧ (parseMethodDescriptor yX2_takeBack.desc).map (fun d => d.parameters.length) = some 1 := by decide +kernel
set_option maxHeartbeats 4000000 in
set_option maxRecDepth 100000 in
theorem c_X2_takeBack (l : Launch) (G : gG) (w : gW) {b0 : Nat} {b1 : Nat} {b2 : Nat} {b3 : Nat} (hp4 : p4 b0 b1 b2 b3) (hh : hst w b0 b1 b2 b3) (hwf : wf (w b0)) (hs4 : 0 < gN (w 4) 0 4 ∧ gN (w 4) 0 4 ≤ 4) : mV l G yX2_takeBack (wU yX2_takeBack cX2_takeBack 3 none) (rmL 4 81) [.ref (ad G 4 0), .ref (ad G 1 0)] w (po_X2_takeBack w b0 b1 b2 b3) := by
  refine mV_of (by decide +kernel) (Nat.le_of_ble_eq_true rfl) (fun p e s m args below meth c ls C0 hW hl => ?_)
  have hl : lv_has ls 3 [(0, .ref (ad G 4 0)), (1, .ref (ad G 1 0))] := hl
  have hx := C0.hx
  have hb := C0.hb
  obtain ⟨q0, q1, q2, q3, n1, n2, n3, n4, n5, n6⟩ := id hp4
  obtain ⟨hh0, hh1, hh2, hh3⟩ := id hh
  have hm0 := ms_b q0
  have hm3 := ms_b q3
  have hu3 : ∀ (w : gW) (M : gM), up w b3 M 4 = w 4 := fun w M => up_n w M (by omega)
  have hu1 : ∀ (w : gW) (M : gM), up w 4 M 1 = w 1 := fun w M => up_n w M (by decide)
  have hu0 : ∀ (w : gW) (M : gM), up w 4 M b0 = w b0 := fun w M => up_n w M (by omega)
  have hu4 : ∀ (w : gW) (M : gM), up w 1 M 4 = w 4 := fun w M => up_n w M (by decide)
  refine lv_aload_n hx hb dX2_takeBack_0 rfl (lv_at hl 0 rfl) ?_
  refine r_gI C0 hW (show 4 < 11 ∧ 0 < bs 4 from ⟨by decide, by decide⟩) rfl rfl hiX2 (k := 4) (by decide) kf_X2_31 rfl rfl rfl dX2_takeBack_1 (fun z1 (hz1 : z1 = gN (w 4) 0 4) rz1 => ?_)
  have rz1a := rz1.1
  have rz1b := rz1.2
  refine r_if_le (tgt := 56) hx hb rz1 dX2_takeBack_4 (by decide) (fun c2 => ?_) (fun c2 => ?_)
  · exact r_vret C0 hW (by first | omega | (unfold po_X2_takeBack tbM; simp only [id, up_up, up_s, hu4, hu0, up_over, hz1])) dX2_takeBack_56
  · refine lv_aload_n hx hb dX2_takeBack_7 rfl (lv_at hl 0 rfl) ?_
    refine r_gR C0 hW (show 4 < 11 ∧ 0 < bs 4 from ⟨by decide, by decide⟩) rfl rfl hiX2 (k := 0) (by decide) kf_X2_12 rfl rfl rfl dX2_takeBack_8 ?_
    rw [hb_of hh0]
    refine lv_astore_n (lv' := [(2, .ref (ad G b0 0)), (0, .ref (ad G 4 0)), (1, .ref (ad G 1 0))]) hx hb dX2_takeBack_11 rfl hl (by decide) rfl (fun ls hl => ?_)
    refine lv_aload_n hx hb dX2_takeBack_12 rfl (lv_at hl 1 rfl) ?_
    refine lv_aload_n hx hb dX2_takeBack_13 rfl (lv_at hl 1 rfl) ?_
    refine r_gR C0 hW (show 4 < 11 ∧ 0 < bs 4 from ⟨by decide, by decide⟩) rfl rfl hiX2 (k := 1) (by decide) kf_X2_18 rfl rfl rfl dX2_takeBack_14 ?_
    rw [hb_of hh1]
    refine r_pH C0 hW (k := 0) (b := b1) (by decide) (by omega) kf_X2_12 rfl dX2_takeBack_17 (fun H1 locs1 hW => ?_)
    obtain ⟨w3, hw3⟩ : ∃ q : gW, q = up w 4 (sS (w 4) 0 0 (iI (b1 : Int))) := ⟨_, rfl⟩
    rw [← hw3] at hW
    obtain ⟨hh0, hh1, hh2, hh3⟩ : hst w3 b1 b1 b2 b3 := by
      refine ⟨?_, ?_, ?_, ?_⟩ <;> (rw [hw3, up_s, gN_sS]; first | (rw [if_pos (by decide)]; exact iI_nat (by omega)) | (rw [if_neg (by decide)]; assumption))
    refine lv_aload_n hx hb dX2_takeBack_20 rfl (lv_at hl 1 rfl) ?_
    refine lv_aload_n hx hb dX2_takeBack_21 rfl (lv_at hl 1 rfl) ?_
    refine r_gR C0 hW (show 4 < 11 ∧ 0 < bs 4 from ⟨by decide, by decide⟩) rfl rfl hiX2 (k := 2) (by decide) kf_X2_21 rfl rfl rfl dX2_takeBack_22 ?_
    rw [hb_of hh2]
    refine r_pH C0 hW (k := 1) (b := b2) (by decide) (by omega) kf_X2_18 rfl dX2_takeBack_25 (fun H1 locs1 hW => ?_)
    obtain ⟨w4, hw4⟩ : ∃ q : gW, q = up w3 4 (sS (w3 4) 0 1 (iI (b2 : Int))) := ⟨_, rfl⟩
    rw [← hw4] at hW
    obtain ⟨hh0, hh1, hh2, hh3⟩ : hst w4 b1 b2 b2 b3 := by
      refine ⟨?_, ?_, ?_, ?_⟩ <;> (rw [hw4, up_s, gN_sS]; first | (rw [if_pos (by decide)]; exact iI_nat (by omega)) | (rw [if_neg (by decide)]; assumption))
    refine lv_aload_n hx hb dX2_takeBack_28 rfl (lv_at hl 1 rfl) ?_
    refine lv_aload_n hx hb dX2_takeBack_29 rfl (lv_at hl 1 rfl) ?_
    refine r_gR C0 hW (show 4 < 11 ∧ 0 < bs 4 from ⟨by decide, by decide⟩) rfl rfl hiX2 (k := 3) (by decide) kf_X2_24 rfl rfl rfl dX2_takeBack_30 ?_
    rw [hb_of hh3]
    refine r_pH C0 hW (k := 2) (b := b3) (by decide) (by omega) kf_X2_21 rfl dX2_takeBack_33 (fun H1 locs1 hW => ?_)
    obtain ⟨w5, hw5⟩ : ∃ q : gW, q = up w4 4 (sS (w4 4) 0 2 (iI (b3 : Int))) := ⟨_, rfl⟩
    rw [← hw5] at hW
    obtain ⟨hh0, hh1, hh2, hh3⟩ : hst w5 b1 b2 b3 b3 := by
      refine ⟨?_, ?_, ?_, ?_⟩ <;> (rw [hw5, up_s, gN_sS]; first | (rw [if_pos (by decide)]; exact iI_nat (by omega)) | (rw [if_neg (by decide)]; assumption))
    refine lv_aload_n hx hb dX2_takeBack_36 rfl (lv_at hl 1 rfl) ?_
    refine lv_aload_n hx hb dX2_takeBack_37 rfl (lv_at hl 0 rfl) ?_
    refine r_pH C0 hW (k := 3) (b := b0) (by decide) (by omega) kf_X2_24 rfl dX2_takeBack_38 (fun H1 locs1 hW => ?_)
    obtain ⟨w6, hw6⟩ : ∃ q : gW, q = up w5 4 (sS (w5 4) 0 3 (iI (b0 : Int))) := ⟨_, rfl⟩
    rw [← hw6] at hW
    obtain ⟨hh0, hh1, hh2, hh3⟩ : hst w6 b1 b2 b3 b0 := by
      refine ⟨?_, ?_, ?_, ?_⟩ <;> (rw [hw6, up_s, gN_sS]; first | (rw [if_pos (by decide)]; exact iI_nat (by omega)) | (rw [if_neg (by decide)]; assumption))
    refine lv_aload_n hx hb dX2_takeBack_41 rfl (lv_at hl 2 rfl) ?_
    refine lv_aload_n hx hb dX2_takeBack_42 rfl (lv_at hl 0 rfl) ?_
    refine k_Vv (j := 1) (k0 := 0) C0 hW (c_X3_copyFrom l G w6 (by unfold ms; omega) hm0 (by omega) (by simp only [hw6, hw5, hw4, hw3, up_up, up_s, hu0]; exact hwf)) km_X2_27 ki_X3_copyFrom ke_X3_copyFrom kn_X3 kc_X3_copyFrom rfl hdV_X3_copyFrom ⟨by decide, by decide⟩ (show 1 < 11 ∧ 0 < bs 1 from ⟨by decide, by decide⟩) rfl rfl rfl hl.1 rfl (Nat.le_of_ble_eq_true rfl) dX2_takeBack_43 (fun w7 H1 locs1 hp7 hW => ?_)
    have hw7 : w7 = _ := hp7
    refine lv_aload_n hx hb dX2_takeBack_46 rfl (lv_at hl 1 rfl) ?_
    refine lv_dup hx hb dX2_takeBack_47 rfl ?_
    refine r_gI C0 hW (show 4 < 11 ∧ 0 < bs 4 from ⟨by decide, by decide⟩) rfl rfl hiX2 (k := 4) (by decide) kf_X2_31 rfl rfl rfl dX2_takeBack_48 (fun z8 (hz8 : z8 = gN (w7 4) 0 4) rz8 => ?_)
    have rz8a := rz8.1
    have rz8b := rz8.2
    try simp (decide := true) only [hw7, hw6, hw5, hw4, hw3, up_s, gA_sF, gN_sF, gA_sA, gN_sA, gA_sS, gN_sS, if_true, if_false, true_and, and_true, false_and, and_false, hu3, hu1, hu0, hu4] at hz8
    refine r_iconst hx hb dX2_takeBack_51 ?_
    refine r_isub hx hb dX2_takeBack_52 ?_
    refine r_pI C0 hW (show 4 < 11 ∧ 0 < bs 4 from ⟨by decide, by decide⟩) rfl rfl hiX2 tyX2 tyX2_ok nmX2 (k := 4) (v := iI (z8 - 1)) (by decide) kf_X2_31 rfl rfl rfl (tyX2_ok 4 (by decide)) rfl rfl (by simp) rfl dX2_takeBack_53 (fun H1 locs1 hW => ?_)
    obtain ⟨w9, hw9⟩ : ∃ q : gW, q = up w7 4 (sS (w7 4) 0 4 (iI (z8 - 1))) := ⟨_, rfl⟩
    rw [← hw9] at hW
    exact r_vret C0 hW (by first | omega | (unfold po_X2_takeBack tbM; simp only [hw9, hw7, hw6, hw5, hw4, hw3, up_up, up_s, hu4, hu0, up_over, hz1, hz8])) dX2_takeBack_56
end
