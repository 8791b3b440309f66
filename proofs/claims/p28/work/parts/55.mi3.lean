/-- the days of the commoners, the plots of a new reference -/
def d6A (A : Int → Int32) (c : Int) : Int → Int32 := fun i => if 11 ≤ i ∧ i < 11 + 3 * c ∧ (i - 11) % 3 = 0 then iI 6 else A i
def p6A (A : Int → Int32) (p : Int) : Int → Int32 := fun i => if 41 ≤ i ∧ i < 41 + 3 * p then (if (i - 41) % 3 = 0 then iI 6 else iI ((i - 41) / 3 / 2)) else A i
theorem d6A_0 (A : Int → Int32) : d6A A 0 = A := by
  funext i
  exact if_neg (by omega)
theorem p6A_0 (A : Int → Int32) : p6A A 0 = A := by
  funext i
  exact if_neg (by omega)
theorem d6A_s (A : Int → Int32) {c : Int} (h : 0 ≤ c) : d6A A (c + 1) = st (d6A A c) (11 + 3 * c + 0) (iI 6) := by
  funext i
  show (if 11 ≤ i ∧ i < 11 + 3 * (c + 1) ∧ (i - 11) % 3 = 0 then iI 6 else A i) = if i = 11 + 3 * c + 0 then iI 6 else if 11 ≤ i ∧ i < 11 + 3 * c ∧ (i - 11) % 3 = 0 then iI 6 else A i
  by_cases q : i = 11 + 3 * c + 0
  · rw [if_pos q, if_pos (by omega)]
  · rw [if_neg q]
    by_cases q2 : 11 ≤ i ∧ i < 11 + 3 * c ∧ (i - 11) % 3 = 0
    · rw [if_pos q2, if_pos (by omega)]
    · rw [if_neg q2, if_neg (by omega)]
theorem p6A_s (A : Int → Int32) {p : Int} (h : 0 ≤ p) : p6A A (p + 1) = st (st (st (p6A A p) (41 + 3 * p + 0) (iI 6)) (41 + 3 * p + 1) (iI (p / 2))) (41 + 3 * p + 2) (iI (p / 2)) := by
  funext i
  show (if 41 ≤ i ∧ i < 41 + 3 * (p + 1) then (if (i - 41) % 3 = 0 then iI 6 else iI ((i - 41) / 3 / 2)) else A i) = if i = 41 + 3 * p + 2 then iI (p / 2) else if i = 41 + 3 * p + 1 then iI (p / 2) else if i = 41 + 3 * p + 0 then iI 6 else if 41 ≤ i ∧ i < 41 + 3 * p then (if (i - 41) % 3 = 0 then iI 6 else iI ((i - 41) / 3 / 2)) else A i
  by_cases q : i = 41 + 3 * p + 2
  · rw [if_pos q, if_pos (by omega), if_neg (by omega), show (i - 41) / 3 = p by omega]
  · rw [if_neg q]
    by_cases q1 : i = 41 + 3 * p + 1
    · rw [if_pos q1, if_pos (by omega), if_neg (by omega), show (i - 41) / 3 = p by omega]
    · rw [if_neg q1]
      by_cases q0 : i = 41 + 3 * p + 0
      · rw [if_pos q0, if_pos (by omega), if_pos (by omega)]
      · rw [if_neg q0]
        by_cases q2 : 41 ≤ i ∧ i < 41 + 3 * p
        · rw [if_pos q2, if_pos (by omega)]
        · rw [if_neg q2, if_neg (by omega)]
def a0A : Int → Int32 := st (st (fun _ => iI 0) 0 (iI 3)) 10 (iI 5)
/-- X6_init: the cells that it lays -/
def L_X6 (G : gG) (n0 : Nat) : List va_E := (.inr (6, [.int (iI 0), .ref (G.2.2 + (n0 + 1)), .ref (G.2.2 + (n0 + 2)), .ref (G.2.2 + (n0 + 3)), .int 0, .ref (G.2.2 + (n0 + 4)), .int 0, .ref (G.2.2 + (n0 + 5)), .int 0, .int 0, .int 0, .ref (G.2.2 + (n0 + 6)), .int 0]) :: (cI G 941 (p6A (d6A a0A 10) 20) :: (cI G 941 (fun _ => iI 0) :: (cI G 3764 (fun _ => iI 0) :: (cI G 941 (fun _ => iI 0) :: (cI G 60 (fun _ => iI 0) :: (cI G 120 (fun _ => iI 0) :: [])))))))
set_option maxHeartbeats 4000000 in
set_option maxRecDepth 100000 in
theorem c_X6_init (l : Launch) (G : gG) (P0 : List va_E) (n0 : Nat) (hP0 : P0.length = n0) : mN l G yX6_init (wU yX6_init cX6_init 2 none) (rmN 1 6 6767 20) [.ref (G.2.2 + (n0 + 0))] (P0 ++ [.inr (6, [.int 0, .null, .null, .null, .int 0, .null, .int 0, .null, .int 0, .int 0, .int 0, .null, .int 0])]) (P0 ++ L_X6 G n0) 6 6767 := by
  refine mN_of (by decide +kernel) (Nat.le_of_ble_eq_true rfl) rfl (fun p e s m args below meth c ls C0 hin2 hW hl => ?_)
  have hl : lv_has ls 2 [(0, .ref (G.2.2 + (n0 + 0)))] := hl
  have hx := C0.hx
  have hb := C0.hb
  refine lv_aload_n hx hb dX6_init_0 rfl (lv_at hl 0 rfl) ?_
  refine i_oi C0 km_X6_1 rfl hl.1 dX6_init_1 ⟨Nat.le_of_ble_eq_true rfl, Nat.le_of_ble_eq_true rfl⟩ ?_
  refine lv_aload_n hx hb dX6_init_4 rfl (lv_at hl 0 rfl) ?_
  refine r_sipush hx hb dX6_init_5 (by decide) ?_
  refine i_arr C0 hW (atype := .int) (cA := G.2.1.1) (a0 := (941, .inl (fun i : Nat => (fun _ : Int => iI 0) (i : Int)))) ka_int (va_nm_int (hW.2.2.1.2 0 _ rfl).2) rfl (by decide) (by decide) (Nat.le_of_ble_eq_true rfl) (Nat.le_of_ble_eq_true rfl) (Nat.le_of_ble_eq_true rfl) dX6_init_8 (fun H1 hW => ?_)
  rw [List.append_assoc] at hW
  have hW : wi G (P0 ++ (.inr (6, [.int 0, .null, .null, .null, .int 0, .null, .int 0, .null, .int 0, .int 0, .int 0, .null, .int 0]) :: (cI G 941 (fun _ => iI 0) :: []))) s _ _ := hW
  rw [List.length_append, hP0]
  show W p l e _ s m args below meth c _ _ 1 941 _ (F0 m _ _ (.ref (G.2.2 + (n0 + 1)) :: _))
  refine i_pF C0 hin2 hW 1 (k0 := n0 + 0) (v := .ref (G.2.2 + (n0 + 1))) (fs := [.int 0, .null, .null, .null, .int 0, .null, .int 0, .null, .int 0, .int 0, .int 0, .null, .int 0]) (wgt hP0 rfl) rfl hiX6 tyX6 tyX6_ok nmX6 (by decide) kf_X6_7 rfl rfl rfl rfl (tyX6_ok 1 (by decide)) rfl rfl (Nat.le_of_ble_eq_true rfl) dX6_init_10 (fun H1 locs1 hW => ?_)
  rw [wst hP0] at hW
  have hW : wi G (P0 ++ (.inr (6, [.int 0, .ref (G.2.2 + (n0 + 1)), .null, .null, .int 0, .null, .int 0, .null, .int 0, .int 0, .int 0, .null, .int 0]) :: (cI G 941 (fun _ => iI 0) :: []))) s _ _ := hW
  refine lv_aload_n hx hb dX6_init_13 rfl (lv_at hl 0 rfl) ?_
  refine r_sipush hx hb dX6_init_14 (by decide) ?_
  refine i_arr C0 hW (atype := .int) (cA := G.2.1.1) (a0 := (941, .inl (fun i : Nat => (fun _ : Int => iI 0) (i : Int)))) ka_int (va_nm_int (hW.2.2.1.2 0 _ rfl).2) rfl (by decide) (by decide) (Nat.le_of_ble_eq_true rfl) (Nat.le_of_ble_eq_true rfl) (Nat.le_of_ble_eq_true rfl) dX6_init_17 (fun H1 hW => ?_)
  rw [List.append_assoc] at hW
  have hW : wi G (P0 ++ (.inr (6, [.int 0, .ref (G.2.2 + (n0 + 1)), .null, .null, .int 0, .null, .int 0, .null, .int 0, .int 0, .int 0, .null, .int 0]) :: (cI G 941 (fun _ => iI 0) :: (cI G 941 (fun _ => iI 0) :: [])))) s _ _ := hW
  rw [List.length_append, hP0]
  show W p l e _ s m args below meth c _ _ 2 1882 _ (F0 m _ _ (.ref (G.2.2 + (n0 + 2)) :: _))
  refine i_pF C0 hin2 hW 2 (k0 := n0 + 0) (v := .ref (G.2.2 + (n0 + 2))) (fs := [.int 0, .ref (G.2.2 + (n0 + 1)), .null, .null, .int 0, .null, .int 0, .null, .int 0, .int 0, .int 0, .null, .int 0]) (wgt hP0 rfl) rfl hiX6 tyX6 tyX6_ok nmX6 (by decide) kf_X6_13 rfl rfl rfl rfl (tyX6_ok 2 (by decide)) rfl rfl (Nat.le_of_ble_eq_true rfl) dX6_init_19 (fun H1 locs1 hW => ?_)
  rw [wst hP0] at hW
  have hW : wi G (P0 ++ (.inr (6, [.int 0, .ref (G.2.2 + (n0 + 1)), .ref (G.2.2 + (n0 + 2)), .null, .int 0, .null, .int 0, .null, .int 0, .int 0, .int 0, .null, .int 0]) :: (cI G 941 (fun _ => iI 0) :: (cI G 941 (fun _ => iI 0) :: [])))) s _ _ := hW
  refine lv_aload_n hx hb dX6_init_22 rfl (lv_at hl 0 rfl) ?_
  refine r_sipush hx hb dX6_init_23 (by decide) ?_
  refine i_arr C0 hW (atype := .int) (cA := G.2.1.1) (a0 := (3764, .inl (fun i : Nat => (fun _ : Int => iI 0) (i : Int)))) ka_int (va_nm_int (hW.2.2.1.2 0 _ rfl).2) rfl (by decide) (by decide) (Nat.le_of_ble_eq_true rfl) (Nat.le_of_ble_eq_true rfl) (Nat.le_of_ble_eq_true rfl) dX6_init_26 (fun H1 hW => ?_)
  rw [List.append_assoc] at hW
  have hW : wi G (P0 ++ (.inr (6, [.int 0, .ref (G.2.2 + (n0 + 1)), .ref (G.2.2 + (n0 + 2)), .null, .int 0, .null, .int 0, .null, .int 0, .int 0, .int 0, .null, .int 0]) :: (cI G 941 (fun _ => iI 0) :: (cI G 941 (fun _ => iI 0) :: (cI G 3764 (fun _ => iI 0) :: []))))) s _ _ := hW
  rw [List.length_append, hP0]
  show W p l e _ s m args below meth c _ _ 3 5646 _ (F0 m _ _ (.ref (G.2.2 + (n0 + 3)) :: _))
  refine i_pF C0 hin2 hW 3 (k0 := n0 + 0) (v := .ref (G.2.2 + (n0 + 3))) (fs := [.int 0, .ref (G.2.2 + (n0 + 1)), .ref (G.2.2 + (n0 + 2)), .null, .int 0, .null, .int 0, .null, .int 0, .int 0, .int 0, .null, .int 0]) (wgt hP0 rfl) rfl hiX6 tyX6 tyX6_ok nmX6 (by decide) kf_X6_16 rfl rfl rfl rfl (tyX6_ok 3 (by decide)) rfl rfl (Nat.le_of_ble_eq_true rfl) dX6_init_28 (fun H1 locs1 hW => ?_)
  rw [wst hP0] at hW
  have hW : wi G (P0 ++ (.inr (6, [.int 0, .ref (G.2.2 + (n0 + 1)), .ref (G.2.2 + (n0 + 2)), .ref (G.2.2 + (n0 + 3)), .int 0, .null, .int 0, .null, .int 0, .int 0, .int 0, .null, .int 0]) :: (cI G 941 (fun _ => iI 0) :: (cI G 941 (fun _ => iI 0) :: (cI G 3764 (fun _ => iI 0) :: []))))) s _ _ := hW
  refine lv_aload_n hx hb dX6_init_31 rfl (lv_at hl 0 rfl) ?_
  refine r_sipush hx hb dX6_init_32 (by decide) ?_
  refine i_arr C0 hW (atype := .int) (cA := G.2.1.1) (a0 := (941, .inl (fun i : Nat => (fun _ : Int => iI 0) (i : Int)))) ka_int (va_nm_int (hW.2.2.1.2 0 _ rfl).2) rfl (by decide) (by decide) (Nat.le_of_ble_eq_true rfl) (Nat.le_of_ble_eq_true rfl) (Nat.le_of_ble_eq_true rfl) dX6_init_35 (fun H1 hW => ?_)
  rw [List.append_assoc] at hW
  have hW : wi G (P0 ++ (.inr (6, [.int 0, .ref (G.2.2 + (n0 + 1)), .ref (G.2.2 + (n0 + 2)), .ref (G.2.2 + (n0 + 3)), .int 0, .null, .int 0, .null, .int 0, .int 0, .int 0, .null, .int 0]) :: (cI G 941 (fun _ => iI 0) :: (cI G 941 (fun _ => iI 0) :: (cI G 3764 (fun _ => iI 0) :: (cI G 941 (fun _ => iI 0) :: [])))))) s _ _ := hW
  rw [List.length_append, hP0]
  show W p l e _ s m args below meth c _ _ 4 6587 _ (F0 m _ _ (.ref (G.2.2 + (n0 + 4)) :: _))
  refine i_pF C0 hin2 hW 5 (k0 := n0 + 0) (v := .ref (G.2.2 + (n0 + 4))) (fs := [.int 0, .ref (G.2.2 + (n0 + 1)), .ref (G.2.2 + (n0 + 2)), .ref (G.2.2 + (n0 + 3)), .int 0, .null, .int 0, .null, .int 0, .int 0, .int 0, .null, .int 0]) (wgt hP0 rfl) rfl hiX6 tyX6 tyX6_ok nmX6 (by decide) kf_X6_19 rfl rfl rfl rfl (tyX6_ok 5 (by decide)) rfl rfl (Nat.le_of_ble_eq_true rfl) dX6_init_37 (fun H1 locs1 hW => ?_)
  rw [wst hP0] at hW
  have hW : wi G (P0 ++ (.inr (6, [.int 0, .ref (G.2.2 + (n0 + 1)), .ref (G.2.2 + (n0 + 2)), .ref (G.2.2 + (n0 + 3)), .int 0, .ref (G.2.2 + (n0 + 4)), .int 0, .null, .int 0, .int 0, .int 0, .null, .int 0]) :: (cI G 941 (fun _ => iI 0) :: (cI G 941 (fun _ => iI 0) :: (cI G 3764 (fun _ => iI 0) :: (cI G 941 (fun _ => iI 0) :: [])))))) s _ _ := hW
  refine lv_aload_n hx hb dX6_init_40 rfl (lv_at hl 0 rfl) ?_
  refine r_bipush hx hb dX6_init_41 (by decide) ?_
  refine i_arr C0 hW (atype := .int) (cA := G.2.1.1) (a0 := (60, .inl (fun i : Nat => (fun _ : Int => iI 0) (i : Int)))) ka_int (va_nm_int (hW.2.2.1.2 0 _ rfl).2) rfl (by decide) (by decide) (Nat.le_of_ble_eq_true rfl) (Nat.le_of_ble_eq_true rfl) (Nat.le_of_ble_eq_true rfl) dX6_init_43 (fun H1 hW => ?_)
  rw [List.append_assoc] at hW
  have hW : wi G (P0 ++ (.inr (6, [.int 0, .ref (G.2.2 + (n0 + 1)), .ref (G.2.2 + (n0 + 2)), .ref (G.2.2 + (n0 + 3)), .int 0, .ref (G.2.2 + (n0 + 4)), .int 0, .null, .int 0, .int 0, .int 0, .null, .int 0]) :: (cI G 941 (fun _ => iI 0) :: (cI G 941 (fun _ => iI 0) :: (cI G 3764 (fun _ => iI 0) :: (cI G 941 (fun _ => iI 0) :: (cI G 60 (fun _ => iI 0) :: []))))))) s _ _ := hW
  rw [List.length_append, hP0]
  show W p l e _ s m args below meth c _ _ 5 6647 _ (F0 m _ _ (.ref (G.2.2 + (n0 + 5)) :: _))
  refine i_pF C0 hin2 hW 7 (k0 := n0 + 0) (v := .ref (G.2.2 + (n0 + 5))) (fs := [.int 0, .ref (G.2.2 + (n0 + 1)), .ref (G.2.2 + (n0 + 2)), .ref (G.2.2 + (n0 + 3)), .int 0, .ref (G.2.2 + (n0 + 4)), .int 0, .null, .int 0, .int 0, .int 0, .null, .int 0]) (wgt hP0 rfl) rfl hiX6 tyX6 tyX6_ok nmX6 (by decide) kf_X6_22 rfl rfl rfl rfl (tyX6_ok 7 (by decide)) rfl rfl (Nat.le_of_ble_eq_true rfl) dX6_init_45 (fun H1 locs1 hW => ?_)
  rw [wst hP0] at hW
  have hW : wi G (P0 ++ (.inr (6, [.int 0, .ref (G.2.2 + (n0 + 1)), .ref (G.2.2 + (n0 + 2)), .ref (G.2.2 + (n0 + 3)), .int 0, .ref (G.2.2 + (n0 + 4)), .int 0, .ref (G.2.2 + (n0 + 5)), .int 0, .int 0, .int 0, .null, .int 0]) :: (cI G 941 (fun _ => iI 0) :: (cI G 941 (fun _ => iI 0) :: (cI G 3764 (fun _ => iI 0) :: (cI G 941 (fun _ => iI 0) :: (cI G 60 (fun _ => iI 0) :: []))))))) s _ _ := hW
  refine lv_aload_n hx hb dX6_init_48 rfl (lv_at hl 0 rfl) ?_
  refine r_bipush hx hb dX6_init_49 (by decide) ?_
  refine i_arr C0 hW (atype := .int) (cA := G.2.1.1) (a0 := (120, .inl (fun i : Nat => (fun _ : Int => iI 0) (i : Int)))) ka_int (va_nm_int (hW.2.2.1.2 0 _ rfl).2) rfl (by decide) (by decide) (Nat.le_of_ble_eq_true rfl) (Nat.le_of_ble_eq_true rfl) (Nat.le_of_ble_eq_true rfl) dX6_init_51 (fun H1 hW => ?_)
  rw [List.append_assoc] at hW
  have hW : wi G (P0 ++ (.inr (6, [.int 0, .ref (G.2.2 + (n0 + 1)), .ref (G.2.2 + (n0 + 2)), .ref (G.2.2 + (n0 + 3)), .int 0, .ref (G.2.2 + (n0 + 4)), .int 0, .ref (G.2.2 + (n0 + 5)), .int 0, .int 0, .int 0, .null, .int 0]) :: (cI G 941 (fun _ => iI 0) :: (cI G 941 (fun _ => iI 0) :: (cI G 3764 (fun _ => iI 0) :: (cI G 941 (fun _ => iI 0) :: (cI G 60 (fun _ => iI 0) :: (cI G 120 (fun _ => iI 0) :: [])))))))) s _ _ := hW
  rw [List.length_append, hP0]
  show W p l e _ s m args below meth c _ _ 6 6767 _ (F0 m _ _ (.ref (G.2.2 + (n0 + 6)) :: _))
  refine i_pF C0 hin2 hW 11 (k0 := n0 + 0) (v := .ref (G.2.2 + (n0 + 6))) (fs := [.int 0, .ref (G.2.2 + (n0 + 1)), .ref (G.2.2 + (n0 + 2)), .ref (G.2.2 + (n0 + 3)), .int 0, .ref (G.2.2 + (n0 + 4)), .int 0, .ref (G.2.2 + (n0 + 5)), .int 0, .int 0, .int 0, .null, .int 0]) (wgt hP0 rfl) rfl hiX6 tyX6 tyX6_ok nmX6 (by decide) kf_X6_25 rfl rfl rfl rfl (tyX6_ok 11 (by decide)) rfl rfl (Nat.le_of_ble_eq_true rfl) dX6_init_53 (fun H1 locs1 hW => ?_)
  rw [wst hP0] at hW
  have hW : wi G (P0 ++ (.inr (6, [.int 0, .ref (G.2.2 + (n0 + 1)), .ref (G.2.2 + (n0 + 2)), .ref (G.2.2 + (n0 + 3)), .int 0, .ref (G.2.2 + (n0 + 4)), .int 0, .ref (G.2.2 + (n0 + 5)), .int 0, .int 0, .int 0, .ref (G.2.2 + (n0 + 6)), .int 0]) :: (cI G 941 (fun _ => iI 0) :: (cI G 941 (fun _ => iI 0) :: (cI G 3764 (fun _ => iI 0) :: (cI G 941 (fun _ => iI 0) :: (cI G 60 (fun _ => iI 0) :: (cI G 120 (fun _ => iI 0) :: [])))))))) s _ _ := hW
  refine lv_aload_n hx hb dX6_init_56 rfl (lv_at hl 0 rfl) ?_
  refine r_iconst hx hb dX6_init_57 ?_
  refine i_put C0 hW 0 (k0 := n0 + 0) (v := .int (iI 0)) (fs := [.int 0, .ref (G.2.2 + (n0 + 1)), .ref (G.2.2 + (n0 + 2)), .ref (G.2.2 + (n0 + 3)), .int 0, .ref (G.2.2 + (n0 + 4)), .int 0, .ref (G.2.2 + (n0 + 5)), .int 0, .int 0, .int 0, .ref (G.2.2 + (n0 + 6)), .int 0]) (wgt hP0 rfl) rfl hiX6 tyX6 tyX6_ok nmX6 (by decide) kf_X6_28 rfl rfl  rfl (tyX6_ok 0 (by decide)) rfl rfl (Nat.le_of_ble_eq_true rfl) dX6_init_58 (fun H1 locs1 hW => ?_)
  rw [wst hP0] at hW
  have hW : wi G (P0 ++ (.inr (6, [.int (iI 0), .ref (G.2.2 + (n0 + 1)), .ref (G.2.2 + (n0 + 2)), .ref (G.2.2 + (n0 + 3)), .int 0, .ref (G.2.2 + (n0 + 4)), .int 0, .ref (G.2.2 + (n0 + 5)), .int 0, .int 0, .int 0, .ref (G.2.2 + (n0 + 6)), .int 0]) :: (cI G 941 (fun _ => iI 0) :: (cI G 941 (fun _ => iI 0) :: (cI G 3764 (fun _ => iI 0) :: (cI G 941 (fun _ => iI 0) :: (cI G 60 (fun _ => iI 0) :: (cI G 120 (fun _ => iI 0) :: [])))))))) s _ _ := hW
  refine lv_aload_n hx hb dX6_init_61 rfl (lv_at hl 0 rfl) ?_
  refine i_get C0 hW 1 (k0 := n0 + 0) (fs := [.int (iI 0), .ref (G.2.2 + (n0 + 1)), .ref (G.2.2 + (n0 + 2)), .ref (G.2.2 + (n0 + 3)), .int 0, .ref (G.2.2 + (n0 + 4)), .int 0, .ref (G.2.2 + (n0 + 5)), .int 0, .int 0, .int 0, .ref (G.2.2 + (n0 + 6)), .int 0]) (v := .ref (G.2.2 + (n0 + 1))) (wgt hP0 rfl) rfl hiX6 (by decide) kf_X6_7 rfl rfl rfl dX6_init_62 ?_
  refine r_iconst hx hb dX6_init_65 ?_
  refine r_iconst hx hb dX6_init_66 ?_
  refine i_ast C0 hW (k0 := n0 + 1) (n := 941) (A := fun _ => iI 0) (v := iI 3) (wgt hP0 rfl) (by omega) (by omega) (by decide) dX6_init_67 (fun H1 locs1 hW => ?_)
  rw [wst hP0] at hW
  have hW : wi G (P0 ++ (.inr (6, [.int (iI 0), .ref (G.2.2 + (n0 + 1)), .ref (G.2.2 + (n0 + 2)), .ref (G.2.2 + (n0 + 3)), .int 0, .ref (G.2.2 + (n0 + 4)), .int 0, .ref (G.2.2 + (n0 + 5)), .int 0, .int 0, .int 0, .ref (G.2.2 + (n0 + 6)), .int 0]) :: (cI G 941 (st (fun _ => iI 0) 0 (iI 3)) :: (cI G 941 (fun _ => iI 0) :: (cI G 3764 (fun _ => iI 0) :: (cI G 941 (fun _ => iI 0) :: (cI G 60 (fun _ => iI 0) :: (cI G 120 (fun _ => iI 0) :: [])))))))) s _ _ := hW
  refine lv_aload_n hx hb dX6_init_68 rfl (lv_at hl 0 rfl) ?_
  refine i_get C0 hW 1 (k0 := n0 + 0) (fs := [.int (iI 0), .ref (G.2.2 + (n0 + 1)), .ref (G.2.2 + (n0 + 2)), .ref (G.2.2 + (n0 + 3)), .int 0, .ref (G.2.2 + (n0 + 4)), .int 0, .ref (G.2.2 + (n0 + 5)), .int 0, .int 0, .int 0, .ref (G.2.2 + (n0 + 6)), .int 0]) (v := .ref (G.2.2 + (n0 + 1))) (wgt hP0 rfl) rfl hiX6 (by decide) kf_X6_7 rfl rfl rfl dX6_init_69 ?_
  refine r_bipush hx hb dX6_init_72 (by decide) ?_
  refine r_iconst hx hb dX6_init_74 ?_
  refine i_ast C0 hW (k0 := n0 + 1) (n := 941) (A := st (fun _ => iI 0) 0 (iI 3)) (v := iI 5) (wgt hP0 rfl) (by omega) (by omega) (by decide) dX6_init_75 (fun H1 locs1 hW => ?_)
  rw [wst hP0] at hW
  have hW : wi G (P0 ++ (.inr (6, [.int (iI 0), .ref (G.2.2 + (n0 + 1)), .ref (G.2.2 + (n0 + 2)), .ref (G.2.2 + (n0 + 3)), .int 0, .ref (G.2.2 + (n0 + 4)), .int 0, .ref (G.2.2 + (n0 + 5)), .int 0, .int 0, .int 0, .ref (G.2.2 + (n0 + 6)), .int 0]) :: (cI G 941 (st (st (fun _ => iI 0) 0 (iI 3)) 10 (iI 5)) :: (cI G 941 (fun _ => iI 0) :: (cI G 3764 (fun _ => iI 0) :: (cI G 941 (fun _ => iI 0) :: (cI G 60 (fun _ => iI 0) :: (cI G 120 (fun _ => iI 0) :: [])))))))) s _ _ := hW
  refine r_iconst hx hb dX6_init_76 ?_
  refine lv_istore_n (lv' := [(1, .int (iI 0)), (0, .ref (G.2.2 + (n0 + 0)))]) hx hb dX6_init_77 rfl hl (by decide) rfl (fun ls hl => ?_)
  have hL78 : ∀ (n : Nat) (x1 : Int) (H0 : Heap) (locs0 : List Loc) (ls : Array Slot) (hm : 10 - x1 < (n : Int)) (hx0 : 0 ≤ x1) (hx1 : x1 ≤ 10) (hW : wi G (P0 ++ (.inr (6, [.int (iI 0), .ref (G.2.2 + (n0 + 1)), .ref (G.2.2 + (n0 + 2)), .ref (G.2.2 + (n0 + 3)), .int 0, .ref (G.2.2 + (n0 + 4)), .int 0, .ref (G.2.2 + (n0 + 5)), .int 0, .int 0, .int 0, .ref (G.2.2 + (n0 + 6)), .int 0]) :: (cI G 941 (d6A a0A x1) :: (cI G 941 (fun _ => iI 0) :: (cI G 3764 (fun _ => iI 0) :: (cI G 941 (fun _ => iI 0) :: (cI G 60 (fun _ => iI 0) :: (cI G 120 (fun _ => iI 0) :: [])))))))) s H0 locs0) (hl : lv_has ls 2 [(1, .int (iI x1)), (0, .ref (G.2.2 + (n0 + 0)))]), W p l e (rmN 1 6 6767 20) s m args below meth c H0 locs0 6 6767 (QN G (P0 ++ L_X6 G n0) below args s 6 6767) (F0 m 78 ls []) := by
    intro n
    induction n with
    | zero =>
      intro x1 H0 locs0 ls hm hx0 hx1 hW hl
      exact absurd hm (by omega)
    | succ n ih78 =>
      intro x1 H0 locs0 ls hm hx0 hx1 hW hl
      refine lv_iload_n hx hb dX6_init_78 rfl (lv_at hl 0 rfl) ?_
      refine r_bipush hx hb dX6_init_79 (by decide) ?_
      refine r_icmp_ge (tgt := 105) hx hb ⟨by omega, by omega⟩ ⟨by omega, by omega⟩ dX6_init_81 (by decide) (fun c1 => ?_) (fun c1 => ?_)
      · rw [show x1 = 10 from by omega] at hW
        refine r_iconst hx hb dX6_init_105 ?_
        refine lv_istore_n (lv' := [(1, .int (iI 0)), (0, .ref (G.2.2 + (n0 + 0)))]) hx hb dX6_init_106 rfl hl (by decide) rfl (fun ls hl => ?_)
        have hL107 : ∀ (n : Nat) (y1 : Int) (H0 : Heap) (locs0 : List Loc) (ls : Array Slot) (hm : 20 - y1 < (n : Int)) (hx0 : 0 ≤ y1) (hx1 : y1 ≤ 20) (hW : wi G (P0 ++ (.inr (6, [.int (iI 0), .ref (G.2.2 + (n0 + 1)), .ref (G.2.2 + (n0 + 2)), .ref (G.2.2 + (n0 + 3)), .int 0, .ref (G.2.2 + (n0 + 4)), .int 0, .ref (G.2.2 + (n0 + 5)), .int 0, .int 0, .int 0, .ref (G.2.2 + (n0 + 6)), .int 0]) :: (cI G 941 (p6A (d6A a0A 10) y1) :: (cI G 941 (fun _ => iI 0) :: (cI G 3764 (fun _ => iI 0) :: (cI G 941 (fun _ => iI 0) :: (cI G 60 (fun _ => iI 0) :: (cI G 120 (fun _ => iI 0) :: [])))))))) s H0 locs0) (hl : lv_has ls 2 [(1, .int (iI y1)), (0, .ref (G.2.2 + (n0 + 0)))]), W p l e (rmN 1 6 6767 20) s m args below meth c H0 locs0 6 6767 (QN G (P0 ++ L_X6 G n0) below args s 6 6767) (F0 m 107 ls []) := by
          intro n
          induction n with
          | zero =>
            intro y1 H0 locs0 ls hm hx0 hx1 hW hl
            exact absurd hm (by omega)
          | succ n ih107 =>
            intro y1 H0 locs0 ls hm hx0 hx1 hW hl
            refine lv_iload_n hx hb dX6_init_107 rfl (lv_at hl 0 rfl) ?_
            refine r_bipush hx hb dX6_init_108 (by decide) ?_
            refine r_icmp_ge (tgt := 166) hx hb ⟨by omega, by omega⟩ ⟨by omega, by omega⟩ dX6_init_110 (by decide) (fun c2 => ?_) (fun c2 => ?_)
            · exact i_ret C0 hW (by rw [show y1 = 20 from by omega]; rfl) (Nat.le_of_ble_eq_true rfl) (Nat.le_of_ble_eq_true rfl) dX6_init_166
            · refine lv_aload_n hx hb dX6_init_113 rfl (lv_at hl 1 rfl) ?_
              refine i_get C0 hW 1 (k0 := n0 + 0) (fs := [.int (iI 0), .ref (G.2.2 + (n0 + 1)), .ref (G.2.2 + (n0 + 2)), .ref (G.2.2 + (n0 + 3)), .int 0, .ref (G.2.2 + (n0 + 4)), .int 0, .ref (G.2.2 + (n0 + 5)), .int 0, .int 0, .int 0, .ref (G.2.2 + (n0 + 6)), .int 0]) (v := .ref (G.2.2 + (n0 + 1))) (wgt hP0 rfl) rfl hiX6 (by decide) kf_X6_7 rfl rfl rfl dX6_init_114 ?_
              refine r_bipush hx hb dX6_init_117 (by decide) ?_
              refine r_iconst hx hb dX6_init_119 ?_
              refine lv_iload_n hx hb dX6_init_120 rfl (lv_at hl 0 rfl) ?_
              refine r_imul hx hb dX6_init_121 ?_
              refine r_iadd hx hb dX6_init_122 ?_
              refine r_iconst hx hb dX6_init_123 ?_
              refine r_iadd hx hb dX6_init_124 ?_
              refine r_bipush hx hb dX6_init_125 (by decide) ?_
              refine i_ast C0 hW (k0 := n0 + 1) (n := 941) (A := p6A (d6A a0A 10) y1) (v := iI 6) (wgt hP0 rfl) (by omega) (by omega) (by decide) dX6_init_127 (fun H1 locs1 hW => ?_)
              rw [wst hP0] at hW
              have hW : wi G (P0 ++ (.inr (6, [.int (iI 0), .ref (G.2.2 + (n0 + 1)), .ref (G.2.2 + (n0 + 2)), .ref (G.2.2 + (n0 + 3)), .int 0, .ref (G.2.2 + (n0 + 4)), .int 0, .ref (G.2.2 + (n0 + 5)), .int 0, .int 0, .int 0, .ref (G.2.2 + (n0 + 6)), .int 0]) :: (cI G 941 (st (p6A (d6A a0A 10) y1) ((41 + (3 * y1)) + 0) (iI 6)) :: (cI G 941 (fun _ => iI 0) :: (cI G 3764 (fun _ => iI 0) :: (cI G 941 (fun _ => iI 0) :: (cI G 60 (fun _ => iI 0) :: (cI G 120 (fun _ => iI 0) :: [])))))))) s _ _ := hW
              refine lv_aload_n hx hb dX6_init_128 rfl (lv_at hl 1 rfl) ?_
              refine i_get C0 hW 1 (k0 := n0 + 0) (fs := [.int (iI 0), .ref (G.2.2 + (n0 + 1)), .ref (G.2.2 + (n0 + 2)), .ref (G.2.2 + (n0 + 3)), .int 0, .ref (G.2.2 + (n0 + 4)), .int 0, .ref (G.2.2 + (n0 + 5)), .int 0, .int 0, .int 0, .ref (G.2.2 + (n0 + 6)), .int 0]) (v := .ref (G.2.2 + (n0 + 1))) (wgt hP0 rfl) rfl hiX6 (by decide) kf_X6_7 rfl rfl rfl dX6_init_129 ?_
              refine r_bipush hx hb dX6_init_132 (by decide) ?_
              refine r_iconst hx hb dX6_init_134 ?_
              refine lv_iload_n hx hb dX6_init_135 rfl (lv_at hl 0 rfl) ?_
              refine r_imul hx hb dX6_init_136 ?_
              refine r_iadd hx hb dX6_init_137 ?_
              refine r_iconst hx hb dX6_init_138 ?_
              refine r_iadd hx hb dX6_init_139 ?_
              refine lv_iload_n hx hb dX6_init_140 rfl (lv_at hl 0 rfl) ?_
              refine r_iconst hx hb dX6_init_141 ?_
              refine r_idiv hx hb ⟨by omega, by omega⟩ ⟨by omega, by omega⟩ (by omega) (by omega) dX6_init_142 ?_
              refine i_ast C0 hW (k0 := n0 + 1) (n := 941) (A := st (p6A (d6A a0A 10) y1) ((41 + (3 * y1)) + 0) (iI 6)) (v := iI (y1 / 2)) (wgt hP0 rfl) (by omega) (by omega) (by decide) dX6_init_143 (fun H1 locs1 hW => ?_)
              rw [wst hP0] at hW
              have hW : wi G (P0 ++ (.inr (6, [.int (iI 0), .ref (G.2.2 + (n0 + 1)), .ref (G.2.2 + (n0 + 2)), .ref (G.2.2 + (n0 + 3)), .int 0, .ref (G.2.2 + (n0 + 4)), .int 0, .ref (G.2.2 + (n0 + 5)), .int 0, .int 0, .int 0, .ref (G.2.2 + (n0 + 6)), .int 0]) :: (cI G 941 (st (st (p6A (d6A a0A 10) y1) ((41 + (3 * y1)) + 0) (iI 6)) ((41 + (3 * y1)) + 1) (iI (y1 / 2))) :: (cI G 941 (fun _ => iI 0) :: (cI G 3764 (fun _ => iI 0) :: (cI G 941 (fun _ => iI 0) :: (cI G 60 (fun _ => iI 0) :: (cI G 120 (fun _ => iI 0) :: [])))))))) s _ _ := hW
              refine lv_aload_n hx hb dX6_init_144 rfl (lv_at hl 1 rfl) ?_
              refine i_get C0 hW 1 (k0 := n0 + 0) (fs := [.int (iI 0), .ref (G.2.2 + (n0 + 1)), .ref (G.2.2 + (n0 + 2)), .ref (G.2.2 + (n0 + 3)), .int 0, .ref (G.2.2 + (n0 + 4)), .int 0, .ref (G.2.2 + (n0 + 5)), .int 0, .int 0, .int 0, .ref (G.2.2 + (n0 + 6)), .int 0]) (v := .ref (G.2.2 + (n0 + 1))) (wgt hP0 rfl) rfl hiX6 (by decide) kf_X6_7 rfl rfl rfl dX6_init_145 ?_
              refine r_bipush hx hb dX6_init_148 (by decide) ?_
              refine r_iconst hx hb dX6_init_150 ?_
              refine lv_iload_n hx hb dX6_init_151 rfl (lv_at hl 0 rfl) ?_
              refine r_imul hx hb dX6_init_152 ?_
              refine r_iadd hx hb dX6_init_153 ?_
              refine r_iconst hx hb dX6_init_154 ?_
              refine r_iadd hx hb dX6_init_155 ?_
              refine lv_iload_n hx hb dX6_init_156 rfl (lv_at hl 0 rfl) ?_
              refine r_iconst hx hb dX6_init_157 ?_
              refine r_idiv hx hb ⟨by omega, by omega⟩ ⟨by omega, by omega⟩ (by omega) (by omega) dX6_init_158 ?_
              refine i_ast C0 hW (k0 := n0 + 1) (n := 941) (A := st (st (p6A (d6A a0A 10) y1) ((41 + (3 * y1)) + 0) (iI 6)) ((41 + (3 * y1)) + 1) (iI (y1 / 2))) (v := iI (y1 / 2)) (wgt hP0 rfl) (by omega) (by omega) (by decide) dX6_init_159 (fun H1 locs1 hW => ?_)
              rw [wst hP0] at hW
              have hW : wi G (P0 ++ (.inr (6, [.int (iI 0), .ref (G.2.2 + (n0 + 1)), .ref (G.2.2 + (n0 + 2)), .ref (G.2.2 + (n0 + 3)), .int 0, .ref (G.2.2 + (n0 + 4)), .int 0, .ref (G.2.2 + (n0 + 5)), .int 0, .int 0, .int 0, .ref (G.2.2 + (n0 + 6)), .int 0]) :: (cI G 941 (st (st (st (p6A (d6A a0A 10) y1) ((41 + (3 * y1)) + 0) (iI 6)) ((41 + (3 * y1)) + 1) (iI (y1 / 2))) ((41 + (3 * y1)) + 2) (iI (y1 / 2))) :: (cI G 941 (fun _ => iI 0) :: (cI G 3764 (fun _ => iI 0) :: (cI G 941 (fun _ => iI 0) :: (cI G 60 (fun _ => iI 0) :: (cI G 120 (fun _ => iI 0) :: [])))))))) s _ _ := hW
              refine r_iinc (lv' := [(1, .int (iI (y1 + 1))), (0, .ref (G.2.2 + (n0 + 0)))]) hx hb dX6_init_160 hl (k := 0) rfl (by decide) rfl (fun ls hl => ?_)
              refine lv_goto (tgt := 107) hx hb dX6_init_163 (by decide) ?_
              exact ih107 (y1 + 1) _ _ ls (by omega) (by omega) (by omega) (by rw [p6A_s _ hx0]; exact hW) (lv_sub hl [0, 1] rfl)
        exact hL107 21 0 _ _ ls (by omega) (by omega) (by omega) (by rw [p6A_0]; exact hW) (lv_sub hl [0, 1] rfl)
      · refine lv_aload_n hx hb dX6_init_84 rfl (lv_at hl 1 rfl) ?_
        refine i_get C0 hW 1 (k0 := n0 + 0) (fs := [.int (iI 0), .ref (G.2.2 + (n0 + 1)), .ref (G.2.2 + (n0 + 2)), .ref (G.2.2 + (n0 + 3)), .int 0, .ref (G.2.2 + (n0 + 4)), .int 0, .ref (G.2.2 + (n0 + 5)), .int 0, .int 0, .int 0, .ref (G.2.2 + (n0 + 6)), .int 0]) (v := .ref (G.2.2 + (n0 + 1))) (wgt hP0 rfl) rfl hiX6 (by decide) kf_X6_7 rfl rfl rfl dX6_init_85 ?_
        refine r_bipush hx hb dX6_init_88 (by decide) ?_
        refine r_iconst hx hb dX6_init_90 ?_
        refine lv_iload_n hx hb dX6_init_91 rfl (lv_at hl 0 rfl) ?_
        refine r_imul hx hb dX6_init_92 ?_
        refine r_iadd hx hb dX6_init_93 ?_
        refine r_iconst hx hb dX6_init_94 ?_
        refine r_iadd hx hb dX6_init_95 ?_
        refine r_bipush hx hb dX6_init_96 (by decide) ?_
        refine i_ast C0 hW (k0 := n0 + 1) (n := 941) (A := d6A a0A x1) (v := iI 6) (wgt hP0 rfl) (by omega) (by omega) (by decide) dX6_init_98 (fun H1 locs1 hW => ?_)
        rw [wst hP0] at hW
        have hW : wi G (P0 ++ (.inr (6, [.int (iI 0), .ref (G.2.2 + (n0 + 1)), .ref (G.2.2 + (n0 + 2)), .ref (G.2.2 + (n0 + 3)), .int 0, .ref (G.2.2 + (n0 + 4)), .int 0, .ref (G.2.2 + (n0 + 5)), .int 0, .int 0, .int 0, .ref (G.2.2 + (n0 + 6)), .int 0]) :: (cI G 941 (st (d6A a0A x1) ((11 + (3 * x1)) + 0) (iI 6)) :: (cI G 941 (fun _ => iI 0) :: (cI G 3764 (fun _ => iI 0) :: (cI G 941 (fun _ => iI 0) :: (cI G 60 (fun _ => iI 0) :: (cI G 120 (fun _ => iI 0) :: [])))))))) s _ _ := hW
        refine r_iinc (lv' := [(1, .int (iI (x1 + 1))), (0, .ref (G.2.2 + (n0 + 0)))]) hx hb dX6_init_99 hl (k := 0) rfl (by decide) rfl (fun ls hl => ?_)
        refine lv_goto (tgt := 78) hx hb dX6_init_102 (by decide) ?_
        exact ih78 (x1 + 1) _ _ ls (by omega) (by omega) (by omega) (by rw [d6A_s _ hx0]; exact hW) (lv_sub hl [0, 1] rfl)
  exact hL78 11 0 _ _ ls (by omega) (by omega) (by omega) (by rw [d6A_0]; exact hW) (lv_sub hl [0, 1] rfl)
