theorem wgt {P0 E : List va_E} {n0 j : Nat} (h : P0.length = n0) {e : va_E} (he : E[j]? = some e) : (P0 ++ E)[n0 + j]? = some e := by
  rw [List.getElem?_append_right (by omega), show n0 + j - P0.length = j by omega]; exact he
theorem wst {P0 E : List va_E} {n0 j : Nat} (h : P0.length = n0) (e : va_E) : (P0 ++ E).set (n0 + j) e = P0 ++ E.set j e := by
  rw [List.set_append_right _ _ (by omega), show n0 + j - P0.length = j by omega]
/-- X0_init: the cells that it lays -/
def L_X0 (G : gG) (n0 : Nat) : List va_E := (.inr (0, [.ref (G.2.2 + (n0 + 1)), .int 0, .ref (G.2.2 + (n0 + 2)), .ref (G.2.2 + (n0 + 3)), .int 0]) :: (cC G 60 (fun _ => iI 0) :: (cI G 60 (fun _ => iI 0) :: (cI G 60 (fun _ => iI 0) :: []))))
set_option maxHeartbeats 4000000 in
set_option maxRecDepth 100000 in
theorem c_X0_init (l : Launch) (G : gG) (P0 : List va_E) (n0 : Nat) (hP0 : P0.length = n0) : mN l G yX0_init (wU yX0_init cX0_init 1 none) (rmN 1 3 180 20) [.ref (G.2.2 + (n0 + 0))] (P0 ++ [.inr (0, [.null, .int 0, .null, .null, .int 0])]) (P0 ++ L_X0 G n0) 3 180 := by
  refine mN_of (by decide +kernel) (Nat.le_of_ble_eq_true rfl) rfl (fun p e s m args below meth c ls C0 hin2 hW hl => ?_)
  have hl : lv_has ls 1 [(0, .ref (G.2.2 + (n0 + 0)))] := hl
  have hx := C0.hx
  have hb := C0.hb
  refine lv_aload_n hx hb dX0_init_0 rfl (lv_at hl 0 rfl) ?_
  refine i_oi C0 km_X0_3 rfl hl.1 dX0_init_1 ⟨Nat.le_of_ble_eq_true rfl, Nat.le_of_ble_eq_true rfl⟩ ?_
  refine lv_aload_n hx hb dX0_init_4 rfl (lv_at hl 0 rfl) ?_
  refine r_bipush hx hb dX0_init_5 (by decide) ?_
  refine i_arr C0 hW (atype := .char) (cA := G.2.1.2.2) (a0 := (60, .inl (fun i : Nat => (fun _ : Int => iI 0) (i : Int)))) ka_char (va_nm_char (hW.2.2.1.2 2 _ rfl).2) rfl (by decide) (by decide) (Nat.le_of_ble_eq_true rfl) (Nat.le_of_ble_eq_true rfl) (Nat.le_of_ble_eq_true rfl) dX0_init_7 (fun H1 hW => ?_)
  rw [List.append_assoc] at hW
  have hW : wi G (P0 ++ (.inr (0, [.null, .int 0, .null, .null, .int 0]) :: (cC G 60 (fun _ => iI 0) :: []))) s _ _ := hW
  rw [List.length_append, hP0]
  show W p l e _ s m args below meth c _ _ 1 60 _ (F0 m _ _ (.ref (G.2.2 + (n0 + 1)) :: _))
  refine i_pF C0 hin2 hW 0 (k0 := n0 + 0) (v := .ref (G.2.2 + (n0 + 1))) (fs := [.null, .int 0, .null, .null, .int 0]) (wgt hP0 rfl) rfl hiX0 tyX0 tyX0_ok nmX0 (by decide) kf_X0_9 rfl rfl rfl rfl (tyX0_ok 0 (by decide)) rfl rfl (Nat.le_of_ble_eq_true rfl) dX0_init_9 (fun H1 locs1 hW => ?_)
  rw [wst hP0] at hW
  have hW : wi G (P0 ++ (.inr (0, [.ref (G.2.2 + (n0 + 1)), .int 0, .null, .null, .int 0]) :: (cC G 60 (fun _ => iI 0) :: []))) s _ _ := hW
  refine lv_aload_n hx hb dX0_init_12 rfl (lv_at hl 0 rfl) ?_
  refine r_bipush hx hb dX0_init_13 (by decide) ?_
  refine i_arr C0 hW (atype := .int) (cA := G.2.1.1) (a0 := (60, .inl (fun i : Nat => (fun _ : Int => iI 0) (i : Int)))) ka_int (va_nm_int (hW.2.2.1.2 0 _ rfl).2) rfl (by decide) (by decide) (Nat.le_of_ble_eq_true rfl) (Nat.le_of_ble_eq_true rfl) (Nat.le_of_ble_eq_true rfl) dX0_init_15 (fun H1 hW => ?_)
  rw [List.append_assoc] at hW
  have hW : wi G (P0 ++ (.inr (0, [.ref (G.2.2 + (n0 + 1)), .int 0, .null, .null, .int 0]) :: (cC G 60 (fun _ => iI 0) :: (cI G 60 (fun _ => iI 0) :: [])))) s _ _ := hW
  rw [List.length_append, hP0]
  show W p l e _ s m args below meth c _ _ 2 120 _ (F0 m _ _ (.ref (G.2.2 + (n0 + 2)) :: _))
  refine i_pF C0 hin2 hW 2 (k0 := n0 + 0) (v := .ref (G.2.2 + (n0 + 2))) (fs := [.ref (G.2.2 + (n0 + 1)), .int 0, .null, .null, .int 0]) (wgt hP0 rfl) rfl hiX0 tyX0 tyX0_ok nmX0 (by decide) kf_X0_15 rfl rfl rfl rfl (tyX0_ok 2 (by decide)) rfl rfl (Nat.le_of_ble_eq_true rfl) dX0_init_17 (fun H1 locs1 hW => ?_)
  rw [wst hP0] at hW
  have hW : wi G (P0 ++ (.inr (0, [.ref (G.2.2 + (n0 + 1)), .int 0, .ref (G.2.2 + (n0 + 2)), .null, .int 0]) :: (cC G 60 (fun _ => iI 0) :: (cI G 60 (fun _ => iI 0) :: [])))) s _ _ := hW
  refine lv_aload_n hx hb dX0_init_20 rfl (lv_at hl 0 rfl) ?_
  refine r_bipush hx hb dX0_init_21 (by decide) ?_
  refine i_arr C0 hW (atype := .int) (cA := G.2.1.1) (a0 := (60, .inl (fun i : Nat => (fun _ : Int => iI 0) (i : Int)))) ka_int (va_nm_int (hW.2.2.1.2 0 _ rfl).2) rfl (by decide) (by decide) (Nat.le_of_ble_eq_true rfl) (Nat.le_of_ble_eq_true rfl) (Nat.le_of_ble_eq_true rfl) dX0_init_23 (fun H1 hW => ?_)
  rw [List.append_assoc] at hW
  have hW : wi G (P0 ++ (.inr (0, [.ref (G.2.2 + (n0 + 1)), .int 0, .ref (G.2.2 + (n0 + 2)), .null, .int 0]) :: (cC G 60 (fun _ => iI 0) :: (cI G 60 (fun _ => iI 0) :: (cI G 60 (fun _ => iI 0) :: []))))) s _ _ := hW
  rw [List.length_append, hP0]
  show W p l e _ s m args below meth c _ _ 3 180 _ (F0 m _ _ (.ref (G.2.2 + (n0 + 3)) :: _))
  refine i_pF C0 hin2 hW 3 (k0 := n0 + 0) (v := .ref (G.2.2 + (n0 + 3))) (fs := [.ref (G.2.2 + (n0 + 1)), .int 0, .ref (G.2.2 + (n0 + 2)), .null, .int 0]) (wgt hP0 rfl) rfl hiX0 tyX0 tyX0_ok nmX0 (by decide) kf_X0_19 rfl rfl rfl rfl (tyX0_ok 3 (by decide)) rfl rfl (Nat.le_of_ble_eq_true rfl) dX0_init_25 (fun H1 locs1 hW => ?_)
  rw [wst hP0] at hW
  have hW : wi G (P0 ++ (.inr (0, [.ref (G.2.2 + (n0 + 1)), .int 0, .ref (G.2.2 + (n0 + 2)), .ref (G.2.2 + (n0 + 3)), .int 0]) :: (cC G 60 (fun _ => iI 0) :: (cI G 60 (fun _ => iI 0) :: (cI G 60 (fun _ => iI 0) :: []))))) s _ _ := hW
  exact i_ret C0 hW (rfl) (Nat.le_of_ble_eq_true rfl) (Nat.le_of_ble_eq_true rfl) dX0_init_28

/-- X1_init: the cells that it lays -/
def L_X1 (G : gG) (n0 : Nat) : List va_E := (.inr (1, [.ref (G.2.2 + (n0 + 1)), .ref (G.2.2 + (n0 + 2)), .ref (G.2.2 + (n0 + 3)), .ref (G.2.2 + (n0 + 4)), .int 0, .int 0]) :: (cI G 120 (fun _ => iI 0) :: (cI G 120 (fun _ => iI 0) :: (cI G 120 (fun _ => iI 0) :: (cI G 120 (fun _ => iI 0) :: [])))))
set_option maxHeartbeats 4000000 in
set_option maxRecDepth 100000 in
theorem c_X1_init (l : Launch) (G : gG) (P0 : List va_E) (n0 : Nat) (hP0 : P0.length = n0) : mN l G yX1_init (wU yX1_init cX1_init 1 none) (rmN 1 4 480 20) [.ref (G.2.2 + (n0 + 0))] (P0 ++ [.inr (1, [.null, .null, .null, .null, .int 0, .int 0])]) (P0 ++ L_X1 G n0) 4 480 := by
  refine mN_of (by decide +kernel) (Nat.le_of_ble_eq_true rfl) rfl (fun p e s m args below meth c ls C0 hin2 hW hl => ?_)
  have hl : lv_has ls 1 [(0, .ref (G.2.2 + (n0 + 0)))] := hl
  have hx := C0.hx
  have hb := C0.hb
  refine lv_aload_n hx hb dX1_init_0 rfl (lv_at hl 0 rfl) ?_
  refine i_oi C0 km_X1_3 rfl hl.1 dX1_init_1 ⟨Nat.le_of_ble_eq_true rfl, Nat.le_of_ble_eq_true rfl⟩ ?_
  refine lv_aload_n hx hb dX1_init_4 rfl (lv_at hl 0 rfl) ?_
  refine r_bipush hx hb dX1_init_5 (by decide) ?_
  refine i_arr C0 hW (atype := .int) (cA := G.2.1.1) (a0 := (120, .inl (fun i : Nat => (fun _ : Int => iI 0) (i : Int)))) ka_int (va_nm_int (hW.2.2.1.2 0 _ rfl).2) rfl (by decide) (by decide) (Nat.le_of_ble_eq_true rfl) (Nat.le_of_ble_eq_true rfl) (Nat.le_of_ble_eq_true rfl) dX1_init_7 (fun H1 hW => ?_)
  rw [List.append_assoc] at hW
  have hW : wi G (P0 ++ (.inr (1, [.null, .null, .null, .null, .int 0, .int 0]) :: (cI G 120 (fun _ => iI 0) :: []))) s _ _ := hW
  rw [List.length_append, hP0]
  show W p l e _ s m args below meth c _ _ 1 120 _ (F0 m _ _ (.ref (G.2.2 + (n0 + 1)) :: _))
  refine i_pF C0 hin2 hW 0 (k0 := n0 + 0) (v := .ref (G.2.2 + (n0 + 1))) (fs := [.null, .null, .null, .null, .int 0, .int 0]) (wgt hP0 rfl) rfl hiX1 tyX1 tyX1_ok nmX1 (by decide) kf_X1_9 rfl rfl rfl rfl (tyX1_ok 0 (by decide)) rfl rfl (Nat.le_of_ble_eq_true rfl) dX1_init_9 (fun H1 locs1 hW => ?_)
  rw [wst hP0] at hW
  have hW : wi G (P0 ++ (.inr (1, [.ref (G.2.2 + (n0 + 1)), .null, .null, .null, .int 0, .int 0]) :: (cI G 120 (fun _ => iI 0) :: []))) s _ _ := hW
  refine lv_aload_n hx hb dX1_init_12 rfl (lv_at hl 0 rfl) ?_
  refine r_bipush hx hb dX1_init_13 (by decide) ?_
  refine i_arr C0 hW (atype := .int) (cA := G.2.1.1) (a0 := (120, .inl (fun i : Nat => (fun _ : Int => iI 0) (i : Int)))) ka_int (va_nm_int (hW.2.2.1.2 0 _ rfl).2) rfl (by decide) (by decide) (Nat.le_of_ble_eq_true rfl) (Nat.le_of_ble_eq_true rfl) (Nat.le_of_ble_eq_true rfl) dX1_init_15 (fun H1 hW => ?_)
  rw [List.append_assoc] at hW
  have hW : wi G (P0 ++ (.inr (1, [.ref (G.2.2 + (n0 + 1)), .null, .null, .null, .int 0, .int 0]) :: (cI G 120 (fun _ => iI 0) :: (cI G 120 (fun _ => iI 0) :: [])))) s _ _ := hW
  rw [List.length_append, hP0]
  show W p l e _ s m args below meth c _ _ 2 240 _ (F0 m _ _ (.ref (G.2.2 + (n0 + 2)) :: _))
  refine i_pF C0 hin2 hW 1 (k0 := n0 + 0) (v := .ref (G.2.2 + (n0 + 2))) (fs := [.ref (G.2.2 + (n0 + 1)), .null, .null, .null, .int 0, .int 0]) (wgt hP0 rfl) rfl hiX1 tyX1 tyX1_ok nmX1 (by decide) kf_X1_15 rfl rfl rfl rfl (tyX1_ok 1 (by decide)) rfl rfl (Nat.le_of_ble_eq_true rfl) dX1_init_17 (fun H1 locs1 hW => ?_)
  rw [wst hP0] at hW
  have hW : wi G (P0 ++ (.inr (1, [.ref (G.2.2 + (n0 + 1)), .ref (G.2.2 + (n0 + 2)), .null, .null, .int 0, .int 0]) :: (cI G 120 (fun _ => iI 0) :: (cI G 120 (fun _ => iI 0) :: [])))) s _ _ := hW
  refine lv_aload_n hx hb dX1_init_20 rfl (lv_at hl 0 rfl) ?_
  refine r_bipush hx hb dX1_init_21 (by decide) ?_
  refine i_arr C0 hW (atype := .int) (cA := G.2.1.1) (a0 := (120, .inl (fun i : Nat => (fun _ : Int => iI 0) (i : Int)))) ka_int (va_nm_int (hW.2.2.1.2 0 _ rfl).2) rfl (by decide) (by decide) (Nat.le_of_ble_eq_true rfl) (Nat.le_of_ble_eq_true rfl) (Nat.le_of_ble_eq_true rfl) dX1_init_23 (fun H1 hW => ?_)
  rw [List.append_assoc] at hW
  have hW : wi G (P0 ++ (.inr (1, [.ref (G.2.2 + (n0 + 1)), .ref (G.2.2 + (n0 + 2)), .null, .null, .int 0, .int 0]) :: (cI G 120 (fun _ => iI 0) :: (cI G 120 (fun _ => iI 0) :: (cI G 120 (fun _ => iI 0) :: []))))) s _ _ := hW
  rw [List.length_append, hP0]
  show W p l e _ s m args below meth c _ _ 3 360 _ (F0 m _ _ (.ref (G.2.2 + (n0 + 3)) :: _))
  refine i_pF C0 hin2 hW 2 (k0 := n0 + 0) (v := .ref (G.2.2 + (n0 + 3))) (fs := [.ref (G.2.2 + (n0 + 1)), .ref (G.2.2 + (n0 + 2)), .null, .null, .int 0, .int 0]) (wgt hP0 rfl) rfl hiX1 tyX1 tyX1_ok nmX1 (by decide) kf_X1_18 rfl rfl rfl rfl (tyX1_ok 2 (by decide)) rfl rfl (Nat.le_of_ble_eq_true rfl) dX1_init_25 (fun H1 locs1 hW => ?_)
  rw [wst hP0] at hW
  have hW : wi G (P0 ++ (.inr (1, [.ref (G.2.2 + (n0 + 1)), .ref (G.2.2 + (n0 + 2)), .ref (G.2.2 + (n0 + 3)), .null, .int 0, .int 0]) :: (cI G 120 (fun _ => iI 0) :: (cI G 120 (fun _ => iI 0) :: (cI G 120 (fun _ => iI 0) :: []))))) s _ _ := hW
  refine lv_aload_n hx hb dX1_init_28 rfl (lv_at hl 0 rfl) ?_
  refine r_bipush hx hb dX1_init_29 (by decide) ?_
  refine i_arr C0 hW (atype := .int) (cA := G.2.1.1) (a0 := (120, .inl (fun i : Nat => (fun _ : Int => iI 0) (i : Int)))) ka_int (va_nm_int (hW.2.2.1.2 0 _ rfl).2) rfl (by decide) (by decide) (Nat.le_of_ble_eq_true rfl) (Nat.le_of_ble_eq_true rfl) (Nat.le_of_ble_eq_true rfl) dX1_init_31 (fun H1 hW => ?_)
  rw [List.append_assoc] at hW
  have hW : wi G (P0 ++ (.inr (1, [.ref (G.2.2 + (n0 + 1)), .ref (G.2.2 + (n0 + 2)), .ref (G.2.2 + (n0 + 3)), .null, .int 0, .int 0]) :: (cI G 120 (fun _ => iI 0) :: (cI G 120 (fun _ => iI 0) :: (cI G 120 (fun _ => iI 0) :: (cI G 120 (fun _ => iI 0) :: [])))))) s _ _ := hW
  rw [List.length_append, hP0]
  show W p l e _ s m args below meth c _ _ 4 480 _ (F0 m _ _ (.ref (G.2.2 + (n0 + 4)) :: _))
  refine i_pF C0 hin2 hW 3 (k0 := n0 + 0) (v := .ref (G.2.2 + (n0 + 4))) (fs := [.ref (G.2.2 + (n0 + 1)), .ref (G.2.2 + (n0 + 2)), .ref (G.2.2 + (n0 + 3)), .null, .int 0, .int 0]) (wgt hP0 rfl) rfl hiX1 tyX1 tyX1_ok nmX1 (by decide) kf_X1_21 rfl rfl rfl rfl (tyX1_ok 3 (by decide)) rfl rfl (Nat.le_of_ble_eq_true rfl) dX1_init_33 (fun H1 locs1 hW => ?_)
  rw [wst hP0] at hW
  have hW : wi G (P0 ++ (.inr (1, [.ref (G.2.2 + (n0 + 1)), .ref (G.2.2 + (n0 + 2)), .ref (G.2.2 + (n0 + 3)), .ref (G.2.2 + (n0 + 4)), .int 0, .int 0]) :: (cI G 120 (fun _ => iI 0) :: (cI G 120 (fun _ => iI 0) :: (cI G 120 (fun _ => iI 0) :: (cI G 120 (fun _ => iI 0) :: [])))))) s _ _ := hW
  exact i_ret C0 hW (rfl) (Nat.le_of_ble_eq_true rfl) (Nat.le_of_ble_eq_true rfl) dX1_init_36

/-- X4_init: the cells that it lays -/
def L_X4 (G : gG) (n0 : Nat) : List va_E := (.inr (4, [.ref (G.2.2 + (n0 + 1)), .ref (G.2.2 + (n0 + 2)), .ref (G.2.2 + (n0 + 3)), .ref (G.2.2 + (n0 + 4)), .ref (G.2.2 + (n0 + 5)), .ref (G.2.2 + (n0 + 6)), .int 0]) :: (cI G 120 (fun _ => iI 0) :: (cI G 120 (fun _ => iI 0) :: (cI G 120 (fun _ => iI 0) :: (cZ G 120 (fun _ => iI 0) :: (cZ G 120 (fun _ => iI 0) :: (cZ G 120 (fun _ => iI 0) :: [])))))))
set_option maxHeartbeats 4000000 in
set_option maxRecDepth 100000 in
theorem c_X4_init (l : Launch) (G : gG) (P0 : List va_E) (n0 : Nat) (hP0 : P0.length = n0) : mN l G yX4_init (wU yX4_init cX4_init 1 none) (rmN 1 6 720 20) [.ref (G.2.2 + (n0 + 0))] (P0 ++ [.inr (4, [.null, .null, .null, .null, .null, .null, .int 0])]) (P0 ++ L_X4 G n0) 6 720 := by
  refine mN_of (by decide +kernel) (Nat.le_of_ble_eq_true rfl) rfl (fun p e s m args below meth c ls C0 hin2 hW hl => ?_)
  have hl : lv_has ls 1 [(0, .ref (G.2.2 + (n0 + 0)))] := hl
  have hx := C0.hx
  have hb := C0.hb
  refine lv_aload_n hx hb dX4_init_0 rfl (lv_at hl 0 rfl) ?_
  refine i_oi C0 km_X4_3 rfl hl.1 dX4_init_1 ⟨Nat.le_of_ble_eq_true rfl, Nat.le_of_ble_eq_true rfl⟩ ?_
  refine lv_aload_n hx hb dX4_init_4 rfl (lv_at hl 0 rfl) ?_
  refine r_bipush hx hb dX4_init_5 (by decide) ?_
  refine i_arr C0 hW (atype := .int) (cA := G.2.1.1) (a0 := (120, .inl (fun i : Nat => (fun _ : Int => iI 0) (i : Int)))) ka_int (va_nm_int (hW.2.2.1.2 0 _ rfl).2) rfl (by decide) (by decide) (Nat.le_of_ble_eq_true rfl) (Nat.le_of_ble_eq_true rfl) (Nat.le_of_ble_eq_true rfl) dX4_init_7 (fun H1 hW => ?_)
  rw [List.append_assoc] at hW
  have hW : wi G (P0 ++ (.inr (4, [.null, .null, .null, .null, .null, .null, .int 0]) :: (cI G 120 (fun _ => iI 0) :: []))) s _ _ := hW
  rw [List.length_append, hP0]
  show W p l e _ s m args below meth c _ _ 1 120 _ (F0 m _ _ (.ref (G.2.2 + (n0 + 1)) :: _))
  refine i_pF C0 hin2 hW 0 (k0 := n0 + 0) (v := .ref (G.2.2 + (n0 + 1))) (fs := [.null, .null, .null, .null, .null, .null, .int 0]) (wgt hP0 rfl) rfl hiX4 tyX4 tyX4_ok nmX4 (by decide) kf_X4_9 rfl rfl rfl rfl (tyX4_ok 0 (by decide)) rfl rfl (Nat.le_of_ble_eq_true rfl) dX4_init_9 (fun H1 locs1 hW => ?_)
  rw [wst hP0] at hW
  have hW : wi G (P0 ++ (.inr (4, [.ref (G.2.2 + (n0 + 1)), .null, .null, .null, .null, .null, .int 0]) :: (cI G 120 (fun _ => iI 0) :: []))) s _ _ := hW
  refine lv_aload_n hx hb dX4_init_12 rfl (lv_at hl 0 rfl) ?_
  refine r_bipush hx hb dX4_init_13 (by decide) ?_
  refine i_arr C0 hW (atype := .int) (cA := G.2.1.1) (a0 := (120, .inl (fun i : Nat => (fun _ : Int => iI 0) (i : Int)))) ka_int (va_nm_int (hW.2.2.1.2 0 _ rfl).2) rfl (by decide) (by decide) (Nat.le_of_ble_eq_true rfl) (Nat.le_of_ble_eq_true rfl) (Nat.le_of_ble_eq_true rfl) dX4_init_15 (fun H1 hW => ?_)
  rw [List.append_assoc] at hW
  have hW : wi G (P0 ++ (.inr (4, [.ref (G.2.2 + (n0 + 1)), .null, .null, .null, .null, .null, .int 0]) :: (cI G 120 (fun _ => iI 0) :: (cI G 120 (fun _ => iI 0) :: [])))) s _ _ := hW
  rw [List.length_append, hP0]
  show W p l e _ s m args below meth c _ _ 2 240 _ (F0 m _ _ (.ref (G.2.2 + (n0 + 2)) :: _))
  refine i_pF C0 hin2 hW 1 (k0 := n0 + 0) (v := .ref (G.2.2 + (n0 + 2))) (fs := [.ref (G.2.2 + (n0 + 1)), .null, .null, .null, .null, .null, .int 0]) (wgt hP0 rfl) rfl hiX4 tyX4 tyX4_ok nmX4 (by decide) kf_X4_15 rfl rfl rfl rfl (tyX4_ok 1 (by decide)) rfl rfl (Nat.le_of_ble_eq_true rfl) dX4_init_17 (fun H1 locs1 hW => ?_)
  rw [wst hP0] at hW
  have hW : wi G (P0 ++ (.inr (4, [.ref (G.2.2 + (n0 + 1)), .ref (G.2.2 + (n0 + 2)), .null, .null, .null, .null, .int 0]) :: (cI G 120 (fun _ => iI 0) :: (cI G 120 (fun _ => iI 0) :: [])))) s _ _ := hW
  refine lv_aload_n hx hb dX4_init_20 rfl (lv_at hl 0 rfl) ?_
  refine r_bipush hx hb dX4_init_21 (by decide) ?_
  refine i_arr C0 hW (atype := .int) (cA := G.2.1.1) (a0 := (120, .inl (fun i : Nat => (fun _ : Int => iI 0) (i : Int)))) ka_int (va_nm_int (hW.2.2.1.2 0 _ rfl).2) rfl (by decide) (by decide) (Nat.le_of_ble_eq_true rfl) (Nat.le_of_ble_eq_true rfl) (Nat.le_of_ble_eq_true rfl) dX4_init_23 (fun H1 hW => ?_)
  rw [List.append_assoc] at hW
  have hW : wi G (P0 ++ (.inr (4, [.ref (G.2.2 + (n0 + 1)), .ref (G.2.2 + (n0 + 2)), .null, .null, .null, .null, .int 0]) :: (cI G 120 (fun _ => iI 0) :: (cI G 120 (fun _ => iI 0) :: (cI G 120 (fun _ => iI 0) :: []))))) s _ _ := hW
  rw [List.length_append, hP0]
  show W p l e _ s m args below meth c _ _ 3 360 _ (F0 m _ _ (.ref (G.2.2 + (n0 + 3)) :: _))
  refine i_pF C0 hin2 hW 2 (k0 := n0 + 0) (v := .ref (G.2.2 + (n0 + 3))) (fs := [.ref (G.2.2 + (n0 + 1)), .ref (G.2.2 + (n0 + 2)), .null, .null, .null, .null, .int 0]) (wgt hP0 rfl) rfl hiX4 tyX4 tyX4_ok nmX4 (by decide) kf_X4_18 rfl rfl rfl rfl (tyX4_ok 2 (by decide)) rfl rfl (Nat.le_of_ble_eq_true rfl) dX4_init_25 (fun H1 locs1 hW => ?_)
  rw [wst hP0] at hW
  have hW : wi G (P0 ++ (.inr (4, [.ref (G.2.2 + (n0 + 1)), .ref (G.2.2 + (n0 + 2)), .ref (G.2.2 + (n0 + 3)), .null, .null, .null, .int 0]) :: (cI G 120 (fun _ => iI 0) :: (cI G 120 (fun _ => iI 0) :: (cI G 120 (fun _ => iI 0) :: []))))) s _ _ := hW
  refine lv_aload_n hx hb dX4_init_28 rfl (lv_at hl 0 rfl) ?_
  refine r_bipush hx hb dX4_init_29 (by decide) ?_
  refine i_arr C0 hW (atype := .boolean) (cA := G.2.1.2.1) (a0 := (120, .inl (fun i : Nat => (fun _ : Int => iI 0) (i : Int)))) ka_boolean (va_nm_boolean (hW.2.2.1.2 1 _ rfl).2) rfl (by decide) (by decide) (Nat.le_of_ble_eq_true rfl) (Nat.le_of_ble_eq_true rfl) (Nat.le_of_ble_eq_true rfl) dX4_init_31 (fun H1 hW => ?_)
  rw [List.append_assoc] at hW
  have hW : wi G (P0 ++ (.inr (4, [.ref (G.2.2 + (n0 + 1)), .ref (G.2.2 + (n0 + 2)), .ref (G.2.2 + (n0 + 3)), .null, .null, .null, .int 0]) :: (cI G 120 (fun _ => iI 0) :: (cI G 120 (fun _ => iI 0) :: (cI G 120 (fun _ => iI 0) :: (cZ G 120 (fun _ => iI 0) :: [])))))) s _ _ := hW
  rw [List.length_append, hP0]
  show W p l e _ s m args below meth c _ _ 4 480 _ (F0 m _ _ (.ref (G.2.2 + (n0 + 4)) :: _))
  refine i_pF C0 hin2 hW 3 (k0 := n0 + 0) (v := .ref (G.2.2 + (n0 + 4))) (fs := [.ref (G.2.2 + (n0 + 1)), .ref (G.2.2 + (n0 + 2)), .ref (G.2.2 + (n0 + 3)), .null, .null, .null, .int 0]) (wgt hP0 rfl) rfl hiX4 tyX4 tyX4_ok nmX4 (by decide) kf_X4_21 rfl rfl rfl rfl (tyX4_ok 3 (by decide)) rfl rfl (Nat.le_of_ble_eq_true rfl) dX4_init_33 (fun H1 locs1 hW => ?_)
  rw [wst hP0] at hW
  have hW : wi G (P0 ++ (.inr (4, [.ref (G.2.2 + (n0 + 1)), .ref (G.2.2 + (n0 + 2)), .ref (G.2.2 + (n0 + 3)), .ref (G.2.2 + (n0 + 4)), .null, .null, .int 0]) :: (cI G 120 (fun _ => iI 0) :: (cI G 120 (fun _ => iI 0) :: (cI G 120 (fun _ => iI 0) :: (cZ G 120 (fun _ => iI 0) :: [])))))) s _ _ := hW
  refine lv_aload_n hx hb dX4_init_36 rfl (lv_at hl 0 rfl) ?_
  refine r_bipush hx hb dX4_init_37 (by decide) ?_
  refine i_arr C0 hW (atype := .boolean) (cA := G.2.1.2.1) (a0 := (120, .inl (fun i : Nat => (fun _ : Int => iI 0) (i : Int)))) ka_boolean (va_nm_boolean (hW.2.2.1.2 1 _ rfl).2) rfl (by decide) (by decide) (Nat.le_of_ble_eq_true rfl) (Nat.le_of_ble_eq_true rfl) (Nat.le_of_ble_eq_true rfl) dX4_init_39 (fun H1 hW => ?_)
  rw [List.append_assoc] at hW
  have hW : wi G (P0 ++ (.inr (4, [.ref (G.2.2 + (n0 + 1)), .ref (G.2.2 + (n0 + 2)), .ref (G.2.2 + (n0 + 3)), .ref (G.2.2 + (n0 + 4)), .null, .null, .int 0]) :: (cI G 120 (fun _ => iI 0) :: (cI G 120 (fun _ => iI 0) :: (cI G 120 (fun _ => iI 0) :: (cZ G 120 (fun _ => iI 0) :: (cZ G 120 (fun _ => iI 0) :: []))))))) s _ _ := hW
  rw [List.length_append, hP0]
  show W p l e _ s m args below meth c _ _ 5 600 _ (F0 m _ _ (.ref (G.2.2 + (n0 + 5)) :: _))
  refine i_pF C0 hin2 hW 4 (k0 := n0 + 0) (v := .ref (G.2.2 + (n0 + 5))) (fs := [.ref (G.2.2 + (n0 + 1)), .ref (G.2.2 + (n0 + 2)), .ref (G.2.2 + (n0 + 3)), .ref (G.2.2 + (n0 + 4)), .null, .null, .int 0]) (wgt hP0 rfl) rfl hiX4 tyX4 tyX4_ok nmX4 (by decide) kf_X4_25 rfl rfl rfl rfl (tyX4_ok 4 (by decide)) rfl rfl (Nat.le_of_ble_eq_true rfl) dX4_init_41 (fun H1 locs1 hW => ?_)
  rw [wst hP0] at hW
  have hW : wi G (P0 ++ (.inr (4, [.ref (G.2.2 + (n0 + 1)), .ref (G.2.2 + (n0 + 2)), .ref (G.2.2 + (n0 + 3)), .ref (G.2.2 + (n0 + 4)), .ref (G.2.2 + (n0 + 5)), .null, .int 0]) :: (cI G 120 (fun _ => iI 0) :: (cI G 120 (fun _ => iI 0) :: (cI G 120 (fun _ => iI 0) :: (cZ G 120 (fun _ => iI 0) :: (cZ G 120 (fun _ => iI 0) :: []))))))) s _ _ := hW
  refine lv_aload_n hx hb dX4_init_44 rfl (lv_at hl 0 rfl) ?_
  refine r_bipush hx hb dX4_init_45 (by decide) ?_
  refine i_arr C0 hW (atype := .boolean) (cA := G.2.1.2.1) (a0 := (120, .inl (fun i : Nat => (fun _ : Int => iI 0) (i : Int)))) ka_boolean (va_nm_boolean (hW.2.2.1.2 1 _ rfl).2) rfl (by decide) (by decide) (Nat.le_of_ble_eq_true rfl) (Nat.le_of_ble_eq_true rfl) (Nat.le_of_ble_eq_true rfl) dX4_init_47 (fun H1 hW => ?_)
  rw [List.append_assoc] at hW
  have hW : wi G (P0 ++ (.inr (4, [.ref (G.2.2 + (n0 + 1)), .ref (G.2.2 + (n0 + 2)), .ref (G.2.2 + (n0 + 3)), .ref (G.2.2 + (n0 + 4)), .ref (G.2.2 + (n0 + 5)), .null, .int 0]) :: (cI G 120 (fun _ => iI 0) :: (cI G 120 (fun _ => iI 0) :: (cI G 120 (fun _ => iI 0) :: (cZ G 120 (fun _ => iI 0) :: (cZ G 120 (fun _ => iI 0) :: (cZ G 120 (fun _ => iI 0) :: [])))))))) s _ _ := hW
  rw [List.length_append, hP0]
  show W p l e _ s m args below meth c _ _ 6 720 _ (F0 m _ _ (.ref (G.2.2 + (n0 + 6)) :: _))
  refine i_pF C0 hin2 hW 5 (k0 := n0 + 0) (v := .ref (G.2.2 + (n0 + 6))) (fs := [.ref (G.2.2 + (n0 + 1)), .ref (G.2.2 + (n0 + 2)), .ref (G.2.2 + (n0 + 3)), .ref (G.2.2 + (n0 + 4)), .ref (G.2.2 + (n0 + 5)), .null, .int 0]) (wgt hP0 rfl) rfl hiX4 tyX4 tyX4_ok nmX4 (by decide) kf_X4_28 rfl rfl rfl rfl (tyX4_ok 5 (by decide)) rfl rfl (Nat.le_of_ble_eq_true rfl) dX4_init_49 (fun H1 locs1 hW => ?_)
  rw [wst hP0] at hW
  have hW : wi G (P0 ++ (.inr (4, [.ref (G.2.2 + (n0 + 1)), .ref (G.2.2 + (n0 + 2)), .ref (G.2.2 + (n0 + 3)), .ref (G.2.2 + (n0 + 4)), .ref (G.2.2 + (n0 + 5)), .ref (G.2.2 + (n0 + 6)), .int 0]) :: (cI G 120 (fun _ => iI 0) :: (cI G 120 (fun _ => iI 0) :: (cI G 120 (fun _ => iI 0) :: (cZ G 120 (fun _ => iI 0) :: (cZ G 120 (fun _ => iI 0) :: (cZ G 120 (fun _ => iI 0) :: [])))))))) s _ _ := hW
  exact i_ret C0 hW (rfl) (Nat.le_of_ble_eq_true rfl) (Nat.le_of_ble_eq_true rfl) dX4_init_52
