/-- X3_init: the cells that it lays -/
def L_X3 (G : gG) (n0 : Nat) : List va_E := (.inr (3, [.ref (G.2.2 + (n0 + 1)), .ref (G.2.2 + (n0 + 2)), .ref (G.2.2 + (n0 + 3)), .ref (G.2.2 + (n0 + 4)), .ref (G.2.2 + (n0 + 5)), .ref (G.2.2 + (n0 + 6)), .ref (G.2.2 + (n0 + 7)), .ref (G.2.2 + (n0 + 14)), .int (iI 3), .int 0, .int 0, .int 0, .int 0, .int 0]) :: (cI G 20 (selG (fun _ => iI 0) (fun _ => iI 6) 0 20) :: (cI G 20 (selG (fun _ => iI 0) (fun i => iI (i / 2)) 0 20) :: (cI G 20 (selG (fun _ => iI 0) (fun i => iI (i / 2)) 0 20) :: (cI G 10 (selG (fun _ => iI 0) (fun _ => iI 6) 0 10) :: (cI G 10 (fun _ => iI 0) :: (cI G 10 (fun _ => iI 0) :: (L_X4 G (n0 + 7) ++ (L_X1 G (n0 + 14) ++ [])))))))))
set_option maxHeartbeats 4000000 in
set_option maxRecDepth 100000 in
theorem c_X3_init (l : Launch) (G : gG) (P0 : List va_E) (n0 : Nat) (hP0 : P0.length = n0) : mN l G yX3_init (wU yX3_init cX3_init 2 none) (rmN 2 18 1303 40) [.ref (G.2.2 + (n0 + 0))] (P0 ++ [.inr (3, [.null, .null, .null, .null, .null, .null, .null, .null, .int 0, .int 0, .int 0, .int 0, .int 0, .int 0])]) (P0 ++ L_X3 G n0) 18 1303 := by
  refine mN_of (by decide +kernel) (Nat.le_of_ble_eq_true rfl) rfl (fun p e s m args below meth c ls C0 hin2 hW hl => ?_)
  have hl : lv_has ls 2 [(0, .ref (G.2.2 + (n0 + 0)))] := hl
  have hx := C0.hx
  have hb := C0.hb
  refine lv_aload_n hx hb dX3_init_0 rfl (lv_at hl 0 rfl) ?_
  refine i_oi C0 km_X3_3 rfl hl.1 dX3_init_1 ⟨Nat.le_of_ble_eq_true rfl, Nat.le_of_ble_eq_true rfl⟩ ?_
  refine lv_aload_n hx hb dX3_init_4 rfl (lv_at hl 0 rfl) ?_
  refine r_bipush hx hb dX3_init_5 (by decide) ?_
  refine i_arr C0 hW (atype := .int) (cA := G.2.1.1) (a0 := (20, .inl (fun i : Nat => (fun _ : Int => iI 0) (i : Int)))) ka_int (va_nm_int (hW.2.2.1.2 0 _ rfl).2) rfl (by decide) (by decide) (Nat.le_of_ble_eq_true rfl) (Nat.le_of_ble_eq_true rfl) (Nat.le_of_ble_eq_true rfl) dX3_init_7 (fun H1 hW => ?_)
  rw [List.append_assoc] at hW
  have hW : wi G (P0 ++ (.inr (3, [.null, .null, .null, .null, .null, .null, .null, .null, .int 0, .int 0, .int 0, .int 0, .int 0, .int 0]) :: (cI G 20 (fun _ => iI 0) :: []))) s _ _ := hW
  rw [List.length_append, hP0]
  show W p l e _ s m args below meth c _ _ 1 20 _ (F0 m _ _ (.ref (G.2.2 + (n0 + 1)) :: _))
  refine i_pF C0 hin2 hW 0 (k0 := n0 + 0) (v := .ref (G.2.2 + (n0 + 1))) (fs := [.null, .null, .null, .null, .null, .null, .null, .null, .int 0, .int 0, .int 0, .int 0, .int 0, .int 0]) (wgt hP0 rfl) rfl hiX3 tyX3 tyX3_ok nmX3 (by decide) kf_X3_9 rfl rfl rfl rfl (tyX3_ok 0 (by decide)) rfl rfl (Nat.le_of_ble_eq_true rfl) dX3_init_9 (fun H1 locs1 hW => ?_)
  rw [wst hP0] at hW
  have hW : wi G (P0 ++ (.inr (3, [.ref (G.2.2 + (n0 + 1)), .null, .null, .null, .null, .null, .null, .null, .int 0, .int 0, .int 0, .int 0, .int 0, .int 0]) :: (cI G 20 (fun _ => iI 0) :: []))) s _ _ := hW
  refine lv_aload_n hx hb dX3_init_12 rfl (lv_at hl 0 rfl) ?_
  refine r_bipush hx hb dX3_init_13 (by decide) ?_
  refine i_arr C0 hW (atype := .int) (cA := G.2.1.1) (a0 := (20, .inl (fun i : Nat => (fun _ : Int => iI 0) (i : Int)))) ka_int (va_nm_int (hW.2.2.1.2 0 _ rfl).2) rfl (by decide) (by decide) (Nat.le_of_ble_eq_true rfl) (Nat.le_of_ble_eq_true rfl) (Nat.le_of_ble_eq_true rfl) dX3_init_15 (fun H1 hW => ?_)
  rw [List.append_assoc] at hW
  have hW : wi G (P0 ++ (.inr (3, [.ref (G.2.2 + (n0 + 1)), .null, .null, .null, .null, .null, .null, .null, .int 0, .int 0, .int 0, .int 0, .int 0, .int 0]) :: (cI G 20 (fun _ => iI 0) :: (cI G 20 (fun _ => iI 0) :: [])))) s _ _ := hW
  rw [List.length_append, hP0]
  show W p l e _ s m args below meth c _ _ 2 40 _ (F0 m _ _ (.ref (G.2.2 + (n0 + 2)) :: _))
  refine i_pF C0 hin2 hW 1 (k0 := n0 + 0) (v := .ref (G.2.2 + (n0 + 2))) (fs := [.ref (G.2.2 + (n0 + 1)), .null, .null, .null, .null, .null, .null, .null, .int 0, .int 0, .int 0, .int 0, .int 0, .int 0]) (wgt hP0 rfl) rfl hiX3 tyX3 tyX3_ok nmX3 (by decide) kf_X3_15 rfl rfl rfl rfl (tyX3_ok 1 (by decide)) rfl rfl (Nat.le_of_ble_eq_true rfl) dX3_init_17 (fun H1 locs1 hW => ?_)
  rw [wst hP0] at hW
  have hW : wi G (P0 ++ (.inr (3, [.ref (G.2.2 + (n0 + 1)), .ref (G.2.2 + (n0 + 2)), .null, .null, .null, .null, .null, .null, .int 0, .int 0, .int 0, .int 0, .int 0, .int 0]) :: (cI G 20 (fun _ => iI 0) :: (cI G 20 (fun _ => iI 0) :: [])))) s _ _ := hW
  refine lv_aload_n hx hb dX3_init_20 rfl (lv_at hl 0 rfl) ?_
  refine r_bipush hx hb dX3_init_21 (by decide) ?_
  refine i_arr C0 hW (atype := .int) (cA := G.2.1.1) (a0 := (20, .inl (fun i : Nat => (fun _ : Int => iI 0) (i : Int)))) ka_int (va_nm_int (hW.2.2.1.2 0 _ rfl).2) rfl (by decide) (by decide) (Nat.le_of_ble_eq_true rfl) (Nat.le_of_ble_eq_true rfl) (Nat.le_of_ble_eq_true rfl) dX3_init_23 (fun H1 hW => ?_)
  rw [List.append_assoc] at hW
  have hW : wi G (P0 ++ (.inr (3, [.ref (G.2.2 + (n0 + 1)), .ref (G.2.2 + (n0 + 2)), .null, .null, .null, .null, .null, .null, .int 0, .int 0, .int 0, .int 0, .int 0, .int 0]) :: (cI G 20 (fun _ => iI 0) :: (cI G 20 (fun _ => iI 0) :: (cI G 20 (fun _ => iI 0) :: []))))) s _ _ := hW
  rw [List.length_append, hP0]
  show W p l e _ s m args below meth c _ _ 3 60 _ (F0 m _ _ (.ref (G.2.2 + (n0 + 3)) :: _))
  refine i_pF C0 hin2 hW 2 (k0 := n0 + 0) (v := .ref (G.2.2 + (n0 + 3))) (fs := [.ref (G.2.2 + (n0 + 1)), .ref (G.2.2 + (n0 + 2)), .null, .null, .null, .null, .null, .null, .int 0, .int 0, .int 0, .int 0, .int 0, .int 0]) (wgt hP0 rfl) rfl hiX3 tyX3 tyX3_ok nmX3 (by decide) kf_X3_18 rfl rfl rfl rfl (tyX3_ok 2 (by decide)) rfl rfl (Nat.le_of_ble_eq_true rfl) dX3_init_25 (fun H1 locs1 hW => ?_)
  rw [wst hP0] at hW
  have hW : wi G (P0 ++ (.inr (3, [.ref (G.2.2 + (n0 + 1)), .ref (G.2.2 + (n0 + 2)), .ref (G.2.2 + (n0 + 3)), .null, .null, .null, .null, .null, .int 0, .int 0, .int 0, .int 0, .int 0, .int 0]) :: (cI G 20 (fun _ => iI 0) :: (cI G 20 (fun _ => iI 0) :: (cI G 20 (fun _ => iI 0) :: []))))) s _ _ := hW
  refine lv_aload_n hx hb dX3_init_28 rfl (lv_at hl 0 rfl) ?_
  refine r_bipush hx hb dX3_init_29 (by decide) ?_
  refine i_arr C0 hW (atype := .int) (cA := G.2.1.1) (a0 := (10, .inl (fun i : Nat => (fun _ : Int => iI 0) (i : Int)))) ka_int (va_nm_int (hW.2.2.1.2 0 _ rfl).2) rfl (by decide) (by decide) (Nat.le_of_ble_eq_true rfl) (Nat.le_of_ble_eq_true rfl) (Nat.le_of_ble_eq_true rfl) dX3_init_31 (fun H1 hW => ?_)
  rw [List.append_assoc] at hW
  have hW : wi G (P0 ++ (.inr (3, [.ref (G.2.2 + (n0 + 1)), .ref (G.2.2 + (n0 + 2)), .ref (G.2.2 + (n0 + 3)), .null, .null, .null, .null, .null, .int 0, .int 0, .int 0, .int 0, .int 0, .int 0]) :: (cI G 20 (fun _ => iI 0) :: (cI G 20 (fun _ => iI 0) :: (cI G 20 (fun _ => iI 0) :: (cI G 10 (fun _ => iI 0) :: [])))))) s _ _ := hW
  rw [List.length_append, hP0]
  show W p l e _ s m args below meth c _ _ 4 70 _ (F0 m _ _ (.ref (G.2.2 + (n0 + 4)) :: _))
  refine i_pF C0 hin2 hW 3 (k0 := n0 + 0) (v := .ref (G.2.2 + (n0 + 4))) (fs := [.ref (G.2.2 + (n0 + 1)), .ref (G.2.2 + (n0 + 2)), .ref (G.2.2 + (n0 + 3)), .null, .null, .null, .null, .null, .int 0, .int 0, .int 0, .int 0, .int 0, .int 0]) (wgt hP0 rfl) rfl hiX3 tyX3 tyX3_ok nmX3 (by decide) kf_X3_21 rfl rfl rfl rfl (tyX3_ok 3 (by decide)) rfl rfl (Nat.le_of_ble_eq_true rfl) dX3_init_33 (fun H1 locs1 hW => ?_)
  rw [wst hP0] at hW
  have hW : wi G (P0 ++ (.inr (3, [.ref (G.2.2 + (n0 + 1)), .ref (G.2.2 + (n0 + 2)), .ref (G.2.2 + (n0 + 3)), .ref (G.2.2 + (n0 + 4)), .null, .null, .null, .null, .int 0, .int 0, .int 0, .int 0, .int 0, .int 0]) :: (cI G 20 (fun _ => iI 0) :: (cI G 20 (fun _ => iI 0) :: (cI G 20 (fun _ => iI 0) :: (cI G 10 (fun _ => iI 0) :: [])))))) s _ _ := hW
  refine lv_aload_n hx hb dX3_init_36 rfl (lv_at hl 0 rfl) ?_
  refine r_bipush hx hb dX3_init_37 (by decide) ?_
  refine i_arr C0 hW (atype := .int) (cA := G.2.1.1) (a0 := (10, .inl (fun i : Nat => (fun _ : Int => iI 0) (i : Int)))) ka_int (va_nm_int (hW.2.2.1.2 0 _ rfl).2) rfl (by decide) (by decide) (Nat.le_of_ble_eq_true rfl) (Nat.le_of_ble_eq_true rfl) (Nat.le_of_ble_eq_true rfl) dX3_init_39 (fun H1 hW => ?_)
  rw [List.append_assoc] at hW
  have hW : wi G (P0 ++ (.inr (3, [.ref (G.2.2 + (n0 + 1)), .ref (G.2.2 + (n0 + 2)), .ref (G.2.2 + (n0 + 3)), .ref (G.2.2 + (n0 + 4)), .null, .null, .null, .null, .int 0, .int 0, .int 0, .int 0, .int 0, .int 0]) :: (cI G 20 (fun _ => iI 0) :: (cI G 20 (fun _ => iI 0) :: (cI G 20 (fun _ => iI 0) :: (cI G 10 (fun _ => iI 0) :: (cI G 10 (fun _ => iI 0) :: []))))))) s _ _ := hW
  rw [List.length_append, hP0]
  show W p l e _ s m args below meth c _ _ 5 80 _ (F0 m _ _ (.ref (G.2.2 + (n0 + 5)) :: _))
  refine i_pF C0 hin2 hW 4 (k0 := n0 + 0) (v := .ref (G.2.2 + (n0 + 5))) (fs := [.ref (G.2.2 + (n0 + 1)), .ref (G.2.2 + (n0 + 2)), .ref (G.2.2 + (n0 + 3)), .ref (G.2.2 + (n0 + 4)), .null, .null, .null, .null, .int 0, .int 0, .int 0, .int 0, .int 0, .int 0]) (wgt hP0 rfl) rfl hiX3 tyX3 tyX3_ok nmX3 (by decide) kf_X3_24 rfl rfl rfl rfl (tyX3_ok 4 (by decide)) rfl rfl (Nat.le_of_ble_eq_true rfl) dX3_init_41 (fun H1 locs1 hW => ?_)
  rw [wst hP0] at hW
  have hW : wi G (P0 ++ (.inr (3, [.ref (G.2.2 + (n0 + 1)), .ref (G.2.2 + (n0 + 2)), .ref (G.2.2 + (n0 + 3)), .ref (G.2.2 + (n0 + 4)), .ref (G.2.2 + (n0 + 5)), .null, .null, .null, .int 0, .int 0, .int 0, .int 0, .int 0, .int 0]) :: (cI G 20 (fun _ => iI 0) :: (cI G 20 (fun _ => iI 0) :: (cI G 20 (fun _ => iI 0) :: (cI G 10 (fun _ => iI 0) :: (cI G 10 (fun _ => iI 0) :: []))))))) s _ _ := hW
  refine lv_aload_n hx hb dX3_init_44 rfl (lv_at hl 0 rfl) ?_
  refine r_bipush hx hb dX3_init_45 (by decide) ?_
  refine i_arr C0 hW (atype := .int) (cA := G.2.1.1) (a0 := (10, .inl (fun i : Nat => (fun _ : Int => iI 0) (i : Int)))) ka_int (va_nm_int (hW.2.2.1.2 0 _ rfl).2) rfl (by decide) (by decide) (Nat.le_of_ble_eq_true rfl) (Nat.le_of_ble_eq_true rfl) (Nat.le_of_ble_eq_true rfl) dX3_init_47 (fun H1 hW => ?_)
  rw [List.append_assoc] at hW
  have hW : wi G (P0 ++ (.inr (3, [.ref (G.2.2 + (n0 + 1)), .ref (G.2.2 + (n0 + 2)), .ref (G.2.2 + (n0 + 3)), .ref (G.2.2 + (n0 + 4)), .ref (G.2.2 + (n0 + 5)), .null, .null, .null, .int 0, .int 0, .int 0, .int 0, .int 0, .int 0]) :: (cI G 20 (fun _ => iI 0) :: (cI G 20 (fun _ => iI 0) :: (cI G 20 (fun _ => iI 0) :: (cI G 10 (fun _ => iI 0) :: (cI G 10 (fun _ => iI 0) :: (cI G 10 (fun _ => iI 0) :: [])))))))) s _ _ := hW
  rw [List.length_append, hP0]
  show W p l e _ s m args below meth c _ _ 6 90 _ (F0 m _ _ (.ref (G.2.2 + (n0 + 6)) :: _))
  refine i_pF C0 hin2 hW 5 (k0 := n0 + 0) (v := .ref (G.2.2 + (n0 + 6))) (fs := [.ref (G.2.2 + (n0 + 1)), .ref (G.2.2 + (n0 + 2)), .ref (G.2.2 + (n0 + 3)), .ref (G.2.2 + (n0 + 4)), .ref (G.2.2 + (n0 + 5)), .null, .null, .null, .int 0, .int 0, .int 0, .int 0, .int 0, .int 0]) (wgt hP0 rfl) rfl hiX3 tyX3 tyX3_ok nmX3 (by decide) kf_X3_27 rfl rfl rfl rfl (tyX3_ok 5 (by decide)) rfl rfl (Nat.le_of_ble_eq_true rfl) dX3_init_49 (fun H1 locs1 hW => ?_)
  rw [wst hP0] at hW
  have hW : wi G (P0 ++ (.inr (3, [.ref (G.2.2 + (n0 + 1)), .ref (G.2.2 + (n0 + 2)), .ref (G.2.2 + (n0 + 3)), .ref (G.2.2 + (n0 + 4)), .ref (G.2.2 + (n0 + 5)), .ref (G.2.2 + (n0 + 6)), .null, .null, .int 0, .int 0, .int 0, .int 0, .int 0, .int 0]) :: (cI G 20 (fun _ => iI 0) :: (cI G 20 (fun _ => iI 0) :: (cI G 20 (fun _ => iI 0) :: (cI G 10 (fun _ => iI 0) :: (cI G 10 (fun _ => iI 0) :: (cI G 10 (fun _ => iI 0) :: [])))))))) s _ _ := hW
  refine lv_aload_n hx hb dX3_init_52 rfl (lv_at hl 0 rfl) ?_
  refine i_obj C0 hW (ci := 4) rfl hiX4 tyX4 tyX4_ok kl_X3_30 kt_X4 kn_X4 rfl (fs := [.null, .null, .null, .null, .null, .null, .int 0]) (fun j hj => by rcases (show j = 0 ∨ j = 1 ∨ j = 2 ∨ j = 3 ∨ j = 4 ∨ j = 5 ∨ j = 6 by omega) with rfl | rfl | rfl | rfl | rfl | rfl | rfl <;> rfl) (Nat.le_of_ble_eq_true rfl) (Nat.le_of_ble_eq_true rfl) dX3_init_53 (fun H1 hW => ?_)
  rw [List.append_assoc] at hW
  have hW : wi G (P0 ++ (.inr (3, [.ref (G.2.2 + (n0 + 1)), .ref (G.2.2 + (n0 + 2)), .ref (G.2.2 + (n0 + 3)), .ref (G.2.2 + (n0 + 4)), .ref (G.2.2 + (n0 + 5)), .ref (G.2.2 + (n0 + 6)), .null, .null, .int 0, .int 0, .int 0, .int 0, .int 0, .int 0]) :: (cI G 20 (fun _ => iI 0) :: (cI G 20 (fun _ => iI 0) :: (cI G 20 (fun _ => iI 0) :: (cI G 10 (fun _ => iI 0) :: (cI G 10 (fun _ => iI 0) :: (cI G 10 (fun _ => iI 0) :: (.inr (4, [.null, .null, .null, .null, .null, .null, .int 0]) :: []))))))))) s _ _ := hW
  rw [List.length_append, hP0]
  show W p l e _ s m args below meth c _ _ 7 97 _ (F0 m _ _ (.ref (G.2.2 + (n0 + 7)) :: _))
  refine lv_dup hx hb dX3_init_56 rfl ?_
  refine i_call C0 (L := (P0 ++ (.inr (3, [.ref (G.2.2 + (n0 + 1)), .ref (G.2.2 + (n0 + 2)), .ref (G.2.2 + (n0 + 3)), .ref (G.2.2 + (n0 + 4)), .ref (G.2.2 + (n0 + 5)), .ref (G.2.2 + (n0 + 6)), .null, .null, .int 0, .int 0, .int 0, .int 0, .int 0, .int 0]) :: (cI G 20 (fun _ => iI 0) :: (cI G 20 (fun _ => iI 0) :: (cI G 20 (fun _ => iI 0) :: (cI G 10 (fun _ => iI 0) :: (cI G 10 (fun _ => iI 0) :: (cI G 10 (fun _ => iI 0) :: [])))))))) ++ [.inr (4, [.null, .null, .null, .null, .null, .null, .int 0])]) (by rw [List.append_assoc]; exact hW) (c_X4_init l G (P0 ++ (.inr (3, [.ref (G.2.2 + (n0 + 1)), .ref (G.2.2 + (n0 + 2)), .ref (G.2.2 + (n0 + 3)), .ref (G.2.2 + (n0 + 4)), .ref (G.2.2 + (n0 + 5)), .ref (G.2.2 + (n0 + 6)), .null, .null, .int 0, .int 0, .int 0, .int 0, .int 0, .int 0]) :: (cI G 20 (fun _ => iI 0) :: (cI G 20 (fun _ => iI 0) :: (cI G 20 (fun _ => iI 0) :: (cI G 10 (fun _ => iI 0) :: (cI G 10 (fun _ => iI 0) :: (cI G 10 (fun _ => iI 0) :: [])))))))) (n0 + 7) (by rw [List.length_append, hP0]; rfl)) km_X3_32 ki_X4_init kn_X4 kc_X4_init rfl rfl (by decide +kernel) ⟨Nat.le_of_ble_eq_true rfl, Nat.le_of_ble_eq_true rfl⟩ hl.1 (Nat.le_of_ble_eq_true rfl) dX3_init_57 ⟨Nat.le_of_ble_eq_true rfl, Nat.le_of_ble_eq_true rfl⟩ (fun H1 locs1 hW => ?_)
  rw [List.append_assoc] at hW
  have hW : wi G (P0 ++ (.inr (3, [.ref (G.2.2 + (n0 + 1)), .ref (G.2.2 + (n0 + 2)), .ref (G.2.2 + (n0 + 3)), .ref (G.2.2 + (n0 + 4)), .ref (G.2.2 + (n0 + 5)), .ref (G.2.2 + (n0 + 6)), .null, .null, .int 0, .int 0, .int 0, .int 0, .int 0, .int 0]) :: (cI G 20 (fun _ => iI 0) :: (cI G 20 (fun _ => iI 0) :: (cI G 20 (fun _ => iI 0) :: (cI G 10 (fun _ => iI 0) :: (cI G 10 (fun _ => iI 0) :: (cI G 10 (fun _ => iI 0) :: (L_X4 G (n0 + 7) ++ []))))))))) s _ _ := hW
  refine i_pF C0 hin2 hW 6 (k0 := n0 + 0) (v := .ref (G.2.2 + (n0 + 7))) (fs := [.ref (G.2.2 + (n0 + 1)), .ref (G.2.2 + (n0 + 2)), .ref (G.2.2 + (n0 + 3)), .ref (G.2.2 + (n0 + 4)), .ref (G.2.2 + (n0 + 5)), .ref (G.2.2 + (n0 + 6)), .null, .null, .int 0, .int 0, .int 0, .int 0, .int 0, .int 0]) (wgt hP0 rfl) rfl hiX3 tyX3 tyX3_ok nmX3 (by decide) kf_X3_33 rfl rfl rfl rfl (tyX3_ok 6 (by decide)) rfl rfl (Nat.le_of_ble_eq_true rfl) dX3_init_60 (fun H1 locs1 hW => ?_)
  rw [wst hP0] at hW
  have hW : wi G (P0 ++ (.inr (3, [.ref (G.2.2 + (n0 + 1)), .ref (G.2.2 + (n0 + 2)), .ref (G.2.2 + (n0 + 3)), .ref (G.2.2 + (n0 + 4)), .ref (G.2.2 + (n0 + 5)), .ref (G.2.2 + (n0 + 6)), .ref (G.2.2 + (n0 + 7)), .null, .int 0, .int 0, .int 0, .int 0, .int 0, .int 0]) :: (cI G 20 (fun _ => iI 0) :: (cI G 20 (fun _ => iI 0) :: (cI G 20 (fun _ => iI 0) :: (cI G 10 (fun _ => iI 0) :: (cI G 10 (fun _ => iI 0) :: (cI G 10 (fun _ => iI 0) :: (L_X4 G (n0 + 7) ++ []))))))))) s _ _ := hW
  refine lv_aload_n hx hb dX3_init_63 rfl (lv_at hl 0 rfl) ?_
  refine i_obj C0 hW (ci := 1) rfl hiX1 tyX1 tyX1_ok kl_X3_37 kt_X1 kn_X1 rfl (fs := [.null, .null, .null, .null, .int 0, .int 0]) (fun j hj => by rcases (show j = 0 ∨ j = 1 ∨ j = 2 ∨ j = 3 ∨ j = 4 ∨ j = 5 by omega) with rfl | rfl | rfl | rfl | rfl | rfl <;> rfl) (Nat.le_of_ble_eq_true rfl) (Nat.le_of_ble_eq_true rfl) dX3_init_64 (fun H1 hW => ?_)
  rw [List.append_assoc] at hW
  have hW : wi G (P0 ++ (.inr (3, [.ref (G.2.2 + (n0 + 1)), .ref (G.2.2 + (n0 + 2)), .ref (G.2.2 + (n0 + 3)), .ref (G.2.2 + (n0 + 4)), .ref (G.2.2 + (n0 + 5)), .ref (G.2.2 + (n0 + 6)), .ref (G.2.2 + (n0 + 7)), .null, .int 0, .int 0, .int 0, .int 0, .int 0, .int 0]) :: (cI G 20 (fun _ => iI 0) :: (cI G 20 (fun _ => iI 0) :: (cI G 20 (fun _ => iI 0) :: (cI G 10 (fun _ => iI 0) :: (cI G 10 (fun _ => iI 0) :: (cI G 10 (fun _ => iI 0) :: (L_X4 G (n0 + 7) ++ (.inr (1, [.null, .null, .null, .null, .int 0, .int 0]) :: [])))))))))) s _ _ := hW
  rw [List.length_append, hP0]
  show W p l e _ s m args below meth c _ _ 14 823 _ (F0 m _ _ (.ref (G.2.2 + (n0 + 14)) :: _))
  refine lv_dup hx hb dX3_init_67 rfl ?_
  refine i_call C0 (L := (P0 ++ (.inr (3, [.ref (G.2.2 + (n0 + 1)), .ref (G.2.2 + (n0 + 2)), .ref (G.2.2 + (n0 + 3)), .ref (G.2.2 + (n0 + 4)), .ref (G.2.2 + (n0 + 5)), .ref (G.2.2 + (n0 + 6)), .ref (G.2.2 + (n0 + 7)), .null, .int 0, .int 0, .int 0, .int 0, .int 0, .int 0]) :: (cI G 20 (fun _ => iI 0) :: (cI G 20 (fun _ => iI 0) :: (cI G 20 (fun _ => iI 0) :: (cI G 10 (fun _ => iI 0) :: (cI G 10 (fun _ => iI 0) :: (cI G 10 (fun _ => iI 0) :: (L_X4 G (n0 + 7) ++ []))))))))) ++ [.inr (1, [.null, .null, .null, .null, .int 0, .int 0])]) (by rw [List.append_assoc]; exact hW) (c_X1_init l G (P0 ++ (.inr (3, [.ref (G.2.2 + (n0 + 1)), .ref (G.2.2 + (n0 + 2)), .ref (G.2.2 + (n0 + 3)), .ref (G.2.2 + (n0 + 4)), .ref (G.2.2 + (n0 + 5)), .ref (G.2.2 + (n0 + 6)), .ref (G.2.2 + (n0 + 7)), .null, .int 0, .int 0, .int 0, .int 0, .int 0, .int 0]) :: (cI G 20 (fun _ => iI 0) :: (cI G 20 (fun _ => iI 0) :: (cI G 20 (fun _ => iI 0) :: (cI G 10 (fun _ => iI 0) :: (cI G 10 (fun _ => iI 0) :: (cI G 10 (fun _ => iI 0) :: (L_X4 G (n0 + 7) ++ []))))))))) (n0 + 14) (by rw [List.length_append, hP0]; rfl)) km_X3_39 ki_X1_init kn_X1 kc_X1_init rfl rfl (by decide +kernel) ⟨Nat.le_of_ble_eq_true rfl, Nat.le_of_ble_eq_true rfl⟩ hl.1 (Nat.le_of_ble_eq_true rfl) dX3_init_68 ⟨Nat.le_of_ble_eq_true rfl, Nat.le_of_ble_eq_true rfl⟩ (fun H1 locs1 hW => ?_)
  rw [List.append_assoc] at hW
  have hW : wi G (P0 ++ (.inr (3, [.ref (G.2.2 + (n0 + 1)), .ref (G.2.2 + (n0 + 2)), .ref (G.2.2 + (n0 + 3)), .ref (G.2.2 + (n0 + 4)), .ref (G.2.2 + (n0 + 5)), .ref (G.2.2 + (n0 + 6)), .ref (G.2.2 + (n0 + 7)), .null, .int 0, .int 0, .int 0, .int 0, .int 0, .int 0]) :: (cI G 20 (fun _ => iI 0) :: (cI G 20 (fun _ => iI 0) :: (cI G 20 (fun _ => iI 0) :: (cI G 10 (fun _ => iI 0) :: (cI G 10 (fun _ => iI 0) :: (cI G 10 (fun _ => iI 0) :: (L_X4 G (n0 + 7) ++ (L_X1 G (n0 + 14) ++ [])))))))))) s _ _ := hW
  refine i_pF C0 hin2 hW 7 (k0 := n0 + 0) (v := .ref (G.2.2 + (n0 + 14))) (fs := [.ref (G.2.2 + (n0 + 1)), .ref (G.2.2 + (n0 + 2)), .ref (G.2.2 + (n0 + 3)), .ref (G.2.2 + (n0 + 4)), .ref (G.2.2 + (n0 + 5)), .ref (G.2.2 + (n0 + 6)), .ref (G.2.2 + (n0 + 7)), .null, .int 0, .int 0, .int 0, .int 0, .int 0, .int 0]) (wgt hP0 rfl) rfl hiX3 tyX3 tyX3_ok nmX3 (by decide) kf_X3_40 rfl rfl rfl rfl (tyX3_ok 7 (by decide)) rfl rfl (Nat.le_of_ble_eq_true rfl) dX3_init_71 (fun H1 locs1 hW => ?_)
  rw [wst hP0] at hW
  have hW : wi G (P0 ++ (.inr (3, [.ref (G.2.2 + (n0 + 1)), .ref (G.2.2 + (n0 + 2)), .ref (G.2.2 + (n0 + 3)), .ref (G.2.2 + (n0 + 4)), .ref (G.2.2 + (n0 + 5)), .ref (G.2.2 + (n0 + 6)), .ref (G.2.2 + (n0 + 7)), .ref (G.2.2 + (n0 + 14)), .int 0, .int 0, .int 0, .int 0, .int 0, .int 0]) :: (cI G 20 (fun _ => iI 0) :: (cI G 20 (fun _ => iI 0) :: (cI G 20 (fun _ => iI 0) :: (cI G 10 (fun _ => iI 0) :: (cI G 10 (fun _ => iI 0) :: (cI G 10 (fun _ => iI 0) :: (L_X4 G (n0 + 7) ++ (L_X1 G (n0 + 14) ++ [])))))))))) s _ _ := hW
  refine lv_aload_n hx hb dX3_init_74 rfl (lv_at hl 0 rfl) ?_
  refine r_iconst hx hb dX3_init_75 ?_
  refine i_put C0 hW 8 (k0 := n0 + 0) (v := .int (iI 3)) (fs := [.ref (G.2.2 + (n0 + 1)), .ref (G.2.2 + (n0 + 2)), .ref (G.2.2 + (n0 + 3)), .ref (G.2.2 + (n0 + 4)), .ref (G.2.2 + (n0 + 5)), .ref (G.2.2 + (n0 + 6)), .ref (G.2.2 + (n0 + 7)), .ref (G.2.2 + (n0 + 14)), .int 0, .int 0, .int 0, .int 0, .int 0, .int 0]) (wgt hP0 rfl) rfl hiX3 tyX3 tyX3_ok nmX3 (by decide) kf_X3_44 rfl rfl  rfl (tyX3_ok 8 (by decide)) rfl rfl (Nat.le_of_ble_eq_true rfl) dX3_init_76 (fun H1 locs1 hW => ?_)
  rw [wst hP0] at hW
  have hW : wi G (P0 ++ (.inr (3, [.ref (G.2.2 + (n0 + 1)), .ref (G.2.2 + (n0 + 2)), .ref (G.2.2 + (n0 + 3)), .ref (G.2.2 + (n0 + 4)), .ref (G.2.2 + (n0 + 5)), .ref (G.2.2 + (n0 + 6)), .ref (G.2.2 + (n0 + 7)), .ref (G.2.2 + (n0 + 14)), .int (iI 3), .int 0, .int 0, .int 0, .int 0, .int 0]) :: (cI G 20 (fun _ => iI 0) :: (cI G 20 (fun _ => iI 0) :: (cI G 20 (fun _ => iI 0) :: (cI G 10 (fun _ => iI 0) :: (cI G 10 (fun _ => iI 0) :: (cI G 10 (fun _ => iI 0) :: (L_X4 G (n0 + 7) ++ (L_X1 G (n0 + 14) ++ [])))))))))) s _ _ := hW
  refine r_iconst hx hb dX3_init_79 ?_
  refine lv_istore_n (lv' := [(1, .int (iI 0)), (0, .ref (G.2.2 + (n0 + 0)))]) hx hb dX3_init_80 rfl hl (by decide) rfl (fun ls hl => ?_)
  have hL81 : ∀ (n : Nat) (x1 : Int) (H0 : Heap) (locs0 : List Loc) (ls : Array Slot) (hm : 20 - x1 < (n : Int)) (hx0 : 0 ≤ x1) (hx1 : x1 ≤ 20) (hW : wi G (P0 ++ (.inr (3, [.ref (G.2.2 + (n0 + 1)), .ref (G.2.2 + (n0 + 2)), .ref (G.2.2 + (n0 + 3)), .ref (G.2.2 + (n0 + 4)), .ref (G.2.2 + (n0 + 5)), .ref (G.2.2 + (n0 + 6)), .ref (G.2.2 + (n0 + 7)), .ref (G.2.2 + (n0 + 14)), .int (iI 3), .int 0, .int 0, .int 0, .int 0, .int 0]) :: (cI G 20 (selG (fun _ => iI 0) (fun _ => iI 6) 0 x1) :: (cI G 20 (selG (fun _ => iI 0) (fun i => iI (i / 2)) 0 x1) :: (cI G 20 (selG (fun _ => iI 0) (fun i => iI (i / 2)) 0 x1) :: (cI G 10 (fun _ => iI 0) :: (cI G 10 (fun _ => iI 0) :: (cI G 10 (fun _ => iI 0) :: (L_X4 G (n0 + 7) ++ (L_X1 G (n0 + 14) ++ [])))))))))) s H0 locs0) (hl : lv_has ls 2 [(1, .int (iI x1)), (0, .ref (G.2.2 + (n0 + 0)))]), W p l e (rmN 2 18 1303 40) s m args below meth c H0 locs0 18 1303 (QN G (P0 ++ L_X3 G n0) below args s 18 1303) (F0 m 81 ls []) := by
    intro n
    induction n with
    | zero =>
      intro x1 H0 locs0 ls hm hx0 hx1 hW hl
      exact absurd hm (by omega)
    | succ n ih81 =>
      intro x1 H0 locs0 ls hm hx0 hx1 hW hl
      refine lv_iload_n hx hb dX3_init_81 rfl (lv_at hl 0 rfl) ?_
      refine r_bipush hx hb dX3_init_82 (by decide) ?_
      refine r_icmp_ge (tgt := 119) hx hb ⟨by omega, by omega⟩ ⟨by omega, by omega⟩ dX3_init_84 (by decide) (fun c1 => ?_) (fun c1 => ?_)
      · rw [show x1 = 20 from by omega] at hW
        refine r_iconst hx hb dX3_init_119 ?_
        refine lv_istore_n (lv' := [(1, .int (iI 0)), (0, .ref (G.2.2 + (n0 + 0)))]) hx hb dX3_init_120 rfl hl (by decide) rfl (fun ls hl => ?_)
        have hL121 : ∀ (n : Nat) (y1 : Int) (H0 : Heap) (locs0 : List Loc) (ls : Array Slot) (hm : 10 - y1 < (n : Int)) (hx0 : 0 ≤ y1) (hx1 : y1 ≤ 10) (hW : wi G (P0 ++ (.inr (3, [.ref (G.2.2 + (n0 + 1)), .ref (G.2.2 + (n0 + 2)), .ref (G.2.2 + (n0 + 3)), .ref (G.2.2 + (n0 + 4)), .ref (G.2.2 + (n0 + 5)), .ref (G.2.2 + (n0 + 6)), .ref (G.2.2 + (n0 + 7)), .ref (G.2.2 + (n0 + 14)), .int (iI 3), .int 0, .int 0, .int 0, .int 0, .int 0]) :: (cI G 20 (selG (fun _ => iI 0) (fun _ => iI 6) 0 20) :: (cI G 20 (selG (fun _ => iI 0) (fun i => iI (i / 2)) 0 20) :: (cI G 20 (selG (fun _ => iI 0) (fun i => iI (i / 2)) 0 20) :: (cI G 10 (selG (fun _ => iI 0) (fun _ => iI 6) 0 y1) :: (cI G 10 (fun _ => iI 0) :: (cI G 10 (fun _ => iI 0) :: (L_X4 G (n0 + 7) ++ (L_X1 G (n0 + 14) ++ [])))))))))) s H0 locs0) (hl : lv_has ls 2 [(1, .int (iI y1)), (0, .ref (G.2.2 + (n0 + 0)))]), W p l e (rmN 2 18 1303 40) s m args below meth c H0 locs0 18 1303 (QN G (P0 ++ L_X3 G n0) below args s 18 1303) (F0 m 121 ls []) := by
          intro n
          induction n with
          | zero =>
            intro y1 H0 locs0 ls hm hx0 hx1 hW hl
            exact absurd hm (by omega)
          | succ n ih121 =>
            intro y1 H0 locs0 ls hm hx0 hx1 hW hl
            refine lv_iload_n hx hb dX3_init_121 rfl (lv_at hl 0 rfl) ?_
            refine r_bipush hx hb dX3_init_122 (by decide) ?_
            refine r_icmp_ge (tgt := 141) hx hb ⟨by omega, by omega⟩ ⟨by omega, by omega⟩ dX3_init_124 (by decide) (fun c2 => ?_) (fun c2 => ?_)
            · exact i_ret C0 hW (by rw [show y1 = 10 from by omega]; rfl) (Nat.le_of_ble_eq_true rfl) (Nat.le_of_ble_eq_true rfl) dX3_init_141
            · refine lv_aload_n hx hb dX3_init_127 rfl (lv_at hl 1 rfl) ?_
              refine i_get C0 hW 3 (k0 := n0 + 0) (fs := [.ref (G.2.2 + (n0 + 1)), .ref (G.2.2 + (n0 + 2)), .ref (G.2.2 + (n0 + 3)), .ref (G.2.2 + (n0 + 4)), .ref (G.2.2 + (n0 + 5)), .ref (G.2.2 + (n0 + 6)), .ref (G.2.2 + (n0 + 7)), .ref (G.2.2 + (n0 + 14)), .int (iI 3), .int 0, .int 0, .int 0, .int 0, .int 0]) (v := .ref (G.2.2 + (n0 + 4))) (wgt hP0 rfl) rfl hiX3 (by decide) kf_X3_21 rfl rfl rfl dX3_init_128 ?_
              refine lv_iload_n hx hb dX3_init_131 rfl (lv_at hl 0 rfl) ?_
              refine r_bipush hx hb dX3_init_132 (by decide) ?_
              refine i_ast C0 hW (k0 := n0 + 4) (n := 10) (A := selG (fun _ => iI 0) (fun _ => iI 6) 0 y1) (v := iI 6) (wgt hP0 rfl) (by omega) (by omega) (by decide) dX3_init_134 (fun H1 locs1 hW => ?_)
              rw [wst hP0] at hW
              have hW : wi G (P0 ++ (.inr (3, [.ref (G.2.2 + (n0 + 1)), .ref (G.2.2 + (n0 + 2)), .ref (G.2.2 + (n0 + 3)), .ref (G.2.2 + (n0 + 4)), .ref (G.2.2 + (n0 + 5)), .ref (G.2.2 + (n0 + 6)), .ref (G.2.2 + (n0 + 7)), .ref (G.2.2 + (n0 + 14)), .int (iI 3), .int 0, .int 0, .int 0, .int 0, .int 0]) :: (cI G 20 (selG (fun _ => iI 0) (fun _ => iI 6) 0 20) :: (cI G 20 (selG (fun _ => iI 0) (fun i => iI (i / 2)) 0 20) :: (cI G 20 (selG (fun _ => iI 0) (fun i => iI (i / 2)) 0 20) :: (cI G 10 (st (selG (fun _ => iI 0) (fun _ => iI 6) 0 y1) y1 (iI 6)) :: (cI G 10 (fun _ => iI 0) :: (cI G 10 (fun _ => iI 0) :: (L_X4 G (n0 + 7) ++ (L_X1 G (n0 + 14) ++ [])))))))))) s _ _ := hW
              refine r_iinc (lv' := [(1, .int (iI (y1 + 1))), (0, .ref (G.2.2 + (n0 + 0)))]) hx hb dX3_init_135 hl (k := 0) rfl (by decide) rfl (fun ls hl => ?_)
              refine lv_goto (tgt := 121) hx hb dX3_init_138 (by decide) ?_
              exact ih121 (y1 + 1) _ _ ls (by omega) (by omega) (by omega) (by rw [selG_s (fun _ => iI 0) (fun _ => iI 6) hx0]; exact hW) (lv_sub hl [0, 1] rfl)
        exact hL121 11 0 _ _ ls (by omega) (by omega) (by omega) (by rw [selG_0 (fun _ => iI 0) (fun _ => iI 6) (lo := 0) (hi := 0) (by decide)]; exact hW) (lv_sub hl [0, 1] rfl)
      · refine lv_aload_n hx hb dX3_init_87 rfl (lv_at hl 1 rfl) ?_
        refine i_get C0 hW 0 (k0 := n0 + 0) (fs := [.ref (G.2.2 + (n0 + 1)), .ref (G.2.2 + (n0 + 2)), .ref (G.2.2 + (n0 + 3)), .ref (G.2.2 + (n0 + 4)), .ref (G.2.2 + (n0 + 5)), .ref (G.2.2 + (n0 + 6)), .ref (G.2.2 + (n0 + 7)), .ref (G.2.2 + (n0 + 14)), .int (iI 3), .int 0, .int 0, .int 0, .int 0, .int 0]) (v := .ref (G.2.2 + (n0 + 1))) (wgt hP0 rfl) rfl hiX3 (by decide) kf_X3_9 rfl rfl rfl dX3_init_88 ?_
        refine lv_iload_n hx hb dX3_init_91 rfl (lv_at hl 0 rfl) ?_
        refine r_bipush hx hb dX3_init_92 (by decide) ?_
        refine i_ast C0 hW (k0 := n0 + 1) (n := 20) (A := selG (fun _ => iI 0) (fun _ => iI 6) 0 x1) (v := iI 6) (wgt hP0 rfl) (by omega) (by omega) (by decide) dX3_init_94 (fun H1 locs1 hW => ?_)
        rw [wst hP0] at hW
        have hW : wi G (P0 ++ (.inr (3, [.ref (G.2.2 + (n0 + 1)), .ref (G.2.2 + (n0 + 2)), .ref (G.2.2 + (n0 + 3)), .ref (G.2.2 + (n0 + 4)), .ref (G.2.2 + (n0 + 5)), .ref (G.2.2 + (n0 + 6)), .ref (G.2.2 + (n0 + 7)), .ref (G.2.2 + (n0 + 14)), .int (iI 3), .int 0, .int 0, .int 0, .int 0, .int 0]) :: (cI G 20 (st (selG (fun _ => iI 0) (fun _ => iI 6) 0 x1) x1 (iI 6)) :: (cI G 20 (selG (fun _ => iI 0) (fun i => iI (i / 2)) 0 x1) :: (cI G 20 (selG (fun _ => iI 0) (fun i => iI (i / 2)) 0 x1) :: (cI G 10 (fun _ => iI 0) :: (cI G 10 (fun _ => iI 0) :: (cI G 10 (fun _ => iI 0) :: (L_X4 G (n0 + 7) ++ (L_X1 G (n0 + 14) ++ [])))))))))) s _ _ := hW
        refine lv_aload_n hx hb dX3_init_95 rfl (lv_at hl 1 rfl) ?_
        refine i_get C0 hW 1 (k0 := n0 + 0) (fs := [.ref (G.2.2 + (n0 + 1)), .ref (G.2.2 + (n0 + 2)), .ref (G.2.2 + (n0 + 3)), .ref (G.2.2 + (n0 + 4)), .ref (G.2.2 + (n0 + 5)), .ref (G.2.2 + (n0 + 6)), .ref (G.2.2 + (n0 + 7)), .ref (G.2.2 + (n0 + 14)), .int (iI 3), .int 0, .int 0, .int 0, .int 0, .int 0]) (v := .ref (G.2.2 + (n0 + 2))) (wgt hP0 rfl) rfl hiX3 (by decide) kf_X3_15 rfl rfl rfl dX3_init_96 ?_
        refine lv_iload_n hx hb dX3_init_99 rfl (lv_at hl 0 rfl) ?_
        refine lv_iload_n hx hb dX3_init_100 rfl (lv_at hl 0 rfl) ?_
        refine r_iconst hx hb dX3_init_101 ?_
        refine r_idiv hx hb ⟨by omega, by omega⟩ ⟨by omega, by omega⟩ (by omega) (by omega) dX3_init_102 ?_
        refine i_ast C0 hW (k0 := n0 + 2) (n := 20) (A := selG (fun _ => iI 0) (fun i => iI (i / 2)) 0 x1) (v := iI (x1 / 2)) (wgt hP0 rfl) (by omega) (by omega) (by decide) dX3_init_103 (fun H1 locs1 hW => ?_)
        rw [wst hP0] at hW
        have hW : wi G (P0 ++ (.inr (3, [.ref (G.2.2 + (n0 + 1)), .ref (G.2.2 + (n0 + 2)), .ref (G.2.2 + (n0 + 3)), .ref (G.2.2 + (n0 + 4)), .ref (G.2.2 + (n0 + 5)), .ref (G.2.2 + (n0 + 6)), .ref (G.2.2 + (n0 + 7)), .ref (G.2.2 + (n0 + 14)), .int (iI 3), .int 0, .int 0, .int 0, .int 0, .int 0]) :: (cI G 20 (st (selG (fun _ => iI 0) (fun _ => iI 6) 0 x1) x1 (iI 6)) :: (cI G 20 (st (selG (fun _ => iI 0) (fun i => iI (i / 2)) 0 x1) x1 (iI (x1 / 2))) :: (cI G 20 (selG (fun _ => iI 0) (fun i => iI (i / 2)) 0 x1) :: (cI G 10 (fun _ => iI 0) :: (cI G 10 (fun _ => iI 0) :: (cI G 10 (fun _ => iI 0) :: (L_X4 G (n0 + 7) ++ (L_X1 G (n0 + 14) ++ [])))))))))) s _ _ := hW
        refine lv_aload_n hx hb dX3_init_104 rfl (lv_at hl 1 rfl) ?_
        refine i_get C0 hW 2 (k0 := n0 + 0) (fs := [.ref (G.2.2 + (n0 + 1)), .ref (G.2.2 + (n0 + 2)), .ref (G.2.2 + (n0 + 3)), .ref (G.2.2 + (n0 + 4)), .ref (G.2.2 + (n0 + 5)), .ref (G.2.2 + (n0 + 6)), .ref (G.2.2 + (n0 + 7)), .ref (G.2.2 + (n0 + 14)), .int (iI 3), .int 0, .int 0, .int 0, .int 0, .int 0]) (v := .ref (G.2.2 + (n0 + 3))) (wgt hP0 rfl) rfl hiX3 (by decide) kf_X3_18 rfl rfl rfl dX3_init_105 ?_
        refine lv_iload_n hx hb dX3_init_108 rfl (lv_at hl 0 rfl) ?_
        refine lv_iload_n hx hb dX3_init_109 rfl (lv_at hl 0 rfl) ?_
        refine r_iconst hx hb dX3_init_110 ?_
        refine r_idiv hx hb ⟨by omega, by omega⟩ ⟨by omega, by omega⟩ (by omega) (by omega) dX3_init_111 ?_
        refine i_ast C0 hW (k0 := n0 + 3) (n := 20) (A := selG (fun _ => iI 0) (fun i => iI (i / 2)) 0 x1) (v := iI (x1 / 2)) (wgt hP0 rfl) (by omega) (by omega) (by decide) dX3_init_112 (fun H1 locs1 hW => ?_)
        rw [wst hP0] at hW
        have hW : wi G (P0 ++ (.inr (3, [.ref (G.2.2 + (n0 + 1)), .ref (G.2.2 + (n0 + 2)), .ref (G.2.2 + (n0 + 3)), .ref (G.2.2 + (n0 + 4)), .ref (G.2.2 + (n0 + 5)), .ref (G.2.2 + (n0 + 6)), .ref (G.2.2 + (n0 + 7)), .ref (G.2.2 + (n0 + 14)), .int (iI 3), .int 0, .int 0, .int 0, .int 0, .int 0]) :: (cI G 20 (st (selG (fun _ => iI 0) (fun _ => iI 6) 0 x1) x1 (iI 6)) :: (cI G 20 (st (selG (fun _ => iI 0) (fun i => iI (i / 2)) 0 x1) x1 (iI (x1 / 2))) :: (cI G 20 (st (selG (fun _ => iI 0) (fun i => iI (i / 2)) 0 x1) x1 (iI (x1 / 2))) :: (cI G 10 (fun _ => iI 0) :: (cI G 10 (fun _ => iI 0) :: (cI G 10 (fun _ => iI 0) :: (L_X4 G (n0 + 7) ++ (L_X1 G (n0 + 14) ++ [])))))))))) s _ _ := hW
        refine r_iinc (lv' := [(1, .int (iI (x1 + 1))), (0, .ref (G.2.2 + (n0 + 0)))]) hx hb dX3_init_113 hl (k := 0) rfl (by decide) rfl (fun ls hl => ?_)
        refine lv_goto (tgt := 81) hx hb dX3_init_116 (by decide) ?_
        exact ih81 (x1 + 1) _ _ ls (by omega) (by omega) (by omega) (by rw [selG_s (fun _ => iI 0) (fun _ => iI 6) hx0, selG_s (fun _ => iI 0) (fun i => iI (i / 2)) hx0]; exact hW) (lv_sub hl [0, 1] rfl)
  exact hL81 21 0 _ _ ls (by omega) (by omega) (by omega) (by rw [selG_0 (fun _ => iI 0) (fun _ => iI 6) (lo := 0) (hi := 0) (by decide), selG_0 (fun _ => iI 0) (fun i => iI (i / 2)) (lo := 0) (hi := 0) (by decide)]; exact hW) (lv_sub hl [0, 1] rfl)

/-- X2_init: the cells that it lays -/
def L_X2 (G : gG) (n0 : Nat) : List va_E := (.inr (2, [.ref (G.2.2 + (n0 + 1)), .ref (G.2.2 + (n0 + 20)), .ref (G.2.2 + (n0 + 39)), .ref (G.2.2 + (n0 + 58)), .int 0]) :: (L_X3 G (n0 + 1) ++ (L_X3 G (n0 + 20) ++ (L_X3 G (n0 + 39) ++ (L_X3 G (n0 + 58) ++ [])))))
set_option maxHeartbeats 4000000 in
set_option maxRecDepth 100000 in
theorem c_X2_init (l : Launch) (G : gG) (P0 : List va_E) (n0 : Nat) (hP0 : P0.length = n0) : mN l G yX2_init (wU yX2_init cX2_init 1 none) (rmN 3 76 5268 61) [.ref (G.2.2 + (n0 + 0))] (P0 ++ [.inr (2, [.null, .null, .null, .null, .int 0])]) (P0 ++ L_X2 G n0) 76 5268 := by
  refine mN_of (by decide +kernel) (Nat.le_of_ble_eq_true rfl) rfl (fun p e s m args below meth c ls C0 hin2 hW hl => ?_)
  have hl : lv_has ls 1 [(0, .ref (G.2.2 + (n0 + 0)))] := hl
  have hx := C0.hx
  have hb := C0.hb
  refine lv_aload_n hx hb dX2_init_0 rfl (lv_at hl 0 rfl) ?_
  refine i_oi C0 km_X2_3 rfl hl.1 dX2_init_1 ⟨Nat.le_of_ble_eq_true rfl, Nat.le_of_ble_eq_true rfl⟩ ?_
  refine lv_aload_n hx hb dX2_init_4 rfl (lv_at hl 0 rfl) ?_
  refine i_obj C0 hW (ci := 3) rfl hiX3 tyX3 tyX3_ok kl_X2_9 kt_X3 kn_X3 rfl (fs := [.null, .null, .null, .null, .null, .null, .null, .null, .int 0, .int 0, .int 0, .int 0, .int 0, .int 0]) (fun j hj => by rcases (show j = 0 ∨ j = 1 ∨ j = 2 ∨ j = 3 ∨ j = 4 ∨ j = 5 ∨ j = 6 ∨ j = 7 ∨ j = 8 ∨ j = 9 ∨ j = 10 ∨ j = 11 ∨ j = 12 ∨ j = 13 by omega) with rfl | rfl | rfl | rfl | rfl | rfl | rfl | rfl | rfl | rfl | rfl | rfl | rfl | rfl <;> rfl) (Nat.le_of_ble_eq_true rfl) (Nat.le_of_ble_eq_true rfl) dX2_init_5 (fun H1 hW => ?_)
  rw [List.append_assoc] at hW
  have hW : wi G (P0 ++ (.inr (2, [.null, .null, .null, .null, .int 0]) :: (.inr (3, [.null, .null, .null, .null, .null, .null, .null, .null, .int 0, .int 0, .int 0, .int 0, .int 0, .int 0]) :: []))) s _ _ := hW
  rw [List.length_append, hP0]
  show W p l e _ s m args below meth c _ _ 1 14 _ (F0 m _ _ (.ref (G.2.2 + (n0 + 1)) :: _))
  refine lv_dup hx hb dX2_init_8 rfl ?_
  refine i_call C0 (L := (P0 ++ (.inr (2, [.null, .null, .null, .null, .int 0]) :: [])) ++ [.inr (3, [.null, .null, .null, .null, .null, .null, .null, .null, .int 0, .int 0, .int 0, .int 0, .int 0, .int 0])]) (by rw [List.append_assoc]; exact hW) (c_X3_init l G (P0 ++ (.inr (2, [.null, .null, .null, .null, .int 0]) :: [])) (n0 + 1) (by rw [List.length_append, hP0]; rfl)) km_X2_11 ki_X3_init kn_X3 kc_X3_init rfl rfl (by decide +kernel) ⟨Nat.le_of_ble_eq_true rfl, Nat.le_of_ble_eq_true rfl⟩ hl.1 (Nat.le_of_ble_eq_true rfl) dX2_init_9 ⟨Nat.le_of_ble_eq_true rfl, Nat.le_of_ble_eq_true rfl⟩ (fun H1 locs1 hW => ?_)
  rw [List.append_assoc] at hW
  have hW : wi G (P0 ++ (.inr (2, [.null, .null, .null, .null, .int 0]) :: (L_X3 G (n0 + 1) ++ []))) s _ _ := hW
  refine i_put C0 hW 0 (k0 := n0 + 0) (v := .ref (G.2.2 + (n0 + 1))) (fs := [.null, .null, .null, .null, .int 0]) (wgt hP0 rfl) rfl hiX2 tyX2 tyX2_ok nmX2 (by decide) kf_X2_12 rfl rfl  rfl (tyX2_ok 0 (by decide)) rfl rfl (Nat.le_of_ble_eq_true rfl) dX2_init_12 (fun H1 locs1 hW => ?_)
  rw [wst hP0] at hW
  have hW : wi G (P0 ++ (.inr (2, [.ref (G.2.2 + (n0 + 1)), .null, .null, .null, .int 0]) :: (L_X3 G (n0 + 1) ++ []))) s _ _ := hW
  refine lv_aload_n hx hb dX2_init_15 rfl (lv_at hl 0 rfl) ?_
  refine i_obj C0 hW (ci := 3) rfl hiX3 tyX3 tyX3_ok kl_X2_9 kt_X3 kn_X3 rfl (fs := [.null, .null, .null, .null, .null, .null, .null, .null, .int 0, .int 0, .int 0, .int 0, .int 0, .int 0]) (fun j hj => by rcases (show j = 0 ∨ j = 1 ∨ j = 2 ∨ j = 3 ∨ j = 4 ∨ j = 5 ∨ j = 6 ∨ j = 7 ∨ j = 8 ∨ j = 9 ∨ j = 10 ∨ j = 11 ∨ j = 12 ∨ j = 13 by omega) with rfl | rfl | rfl | rfl | rfl | rfl | rfl | rfl | rfl | rfl | rfl | rfl | rfl | rfl <;> rfl) (Nat.le_of_ble_eq_true rfl) (Nat.le_of_ble_eq_true rfl) dX2_init_16 (fun H1 hW => ?_)
  rw [List.append_assoc] at hW
  have hW : wi G (P0 ++ (.inr (2, [.ref (G.2.2 + (n0 + 1)), .null, .null, .null, .int 0]) :: (L_X3 G (n0 + 1) ++ (.inr (3, [.null, .null, .null, .null, .null, .null, .null, .null, .int 0, .int 0, .int 0, .int 0, .int 0, .int 0]) :: [])))) s _ _ := hW
  rw [List.length_append, hP0]
  show W p l e _ s m args below meth c _ _ 20 1331 _ (F0 m _ _ (.ref (G.2.2 + (n0 + 20)) :: _))
  refine lv_dup hx hb dX2_init_19 rfl ?_
  refine i_call C0 (L := (P0 ++ (.inr (2, [.ref (G.2.2 + (n0 + 1)), .null, .null, .null, .int 0]) :: (L_X3 G (n0 + 1) ++ []))) ++ [.inr (3, [.null, .null, .null, .null, .null, .null, .null, .null, .int 0, .int 0, .int 0, .int 0, .int 0, .int 0])]) (by rw [List.append_assoc]; exact hW) (c_X3_init l G (P0 ++ (.inr (2, [.ref (G.2.2 + (n0 + 1)), .null, .null, .null, .int 0]) :: (L_X3 G (n0 + 1) ++ []))) (n0 + 20) (by rw [List.length_append, hP0]; rfl)) km_X2_11 ki_X3_init kn_X3 kc_X3_init rfl rfl (by decide +kernel) ⟨Nat.le_of_ble_eq_true rfl, Nat.le_of_ble_eq_true rfl⟩ hl.1 (Nat.le_of_ble_eq_true rfl) dX2_init_20 ⟨Nat.le_of_ble_eq_true rfl, Nat.le_of_ble_eq_true rfl⟩ (fun H1 locs1 hW => ?_)
  rw [List.append_assoc] at hW
  have hW : wi G (P0 ++ (.inr (2, [.ref (G.2.2 + (n0 + 1)), .null, .null, .null, .int 0]) :: (L_X3 G (n0 + 1) ++ (L_X3 G (n0 + 20) ++ [])))) s _ _ := hW
  refine i_put C0 hW 1 (k0 := n0 + 0) (v := .ref (G.2.2 + (n0 + 20))) (fs := [.ref (G.2.2 + (n0 + 1)), .null, .null, .null, .int 0]) (wgt hP0 rfl) rfl hiX2 tyX2 tyX2_ok nmX2 (by decide) kf_X2_18 rfl rfl  rfl (tyX2_ok 1 (by decide)) rfl rfl (Nat.le_of_ble_eq_true rfl) dX2_init_23 (fun H1 locs1 hW => ?_)
  rw [wst hP0] at hW
  have hW : wi G (P0 ++ (.inr (2, [.ref (G.2.2 + (n0 + 1)), .ref (G.2.2 + (n0 + 20)), .null, .null, .int 0]) :: (L_X3 G (n0 + 1) ++ (L_X3 G (n0 + 20) ++ [])))) s _ _ := hW
  refine lv_aload_n hx hb dX2_init_26 rfl (lv_at hl 0 rfl) ?_
  refine i_obj C0 hW (ci := 3) rfl hiX3 tyX3 tyX3_ok kl_X2_9 kt_X3 kn_X3 rfl (fs := [.null, .null, .null, .null, .null, .null, .null, .null, .int 0, .int 0, .int 0, .int 0, .int 0, .int 0]) (fun j hj => by rcases (show j = 0 ∨ j = 1 ∨ j = 2 ∨ j = 3 ∨ j = 4 ∨ j = 5 ∨ j = 6 ∨ j = 7 ∨ j = 8 ∨ j = 9 ∨ j = 10 ∨ j = 11 ∨ j = 12 ∨ j = 13 by omega) with rfl | rfl | rfl | rfl | rfl | rfl | rfl | rfl | rfl | rfl | rfl | rfl | rfl | rfl <;> rfl) (Nat.le_of_ble_eq_true rfl) (Nat.le_of_ble_eq_true rfl) dX2_init_27 (fun H1 hW => ?_)
  rw [List.append_assoc] at hW
  have hW : wi G (P0 ++ (.inr (2, [.ref (G.2.2 + (n0 + 1)), .ref (G.2.2 + (n0 + 20)), .null, .null, .int 0]) :: (L_X3 G (n0 + 1) ++ (L_X3 G (n0 + 20) ++ (.inr (3, [.null, .null, .null, .null, .null, .null, .null, .null, .int 0, .int 0, .int 0, .int 0, .int 0, .int 0]) :: []))))) s _ _ := hW
  rw [List.length_append, hP0]
  show W p l e _ s m args below meth c _ _ 39 2648 _ (F0 m _ _ (.ref (G.2.2 + (n0 + 39)) :: _))
  refine lv_dup hx hb dX2_init_30 rfl ?_
  refine i_call C0 (L := (P0 ++ (.inr (2, [.ref (G.2.2 + (n0 + 1)), .ref (G.2.2 + (n0 + 20)), .null, .null, .int 0]) :: (L_X3 G (n0 + 1) ++ (L_X3 G (n0 + 20) ++ [])))) ++ [.inr (3, [.null, .null, .null, .null, .null, .null, .null, .null, .int 0, .int 0, .int 0, .int 0, .int 0, .int 0])]) (by rw [List.append_assoc]; exact hW) (c_X3_init l G (P0 ++ (.inr (2, [.ref (G.2.2 + (n0 + 1)), .ref (G.2.2 + (n0 + 20)), .null, .null, .int 0]) :: (L_X3 G (n0 + 1) ++ (L_X3 G (n0 + 20) ++ [])))) (n0 + 39) (by rw [List.length_append, hP0]; rfl)) km_X2_11 ki_X3_init kn_X3 kc_X3_init rfl rfl (by decide +kernel) ⟨Nat.le_of_ble_eq_true rfl, Nat.le_of_ble_eq_true rfl⟩ hl.1 (Nat.le_of_ble_eq_true rfl) dX2_init_31 ⟨Nat.le_of_ble_eq_true rfl, Nat.le_of_ble_eq_true rfl⟩ (fun H1 locs1 hW => ?_)
  rw [List.append_assoc] at hW
  have hW : wi G (P0 ++ (.inr (2, [.ref (G.2.2 + (n0 + 1)), .ref (G.2.2 + (n0 + 20)), .null, .null, .int 0]) :: (L_X3 G (n0 + 1) ++ (L_X3 G (n0 + 20) ++ (L_X3 G (n0 + 39) ++ []))))) s _ _ := hW
  refine i_put C0 hW 2 (k0 := n0 + 0) (v := .ref (G.2.2 + (n0 + 39))) (fs := [.ref (G.2.2 + (n0 + 1)), .ref (G.2.2 + (n0 + 20)), .null, .null, .int 0]) (wgt hP0 rfl) rfl hiX2 tyX2 tyX2_ok nmX2 (by decide) kf_X2_21 rfl rfl  rfl (tyX2_ok 2 (by decide)) rfl rfl (Nat.le_of_ble_eq_true rfl) dX2_init_34 (fun H1 locs1 hW => ?_)
  rw [wst hP0] at hW
  have hW : wi G (P0 ++ (.inr (2, [.ref (G.2.2 + (n0 + 1)), .ref (G.2.2 + (n0 + 20)), .ref (G.2.2 + (n0 + 39)), .null, .int 0]) :: (L_X3 G (n0 + 1) ++ (L_X3 G (n0 + 20) ++ (L_X3 G (n0 + 39) ++ []))))) s _ _ := hW
  refine lv_aload_n hx hb dX2_init_37 rfl (lv_at hl 0 rfl) ?_
  refine i_obj C0 hW (ci := 3) rfl hiX3 tyX3 tyX3_ok kl_X2_9 kt_X3 kn_X3 rfl (fs := [.null, .null, .null, .null, .null, .null, .null, .null, .int 0, .int 0, .int 0, .int 0, .int 0, .int 0]) (fun j hj => by rcases (show j = 0 ∨ j = 1 ∨ j = 2 ∨ j = 3 ∨ j = 4 ∨ j = 5 ∨ j = 6 ∨ j = 7 ∨ j = 8 ∨ j = 9 ∨ j = 10 ∨ j = 11 ∨ j = 12 ∨ j = 13 by omega) with rfl | rfl | rfl | rfl | rfl | rfl | rfl | rfl | rfl | rfl | rfl | rfl | rfl | rfl <;> rfl) (Nat.le_of_ble_eq_true rfl) (Nat.le_of_ble_eq_true rfl) dX2_init_38 (fun H1 hW => ?_)
  rw [List.append_assoc] at hW
  have hW : wi G (P0 ++ (.inr (2, [.ref (G.2.2 + (n0 + 1)), .ref (G.2.2 + (n0 + 20)), .ref (G.2.2 + (n0 + 39)), .null, .int 0]) :: (L_X3 G (n0 + 1) ++ (L_X3 G (n0 + 20) ++ (L_X3 G (n0 + 39) ++ (.inr (3, [.null, .null, .null, .null, .null, .null, .null, .null, .int 0, .int 0, .int 0, .int 0, .int 0, .int 0]) :: [])))))) s _ _ := hW
  rw [List.length_append, hP0]
  show W p l e _ s m args below meth c _ _ 58 3965 _ (F0 m _ _ (.ref (G.2.2 + (n0 + 58)) :: _))
  refine lv_dup hx hb dX2_init_41 rfl ?_
  refine i_call C0 (L := (P0 ++ (.inr (2, [.ref (G.2.2 + (n0 + 1)), .ref (G.2.2 + (n0 + 20)), .ref (G.2.2 + (n0 + 39)), .null, .int 0]) :: (L_X3 G (n0 + 1) ++ (L_X3 G (n0 + 20) ++ (L_X3 G (n0 + 39) ++ []))))) ++ [.inr (3, [.null, .null, .null, .null, .null, .null, .null, .null, .int 0, .int 0, .int 0, .int 0, .int 0, .int 0])]) (by rw [List.append_assoc]; exact hW) (c_X3_init l G (P0 ++ (.inr (2, [.ref (G.2.2 + (n0 + 1)), .ref (G.2.2 + (n0 + 20)), .ref (G.2.2 + (n0 + 39)), .null, .int 0]) :: (L_X3 G (n0 + 1) ++ (L_X3 G (n0 + 20) ++ (L_X3 G (n0 + 39) ++ []))))) (n0 + 58) (by rw [List.length_append, hP0]; rfl)) km_X2_11 ki_X3_init kn_X3 kc_X3_init rfl rfl (by decide +kernel) ⟨Nat.le_of_ble_eq_true rfl, Nat.le_of_ble_eq_true rfl⟩ hl.1 (Nat.le_of_ble_eq_true rfl) dX2_init_42 ⟨Nat.le_of_ble_eq_true rfl, Nat.le_of_ble_eq_true rfl⟩ (fun H1 locs1 hW => ?_)
  rw [List.append_assoc] at hW
  have hW : wi G (P0 ++ (.inr (2, [.ref (G.2.2 + (n0 + 1)), .ref (G.2.2 + (n0 + 20)), .ref (G.2.2 + (n0 + 39)), .null, .int 0]) :: (L_X3 G (n0 + 1) ++ (L_X3 G (n0 + 20) ++ (L_X3 G (n0 + 39) ++ (L_X3 G (n0 + 58) ++ [])))))) s _ _ := hW
  refine i_put C0 hW 3 (k0 := n0 + 0) (v := .ref (G.2.2 + (n0 + 58))) (fs := [.ref (G.2.2 + (n0 + 1)), .ref (G.2.2 + (n0 + 20)), .ref (G.2.2 + (n0 + 39)), .null, .int 0]) (wgt hP0 rfl) rfl hiX2 tyX2 tyX2_ok nmX2 (by decide) kf_X2_24 rfl rfl  rfl (tyX2_ok 3 (by decide)) rfl rfl (Nat.le_of_ble_eq_true rfl) dX2_init_45 (fun H1 locs1 hW => ?_)
  rw [wst hP0] at hW
  have hW : wi G (P0 ++ (.inr (2, [.ref (G.2.2 + (n0 + 1)), .ref (G.2.2 + (n0 + 20)), .ref (G.2.2 + (n0 + 39)), .ref (G.2.2 + (n0 + 58)), .int 0]) :: (L_X3 G (n0 + 1) ++ (L_X3 G (n0 + 20) ++ (L_X3 G (n0 + 39) ++ (L_X3 G (n0 + 58) ++ [])))))) s _ _ := hW
  exact i_ret C0 hW (rfl) (Nat.le_of_ble_eq_true rfl) (Nat.le_of_ble_eq_true rfl) dX2_init_48

/-- X5_init: the cells that it lays -/
def L_X5 (G : gG) (n0 : Nat) : List va_E := (.inr (5, [.ref (G.2.2 + (n0 + 1)), .ref (G.2.2 + (n0 + 20)), .ref (G.2.2 + (n0 + 39)), .ref (G.2.2 + (n0 + 58)), .ref (G.2.2 + (n0 + 135)), .int (iI 0)]) :: (L_X3 G (n0 + 1) ++ (L_X3 G (n0 + 20) ++ (L_X3 G (n0 + 39) ++ (L_X2 G (n0 + 58) ++ (L_X0 G (n0 + 135) ++ []))))))
set_option maxHeartbeats 4000000 in
set_option maxRecDepth 100000 in
theorem c_X5_init (l : Launch) (G : gG) (P0 : List va_E) (n0 : Nat) (hP0 : P0.length = n0) : mN l G yX5_init (wU yX5_init cX5_init 1 none) (rmN 4 138 9409 81) [.ref (G.2.2 + (n0 + 0))] (P0 ++ [.inr (5, [.null, .null, .null, .null, .null, .int 0])]) (P0 ++ L_X5 G n0) 138 9409 := by
  refine mN_of (by decide +kernel) (Nat.le_of_ble_eq_true rfl) rfl (fun p e s m args below meth c ls C0 hin2 hW hl => ?_)
  have hl : lv_has ls 1 [(0, .ref (G.2.2 + (n0 + 0)))] := hl
  have hx := C0.hx
  have hb := C0.hb
  refine lv_aload_n hx hb dX5_init_0 rfl (lv_at hl 0 rfl) ?_
  refine i_oi C0 km_X5_3 rfl hl.1 dX5_init_1 ⟨Nat.le_of_ble_eq_true rfl, Nat.le_of_ble_eq_true rfl⟩ ?_
  refine lv_aload_n hx hb dX5_init_4 rfl (lv_at hl 0 rfl) ?_
  refine i_obj C0 hW (ci := 3) rfl hiX3 tyX3 tyX3_ok kl_X5_9 kt_X3 kn_X3 rfl (fs := [.null, .null, .null, .null, .null, .null, .null, .null, .int 0, .int 0, .int 0, .int 0, .int 0, .int 0]) (fun j hj => by rcases (show j = 0 ∨ j = 1 ∨ j = 2 ∨ j = 3 ∨ j = 4 ∨ j = 5 ∨ j = 6 ∨ j = 7 ∨ j = 8 ∨ j = 9 ∨ j = 10 ∨ j = 11 ∨ j = 12 ∨ j = 13 by omega) with rfl | rfl | rfl | rfl | rfl | rfl | rfl | rfl | rfl | rfl | rfl | rfl | rfl | rfl <;> rfl) (Nat.le_of_ble_eq_true rfl) (Nat.le_of_ble_eq_true rfl) dX5_init_5 (fun H1 hW => ?_)
  rw [List.append_assoc] at hW
  have hW : wi G (P0 ++ (.inr (5, [.null, .null, .null, .null, .null, .int 0]) :: (.inr (3, [.null, .null, .null, .null, .null, .null, .null, .null, .int 0, .int 0, .int 0, .int 0, .int 0, .int 0]) :: []))) s _ _ := hW
  rw [List.length_append, hP0]
  show W p l e _ s m args below meth c _ _ 1 14 _ (F0 m _ _ (.ref (G.2.2 + (n0 + 1)) :: _))
  refine lv_dup hx hb dX5_init_8 rfl ?_
  refine i_call C0 (L := (P0 ++ (.inr (5, [.null, .null, .null, .null, .null, .int 0]) :: [])) ++ [.inr (3, [.null, .null, .null, .null, .null, .null, .null, .null, .int 0, .int 0, .int 0, .int 0, .int 0, .int 0])]) (by rw [List.append_assoc]; exact hW) (c_X3_init l G (P0 ++ (.inr (5, [.null, .null, .null, .null, .null, .int 0]) :: [])) (n0 + 1) (by rw [List.length_append, hP0]; rfl)) km_X5_11 ki_X3_init kn_X3 kc_X3_init rfl rfl (by decide +kernel) ⟨Nat.le_of_ble_eq_true rfl, Nat.le_of_ble_eq_true rfl⟩ hl.1 (Nat.le_of_ble_eq_true rfl) dX5_init_9 ⟨Nat.le_of_ble_eq_true rfl, Nat.le_of_ble_eq_true rfl⟩ (fun H1 locs1 hW => ?_)
  rw [List.append_assoc] at hW
  have hW : wi G (P0 ++ (.inr (5, [.null, .null, .null, .null, .null, .int 0]) :: (L_X3 G (n0 + 1) ++ []))) s _ _ := hW
  refine i_pF C0 hin2 hW 0 (k0 := n0 + 0) (v := .ref (G.2.2 + (n0 + 1))) (fs := [.null, .null, .null, .null, .null, .int 0]) (wgt hP0 rfl) rfl hiX5 tyX5 tyX5_ok nmX5 (by decide) kf_X5_12 rfl rfl rfl rfl (tyX5_ok 0 (by decide)) rfl rfl (Nat.le_of_ble_eq_true rfl) dX5_init_12 (fun H1 locs1 hW => ?_)
  rw [wst hP0] at hW
  have hW : wi G (P0 ++ (.inr (5, [.ref (G.2.2 + (n0 + 1)), .null, .null, .null, .null, .int 0]) :: (L_X3 G (n0 + 1) ++ []))) s _ _ := hW
  refine lv_aload_n hx hb dX5_init_15 rfl (lv_at hl 0 rfl) ?_
  refine i_obj C0 hW (ci := 3) rfl hiX3 tyX3 tyX3_ok kl_X5_9 kt_X3 kn_X3 rfl (fs := [.null, .null, .null, .null, .null, .null, .null, .null, .int 0, .int 0, .int 0, .int 0, .int 0, .int 0]) (fun j hj => by rcases (show j = 0 ∨ j = 1 ∨ j = 2 ∨ j = 3 ∨ j = 4 ∨ j = 5 ∨ j = 6 ∨ j = 7 ∨ j = 8 ∨ j = 9 ∨ j = 10 ∨ j = 11 ∨ j = 12 ∨ j = 13 by omega) with rfl | rfl | rfl | rfl | rfl | rfl | rfl | rfl | rfl | rfl | rfl | rfl | rfl | rfl <;> rfl) (Nat.le_of_ble_eq_true rfl) (Nat.le_of_ble_eq_true rfl) dX5_init_16 (fun H1 hW => ?_)
  rw [List.append_assoc] at hW
  have hW : wi G (P0 ++ (.inr (5, [.ref (G.2.2 + (n0 + 1)), .null, .null, .null, .null, .int 0]) :: (L_X3 G (n0 + 1) ++ (.inr (3, [.null, .null, .null, .null, .null, .null, .null, .null, .int 0, .int 0, .int 0, .int 0, .int 0, .int 0]) :: [])))) s _ _ := hW
  rw [List.length_append, hP0]
  show W p l e _ s m args below meth c _ _ 20 1331 _ (F0 m _ _ (.ref (G.2.2 + (n0 + 20)) :: _))
  refine lv_dup hx hb dX5_init_19 rfl ?_
  refine i_call C0 (L := (P0 ++ (.inr (5, [.ref (G.2.2 + (n0 + 1)), .null, .null, .null, .null, .int 0]) :: (L_X3 G (n0 + 1) ++ []))) ++ [.inr (3, [.null, .null, .null, .null, .null, .null, .null, .null, .int 0, .int 0, .int 0, .int 0, .int 0, .int 0])]) (by rw [List.append_assoc]; exact hW) (c_X3_init l G (P0 ++ (.inr (5, [.ref (G.2.2 + (n0 + 1)), .null, .null, .null, .null, .int 0]) :: (L_X3 G (n0 + 1) ++ []))) (n0 + 20) (by rw [List.length_append, hP0]; rfl)) km_X5_11 ki_X3_init kn_X3 kc_X3_init rfl rfl (by decide +kernel) ⟨Nat.le_of_ble_eq_true rfl, Nat.le_of_ble_eq_true rfl⟩ hl.1 (Nat.le_of_ble_eq_true rfl) dX5_init_20 ⟨Nat.le_of_ble_eq_true rfl, Nat.le_of_ble_eq_true rfl⟩ (fun H1 locs1 hW => ?_)
  rw [List.append_assoc] at hW
  have hW : wi G (P0 ++ (.inr (5, [.ref (G.2.2 + (n0 + 1)), .null, .null, .null, .null, .int 0]) :: (L_X3 G (n0 + 1) ++ (L_X3 G (n0 + 20) ++ [])))) s _ _ := hW
  refine i_pF C0 hin2 hW 1 (k0 := n0 + 0) (v := .ref (G.2.2 + (n0 + 20))) (fs := [.ref (G.2.2 + (n0 + 1)), .null, .null, .null, .null, .int 0]) (wgt hP0 rfl) rfl hiX5 tyX5 tyX5_ok nmX5 (by decide) kf_X5_16 rfl rfl rfl rfl (tyX5_ok 1 (by decide)) rfl rfl (Nat.le_of_ble_eq_true rfl) dX5_init_23 (fun H1 locs1 hW => ?_)
  rw [wst hP0] at hW
  have hW : wi G (P0 ++ (.inr (5, [.ref (G.2.2 + (n0 + 1)), .ref (G.2.2 + (n0 + 20)), .null, .null, .null, .int 0]) :: (L_X3 G (n0 + 1) ++ (L_X3 G (n0 + 20) ++ [])))) s _ _ := hW
  refine lv_aload_n hx hb dX5_init_26 rfl (lv_at hl 0 rfl) ?_
  refine i_obj C0 hW (ci := 3) rfl hiX3 tyX3 tyX3_ok kl_X5_9 kt_X3 kn_X3 rfl (fs := [.null, .null, .null, .null, .null, .null, .null, .null, .int 0, .int 0, .int 0, .int 0, .int 0, .int 0]) (fun j hj => by rcases (show j = 0 ∨ j = 1 ∨ j = 2 ∨ j = 3 ∨ j = 4 ∨ j = 5 ∨ j = 6 ∨ j = 7 ∨ j = 8 ∨ j = 9 ∨ j = 10 ∨ j = 11 ∨ j = 12 ∨ j = 13 by omega) with rfl | rfl | rfl | rfl | rfl | rfl | rfl | rfl | rfl | rfl | rfl | rfl | rfl | rfl <;> rfl) (Nat.le_of_ble_eq_true rfl) (Nat.le_of_ble_eq_true rfl) dX5_init_27 (fun H1 hW => ?_)
  rw [List.append_assoc] at hW
  have hW : wi G (P0 ++ (.inr (5, [.ref (G.2.2 + (n0 + 1)), .ref (G.2.2 + (n0 + 20)), .null, .null, .null, .int 0]) :: (L_X3 G (n0 + 1) ++ (L_X3 G (n0 + 20) ++ (.inr (3, [.null, .null, .null, .null, .null, .null, .null, .null, .int 0, .int 0, .int 0, .int 0, .int 0, .int 0]) :: []))))) s _ _ := hW
  rw [List.length_append, hP0]
  show W p l e _ s m args below meth c _ _ 39 2648 _ (F0 m _ _ (.ref (G.2.2 + (n0 + 39)) :: _))
  refine lv_dup hx hb dX5_init_30 rfl ?_
  refine i_call C0 (L := (P0 ++ (.inr (5, [.ref (G.2.2 + (n0 + 1)), .ref (G.2.2 + (n0 + 20)), .null, .null, .null, .int 0]) :: (L_X3 G (n0 + 1) ++ (L_X3 G (n0 + 20) ++ [])))) ++ [.inr (3, [.null, .null, .null, .null, .null, .null, .null, .null, .int 0, .int 0, .int 0, .int 0, .int 0, .int 0])]) (by rw [List.append_assoc]; exact hW) (c_X3_init l G (P0 ++ (.inr (5, [.ref (G.2.2 + (n0 + 1)), .ref (G.2.2 + (n0 + 20)), .null, .null, .null, .int 0]) :: (L_X3 G (n0 + 1) ++ (L_X3 G (n0 + 20) ++ [])))) (n0 + 39) (by rw [List.length_append, hP0]; rfl)) km_X5_11 ki_X3_init kn_X3 kc_X3_init rfl rfl (by decide +kernel) ⟨Nat.le_of_ble_eq_true rfl, Nat.le_of_ble_eq_true rfl⟩ hl.1 (Nat.le_of_ble_eq_true rfl) dX5_init_31 ⟨Nat.le_of_ble_eq_true rfl, Nat.le_of_ble_eq_true rfl⟩ (fun H1 locs1 hW => ?_)
  rw [List.append_assoc] at hW
  have hW : wi G (P0 ++ (.inr (5, [.ref (G.2.2 + (n0 + 1)), .ref (G.2.2 + (n0 + 20)), .null, .null, .null, .int 0]) :: (L_X3 G (n0 + 1) ++ (L_X3 G (n0 + 20) ++ (L_X3 G (n0 + 39) ++ []))))) s _ _ := hW
  refine i_pF C0 hin2 hW 2 (k0 := n0 + 0) (v := .ref (G.2.2 + (n0 + 39))) (fs := [.ref (G.2.2 + (n0 + 1)), .ref (G.2.2 + (n0 + 20)), .null, .null, .null, .int 0]) (wgt hP0 rfl) rfl hiX5 tyX5 tyX5_ok nmX5 (by decide) kf_X5_19 rfl rfl rfl rfl (tyX5_ok 2 (by decide)) rfl rfl (Nat.le_of_ble_eq_true rfl) dX5_init_34 (fun H1 locs1 hW => ?_)
  rw [wst hP0] at hW
  have hW : wi G (P0 ++ (.inr (5, [.ref (G.2.2 + (n0 + 1)), .ref (G.2.2 + (n0 + 20)), .ref (G.2.2 + (n0 + 39)), .null, .null, .int 0]) :: (L_X3 G (n0 + 1) ++ (L_X3 G (n0 + 20) ++ (L_X3 G (n0 + 39) ++ []))))) s _ _ := hW
  refine lv_aload_n hx hb dX5_init_37 rfl (lv_at hl 0 rfl) ?_
  refine i_obj C0 hW (ci := 2) rfl hiX2 tyX2 tyX2_ok kl_X5_22 kt_X2 kn_X2 rfl (fs := [.null, .null, .null, .null, .int 0]) (fun j hj => by rcases (show j = 0 ∨ j = 1 ∨ j = 2 ∨ j = 3 ∨ j = 4 by omega) with rfl | rfl | rfl | rfl | rfl <;> rfl) (Nat.le_of_ble_eq_true rfl) (Nat.le_of_ble_eq_true rfl) dX5_init_38 (fun H1 hW => ?_)
  rw [List.append_assoc] at hW
  have hW : wi G (P0 ++ (.inr (5, [.ref (G.2.2 + (n0 + 1)), .ref (G.2.2 + (n0 + 20)), .ref (G.2.2 + (n0 + 39)), .null, .null, .int 0]) :: (L_X3 G (n0 + 1) ++ (L_X3 G (n0 + 20) ++ (L_X3 G (n0 + 39) ++ (.inr (2, [.null, .null, .null, .null, .int 0]) :: [])))))) s _ _ := hW
  rw [List.length_append, hP0]
  show W p l e _ s m args below meth c _ _ 58 3956 _ (F0 m _ _ (.ref (G.2.2 + (n0 + 58)) :: _))
  refine lv_dup hx hb dX5_init_41 rfl ?_
  refine i_call C0 (L := (P0 ++ (.inr (5, [.ref (G.2.2 + (n0 + 1)), .ref (G.2.2 + (n0 + 20)), .ref (G.2.2 + (n0 + 39)), .null, .null, .int 0]) :: (L_X3 G (n0 + 1) ++ (L_X3 G (n0 + 20) ++ (L_X3 G (n0 + 39) ++ []))))) ++ [.inr (2, [.null, .null, .null, .null, .int 0])]) (by rw [List.append_assoc]; exact hW) (c_X2_init l G (P0 ++ (.inr (5, [.ref (G.2.2 + (n0 + 1)), .ref (G.2.2 + (n0 + 20)), .ref (G.2.2 + (n0 + 39)), .null, .null, .int 0]) :: (L_X3 G (n0 + 1) ++ (L_X3 G (n0 + 20) ++ (L_X3 G (n0 + 39) ++ []))))) (n0 + 58) (by rw [List.length_append, hP0]; rfl)) km_X5_24 ki_X2_init kn_X2 kc_X2_init rfl rfl (by decide +kernel) ⟨Nat.le_of_ble_eq_true rfl, Nat.le_of_ble_eq_true rfl⟩ hl.1 (Nat.le_of_ble_eq_true rfl) dX5_init_42 ⟨Nat.le_of_ble_eq_true rfl, Nat.le_of_ble_eq_true rfl⟩ (fun H1 locs1 hW => ?_)
  rw [List.append_assoc] at hW
  have hW : wi G (P0 ++ (.inr (5, [.ref (G.2.2 + (n0 + 1)), .ref (G.2.2 + (n0 + 20)), .ref (G.2.2 + (n0 + 39)), .null, .null, .int 0]) :: (L_X3 G (n0 + 1) ++ (L_X3 G (n0 + 20) ++ (L_X3 G (n0 + 39) ++ (L_X2 G (n0 + 58) ++ [])))))) s _ _ := hW
  refine i_pF C0 hin2 hW 3 (k0 := n0 + 0) (v := .ref (G.2.2 + (n0 + 58))) (fs := [.ref (G.2.2 + (n0 + 1)), .ref (G.2.2 + (n0 + 20)), .ref (G.2.2 + (n0 + 39)), .null, .null, .int 0]) (wgt hP0 rfl) rfl hiX5 tyX5 tyX5_ok nmX5 (by decide) kf_X5_25 rfl rfl rfl rfl (tyX5_ok 3 (by decide)) rfl rfl (Nat.le_of_ble_eq_true rfl) dX5_init_45 (fun H1 locs1 hW => ?_)
  rw [wst hP0] at hW
  have hW : wi G (P0 ++ (.inr (5, [.ref (G.2.2 + (n0 + 1)), .ref (G.2.2 + (n0 + 20)), .ref (G.2.2 + (n0 + 39)), .ref (G.2.2 + (n0 + 58)), .null, .int 0]) :: (L_X3 G (n0 + 1) ++ (L_X3 G (n0 + 20) ++ (L_X3 G (n0 + 39) ++ (L_X2 G (n0 + 58) ++ [])))))) s _ _ := hW
  refine lv_aload_n hx hb dX5_init_48 rfl (lv_at hl 0 rfl) ?_
  refine i_obj C0 hW (ci := 0) rfl hiX0 tyX0 tyX0_ok kl_X5_29 kt_X0 kn_X0 rfl (fs := [.null, .int 0, .null, .null, .int 0]) (fun j hj => by rcases (show j = 0 ∨ j = 1 ∨ j = 2 ∨ j = 3 ∨ j = 4 by omega) with rfl | rfl | rfl | rfl | rfl <;> rfl) (Nat.le_of_ble_eq_true rfl) (Nat.le_of_ble_eq_true rfl) dX5_init_49 (fun H1 hW => ?_)
  rw [List.append_assoc] at hW
  have hW : wi G (P0 ++ (.inr (5, [.ref (G.2.2 + (n0 + 1)), .ref (G.2.2 + (n0 + 20)), .ref (G.2.2 + (n0 + 39)), .ref (G.2.2 + (n0 + 58)), .null, .int 0]) :: (L_X3 G (n0 + 1) ++ (L_X3 G (n0 + 20) ++ (L_X3 G (n0 + 39) ++ (L_X2 G (n0 + 58) ++ (.inr (0, [.null, .int 0, .null, .null, .int 0]) :: []))))))) s _ _ := hW
  rw [List.length_append, hP0]
  show W p l e _ s m args below meth c _ _ 135 9229 _ (F0 m _ _ (.ref (G.2.2 + (n0 + 135)) :: _))
  refine lv_dup hx hb dX5_init_52 rfl ?_
  refine i_call C0 (L := (P0 ++ (.inr (5, [.ref (G.2.2 + (n0 + 1)), .ref (G.2.2 + (n0 + 20)), .ref (G.2.2 + (n0 + 39)), .ref (G.2.2 + (n0 + 58)), .null, .int 0]) :: (L_X3 G (n0 + 1) ++ (L_X3 G (n0 + 20) ++ (L_X3 G (n0 + 39) ++ (L_X2 G (n0 + 58) ++ [])))))) ++ [.inr (0, [.null, .int 0, .null, .null, .int 0])]) (by rw [List.append_assoc]; exact hW) (c_X0_init l G (P0 ++ (.inr (5, [.ref (G.2.2 + (n0 + 1)), .ref (G.2.2 + (n0 + 20)), .ref (G.2.2 + (n0 + 39)), .ref (G.2.2 + (n0 + 58)), .null, .int 0]) :: (L_X3 G (n0 + 1) ++ (L_X3 G (n0 + 20) ++ (L_X3 G (n0 + 39) ++ (L_X2 G (n0 + 58) ++ [])))))) (n0 + 135) (by rw [List.length_append, hP0]; rfl)) km_X5_31 ki_X0_init kn_X0 kc_X0_init rfl rfl (by decide +kernel) ⟨Nat.le_of_ble_eq_true rfl, Nat.le_of_ble_eq_true rfl⟩ hl.1 (Nat.le_of_ble_eq_true rfl) dX5_init_53 ⟨Nat.le_of_ble_eq_true rfl, Nat.le_of_ble_eq_true rfl⟩ (fun H1 locs1 hW => ?_)
  rw [List.append_assoc] at hW
  have hW : wi G (P0 ++ (.inr (5, [.ref (G.2.2 + (n0 + 1)), .ref (G.2.2 + (n0 + 20)), .ref (G.2.2 + (n0 + 39)), .ref (G.2.2 + (n0 + 58)), .null, .int 0]) :: (L_X3 G (n0 + 1) ++ (L_X3 G (n0 + 20) ++ (L_X3 G (n0 + 39) ++ (L_X2 G (n0 + 58) ++ (L_X0 G (n0 + 135) ++ []))))))) s _ _ := hW
  refine i_pF C0 hin2 hW 4 (k0 := n0 + 0) (v := .ref (G.2.2 + (n0 + 135))) (fs := [.ref (G.2.2 + (n0 + 1)), .ref (G.2.2 + (n0 + 20)), .ref (G.2.2 + (n0 + 39)), .ref (G.2.2 + (n0 + 58)), .null, .int 0]) (wgt hP0 rfl) rfl hiX5 tyX5 tyX5_ok nmX5 (by decide) kf_X5_32 rfl rfl rfl rfl (tyX5_ok 4 (by decide)) rfl rfl (Nat.le_of_ble_eq_true rfl) dX5_init_56 (fun H1 locs1 hW => ?_)
  rw [wst hP0] at hW
  have hW : wi G (P0 ++ (.inr (5, [.ref (G.2.2 + (n0 + 1)), .ref (G.2.2 + (n0 + 20)), .ref (G.2.2 + (n0 + 39)), .ref (G.2.2 + (n0 + 58)), .ref (G.2.2 + (n0 + 135)), .int 0]) :: (L_X3 G (n0 + 1) ++ (L_X3 G (n0 + 20) ++ (L_X3 G (n0 + 39) ++ (L_X2 G (n0 + 58) ++ (L_X0 G (n0 + 135) ++ []))))))) s _ _ := hW
  refine lv_aload_n hx hb dX5_init_59 rfl (lv_at hl 0 rfl) ?_
  refine r_iconst hx hb dX5_init_60 ?_
  refine i_put C0 hW 5 (k0 := n0 + 0) (v := .int (iI 0)) (fs := [.ref (G.2.2 + (n0 + 1)), .ref (G.2.2 + (n0 + 20)), .ref (G.2.2 + (n0 + 39)), .ref (G.2.2 + (n0 + 58)), .ref (G.2.2 + (n0 + 135)), .int 0]) (wgt hP0 rfl) rfl hiX5 tyX5 tyX5_ok nmX5 (by decide) kf_X5_36 rfl rfl  rfl (tyX5_ok 5 (by decide)) rfl rfl (Nat.le_of_ble_eq_true rfl) dX5_init_61 (fun H1 locs1 hW => ?_)
  rw [wst hP0] at hW
  have hW : wi G (P0 ++ (.inr (5, [.ref (G.2.2 + (n0 + 1)), .ref (G.2.2 + (n0 + 20)), .ref (G.2.2 + (n0 + 39)), .ref (G.2.2 + (n0 + 58)), .ref (G.2.2 + (n0 + 135)), .int (iI 0)]) :: (L_X3 G (n0 + 1) ++ (L_X3 G (n0 + 20) ++ (L_X3 G (n0 + 39) ++ (L_X2 G (n0 + 58) ++ (L_X0 G (n0 + 135) ++ []))))))) s _ _ := hW
  exact i_ret C0 hW (rfl) (Nat.le_of_ble_eq_true rfl) (Nat.le_of_ble_eq_true rfl) dX5_init_64
