set_option maxHeartbeats 4000000 in
set_option maxRecDepth 100000 in
theorem c141_X12_end (l : Launch) (D : va_G) (ty : Nat → ClassId) (sz : Nat) (h0 : Nat) (p0 : Int32) (v0 : Value) (v1 : Value) (v2 : Value) (v3 : Value) (v4 : Value) (v5 : Value) (v6 : Value) (v7 : Value) (v8 : Value) (v9 : Value) (v10 : Value) (v11 : Value) (v12 : Value) (v13 : Value) (v14 : Value) (v15 : Value) (v16 : Value) (v17 : Value) (v18 : Value) (v19 : Value) (v20 : Value) (v21 : Value) (v22 : Value) (v23 : Value) (v24 : Value) (v25 : Value) (v26 : Value) (v27 : Value) (v28 : Value) (v29 : Value) (v30 : Value) (v31 : Value) (v32 : Value) (v33 : Value) (v34 : Value) (v35 : Value) (v36 : Value) : cQ l yX12_end cX12_end 2 (some .int) 1 25 [.ref h0, .int p0] D ty [(h0, .inr (12, [v0, v1, v2, v3, v4, .int 0, v5, v6, v7, v8, v9, v10, v11, v12, v13, v14, v15, v16, v17, v18, v19, v20, v21, v22, v23, v24, v25, v26, v27, v28, v29, v30, v31, v32, v33, v34, v35, v36]))] sz (qI (fun (r : Int32) (u : va_W) => ((((0 ≤ (Int32.toInt64 p0)) ∧ ((Int32.toInt64 p0) ≤ 0))) ∧ p0 = r ∧ [] = u) ∨ ((((¬ (0 ≤ (Int32.toInt64 p0))) ∨ (¬ ((Int32.toInt64 p0) ≤ 0)))) ∧ (-1) = r ∧ [] = u))) 0 0 := by
  refine cQ.of (by decide) (Nat.le_of_ble_eq_true rfl) (fun p e s m below meth c A ls C hsz hP hK hD hA hl => ?_)
  obtain ⟨hx, hb, hml, hown, hB, hr, hlocks, hin⟩ := C
  have hown : s.vm.findClass RX12 = some m.cls := hown
  have hS : va_S A s.heap s.heap [] := va_S.rf
  have hl : lv_has ls 2 [(0, .ref h0), (1, .int p0)] := hl
  refine lv_iload_n hx hb dX12_end_0 rfl (lv_at hl 1 rfl) ?_
  refine lv_i2l (v := (Int32.toInt64 p0)) hx hb dX12_end_1 rfl ?_
  refine lv_lconst (v := 0) hx hb dX12_end_2 (by decide) ?_
  refine lv_aload_n hx hb dX12_end_3 rfl (lv_at hl 0 rfl) ?_
  refine va_get (D := D) (ci := 12) (v := .int 0) (C := RX12) (T := TX12) (N := 38) hx hb hB inB_X12 hown hK.1 hP 0 rfl rfl 5 (by decide) (hB _ mw_443) (fun _ h9 => h9) rfl dX12_end_4 ?_
  refine lv_i2l (v := 0) hx hb dX12_end_7 (by decide) ?_
  refine kc_i (va_runS (As := [.long (Int32.toInt64 p0), .long 0, .long 0]) (rest := []) ⟨hx, hb, hml, hown, hB⟩ (c_in l D ty s.heap.size (Int32.toInt64 p0) 0 0) (va_cwS 3 hB (bw_S mw_445 mw_446 mw_211 mw_444) rfl rfl rfl (by decide +kernel) ⟨Nat.le_of_ble_eq_true rfl, Nat.le_of_ble_eq_true rfl⟩) (kp_S hK hP hD [] (by decide) rfl) rfl rfl hl.1 rfl (lv_room (Nat.le_of_ble_eq_true rfl)) dX12_end_8 ⟨Nat.le_of_ble_eq_true rfl, Nat.le_of_ble_eq_true rfl⟩) hP hD hS hA [] [0] (wr := [(h0, .inr (12, [v0, v1, v2, v3, v4, .int 0, v5, v6, v7, v8, v9, v10, v11, v12, v13, v14, v15, v16, v17, v18, v19, v20, v21, v22, v23, v24, v25, v26, v27, v28, v29, v30, v31, v32, v33, v34, v35, v36]))]) rfl rfl (by decide) (by decide) (fun r u H locs w1 hP hD hS => ?_)
  rcases w1 with ⟨c2, rfl, rfl⟩ | ⟨c3, rfl, rfl⟩
  · have hP : va_P D vwCl [(h0, .inr (12, [v0, v1, v2, v3, v4, .int 0, v5, v6, v7, v8, v9, v10, v11, v12, v13, v14, v15, v16, v17, v18, v19, v20, v21, v22, v23, v24, v25, v26, v27, v28, v29, v30, v31, v32, v33, v34, v35, v36]))] H := hP
    have hD : va_D A [(h0, .inr (12, [v0, v1, v2, v3, v4, .int 0, v5, v6, v7, v8, v9, v10, v11, v12, v13, v14, v15, v16, v17, v18, v19, v20, v21, v22, v23, v24, v25, v26, v27, v28, v29, v30, v31, v32, v33, v34, v35, v36]))] := hD
    refine lv_if_ne (tgt := 16) hx hb dX12_end_11 (by decide) (fun _ => ?_) (fun h9 => absurd h9 (by decide))
    refine lv_aload_n hx hb dX12_end_16 rfl (lv_at hl 0 rfl) ?_
    refine lv_iload_n hx hb dX12_end_17 rfl (lv_at hl 1 rfl) ?_
    refine wy_put (D := D) (ci := 12) (v := .int p0) (fty := .int) (C := RX12) (T := TX12) (N := 38) hx hb hB inB_X12 tyX12 tyX12_ok nmX12 hown hK hP hD hS 0 rfl rfl 5 (by decide) mw_443 (fun _ h9 => h9) rfl (by decide +kernel) rfl rfl (Nat.le_of_ble_eq_true rfl) dX12_end_18 (ws' := [(h0, .inr (12, [v0, v1, v2, v3, v4, .int p0, v5, v6, v7, v8, v9, v10, v11, v12, v13, v14, v15, v16, v17, v18, v19, v20, v21, v22, v23, v24, v25, v26, v27, v28, v29, v30, v31, v32, v33, v34, v35, v36]))]) rfl (fun H locs hP hD hS => ?_)
    refine lv_iload_n hx hb dX12_end_21 rfl (lv_at hl 1 rfl) ?_
    exact kr_z hx hb hr rfl hlocks hP hD hS [] [] (by decide) rfl (Or.inl ⟨c2, rfl, rfl⟩) (by decide) (by decide) dX12_end_22
  · have hP : va_P D vwCl [(h0, .inr (12, [v0, v1, v2, v3, v4, .int 0, v5, v6, v7, v8, v9, v10, v11, v12, v13, v14, v15, v16, v17, v18, v19, v20, v21, v22, v23, v24, v25, v26, v27, v28, v29, v30, v31, v32, v33, v34, v35, v36]))] H := hP
    have hD : va_D A [(h0, .inr (12, [v0, v1, v2, v3, v4, .int 0, v5, v6, v7, v8, v9, v10, v11, v12, v13, v14, v15, v16, v17, v18, v19, v20, v21, v22, v23, v24, v25, v26, v27, v28, v29, v30, v31, v32, v33, v34, v35, v36]))] := hD
    refine lv_if_ne (tgt := 16) hx hb dX12_end_11 (by decide) (fun h9 => absurd (by decide) h9) (fun _ => ?_)
    refine lv_iconst (v := (-1)) hx hb dX12_end_14 (by decide) ?_
    exact kr_z hx hb hr rfl hlocks hP hD hS [] [] (by decide) rfl (Or.inr ⟨c3, rfl, rfl⟩) (by decide) (by decide) dX12_end_15
set_option maxHeartbeats 4000000 in
set_option maxRecDepth 100000 in
theorem c144_X12_see (l : Launch) (D : va_G) (ty : Nat → ClassId) (sz : Nat) (h0 : Nat) (v0 : Value) (v1 : Value) (v2 : Value) (v3 : Value) (v4 : Value) (v5 : Value) (v6 : Value) (v7 : Value) (v8 : Value) (v9 : Value) (v10 : Value) (v11 : Value) (v12 : Value) (v13 : Value) (v14 : Value) (v15 : Value) (v16 : Value) (v17 : Value) (v18 : Value) (v19 : Value) (v20 : Value) (v21 : Value) (v22 : Value) (v23 : Value) (v24 : Value) (v25 : Value) (v26 : Value) (v27 : Value) (v28 : Value) (v29 : Value) (v30 : Value) (v31 : Value) (v32 : Value) (v33 : Value) (v34 : Value) (v35 : Value) (v36 : Value) : cQ l yX12_see cX12_see 2 (some .int) 0 0 [.ref h0, .int 0] D ty [(h0, .inr (12, [v0, v1, v2, v3, v4, v5, v6, .int 0, v7, v8, v9, v10, v11, v12, v13, v14, v15, v16, v17, v18, v19, v20, v21, v22, v23, v24, v25, v26, v27, v28, v29, v30, v31, v32, v33, v34, v35, v36]))] sz (qI (fun (r : Int32) (u : va_W) => (-1) = r ∧ [(h0, .inr (12, [v0, v1, v2, v3, v4, v5, v6, .int 0, v7, v8, v9, v10, v11, v12, v13, v14, v15, v16, v17, v18, v19, v20, v21, v22, v23, v24, v25, v26, v27, v28, v29, v30, v31, v32, v33, v34, v35, v36]))] = u)) 0 0 := by
  refine cQ.of (by decide) (Nat.le_of_ble_eq_true rfl) (fun p e s m below meth c A ls C hsz hP hK hD hA hl => ?_)
  obtain ⟨hx, hb, hml, hown, hB, hr, hlocks, hin⟩ := C
  have hown : s.vm.findClass RX12 = some m.cls := hown
  have hS : va_S A s.heap s.heap [] := va_S.rf
  have hl : lv_has ls 2 [(0, .ref h0), (1, .int 0)] := hl
  refine lv_iload_n hx hb dX12_see_0 rfl (lv_at hl 1 rfl) ?_
  refine lv_aload_n hx hb dX12_see_1 rfl (lv_at hl 0 rfl) ?_
  refine va_get (D := D) (ci := 12) (v := .int 0) (C := RX12) (T := TX12) (N := 38) hx hb hB inB_X12 hown hK.1 hP 0 rfl rfl 7 (by decide) (hB _ mw_447) (fun _ h9 => h9) rfl dX12_see_2 ?_
  refine lv_icmp_ge (tgt := 21) hx hb dX12_see_5 (by decide) (fun _ => ?_) (fun h9 => absurd (by decide) h9)
  refine lv_iconst (v := (-1)) hx hb dX12_see_21 (by decide) ?_
  exact kr_z hx hb hr rfl hlocks hP hD hS [(h0, .inr (12, [v0, v1, v2, v3, v4, v5, v6, .int 0, v7, v8, v9, v10, v11, v12, v13, v14, v15, v16, v17, v18, v19, v20, v21, v22, v23, v24, v25, v26, v27, v28, v29, v30, v31, v32, v33, v34, v35, v36]))] [0] (by decide) rfl ⟨rfl, rfl⟩ (by decide) (by decide) dX12_see_22
set_option maxHeartbeats 4000000 in
set_option maxRecDepth 100000 in
theorem c143_X12_step (l : Launch) (D : va_G) (ty : Nat → ClassId) (sz : Nat) (h0 : Nat) (v0 : Value) (v1 : Value) (v2 : Value) (v3 : Value) (v4 : Value) (v5 : Value) (v6 : Value) (v7 : Value) (v8 : Value) (v9 : Value) (v10 : Value) (v11 : Value) (v12 : Value) (v13 : Value) (v14 : Value) (v15 : Value) (v16 : Value) (v17 : Value) (v18 : Value) (v19 : Value) (v20 : Value) (v21 : Value) (v22 : Value) (v23 : Value) (v24 : Value) (v25 : Value) (v26 : Value) (v27 : Value) (v28 : Value) (v29 : Value) (v30 : Value) (v31 : Value) (v32 : Value) (v33 : Value) (v34 : Value) (v35 : Value) : cQ l yX12_step cX12_step 2 none 1 21 [.ref h0] D ty [(h0, .inr (12, [v0, v1, v2, v3, v4, v5, v6, .int 0, .int 0, v7, v8, v9, v10, v11, v12, v13, v14, v15, v16, v17, v18, v19, v20, v21, v22, v23, v24, v25, v26, v27, v28, v29, v30, v31, v32, v33, v34, v35]))] sz (qV (fun (u : va_W) => [(h0, .inr (12, [v0, v1, v2, v3, v4, v5, v6, .int 0, .int 0, .int 0, .int 0, v9, v10, v11, v12, v13, v14, v15, v16, v17, v18, v19, v20, v21, v22, v23, v24, v25, v26, v27, v28, v29, v30, v31, v32, v33, v34, v35]))] = u)) 0 0 := by
  refine cQ.of (by decide) (Nat.le_of_ble_eq_true rfl) (fun p e s m below meth c A ls C hsz hP hK hD hA hl => ?_)
  obtain ⟨hx, hb, hml, hown, hB, hr, hlocks, hin⟩ := C
  have hown : s.vm.findClass RX12 = some m.cls := hown
  have hS : va_S A s.heap s.heap [] := va_S.rf
  have hl : lv_has ls 2 [(0, .ref h0)] := hl
  refine lv_aload_n hx hb dX12_step_0 rfl (lv_at hl 0 rfl) ?_
  refine lv_aload_n hx hb dX12_step_1 rfl (lv_at hl 0 rfl) ?_
  refine va_get (D := D) (ci := 12) (v := .int 0) (C := RX12) (T := TX12) (N := 38) hx hb hB inB_X12 hown hK.1 hP 0 rfl rfl 8 (by decide) (hB _ mw_448) (fun _ h9 => h9) rfl dX12_step_2 ?_
  refine kc_i (va_runV (As := [.int 0]) (rest := []) ⟨hx, hb, hml, hown, hB⟩ (c144_X12_see l D ty s.heap.size h0 v0 v1 v2 v3 v4 v5 v6 (.int 0) v7 v8 v9 v10 v11 v12 v13 v14 v15 v16 v17 v18 v19 v20 v21 v22 v23 v24 v25 v26 v27 v28 v29 v30 v31 v32 v33 v34 v35) (cwV 1 hB (bw_V mw_451 mw_452 mw_453 mw_211 mw_450) rfl rfl rfl (by decide +kernel) ⟨Nat.le_of_ble_eq_true rfl, Nat.le_of_ble_eq_true rfl⟩) (kp_V hK hP hD [0] (by decide) rfl 0 rfl rfl rfl) rfl rfl hl.1 rfl (lv_room (Nat.le_of_ble_eq_true rfl)) dX12_step_5 ⟨Nat.le_of_ble_eq_true rfl, Nat.le_of_ble_eq_true rfl⟩) hP hD hS hA [0] [] (wr := []) rfl rfl (by decide) (by decide) (fun r u H locs w1 hP hD hS => ?_)
  obtain ⟨rfl, rfl⟩ := w1
  have hP : va_P D vwCl [(h0, .inr (12, [v0, v1, v2, v3, v4, v5, v6, .int 0, .int 0, v7, v8, v9, v10, v11, v12, v13, v14, v15, v16, v17, v18, v19, v20, v21, v22, v23, v24, v25, v26, v27, v28, v29, v30, v31, v32, v33, v34, v35]))] H := hP
  have hD : va_D A [(h0, .inr (12, [v0, v1, v2, v3, v4, v5, v6, .int 0, .int 0, v7, v8, v9, v10, v11, v12, v13, v14, v15, v16, v17, v18, v19, v20, v21, v22, v23, v24, v25, v26, v27, v28, v29, v30, v31, v32, v33, v34, v35]))] := hD
  refine lv_bipush (v := 32) hx hb dX12_step_8 (by decide) ?_
  refine lv_icmp_eq (tgt := 26) hx hb dX12_step_10 (by decide) (fun h9 => absurd h9 (by decide)) (fun _ => ?_)
  refine lv_aload_n hx hb dX12_step_13 rfl (lv_at hl 0 rfl) ?_
  refine lv_aload_n hx hb dX12_step_14 rfl (lv_at hl 0 rfl) ?_
  refine va_get (D := D) (ci := 12) (v := .int 0) (C := RX12) (T := TX12) (N := 38) hx hb hB inB_X12 hown hK.1 hP 0 rfl rfl 8 (by decide) (hB _ mw_448) (fun _ h9 => h9) rfl dX12_step_15 ?_
  refine kc_i (va_runV (As := [.int 0]) (rest := []) ⟨hx, hb, hml, hown, hB⟩ (c144_X12_see l D ty H.size h0 v0 v1 v2 v3 v4 v5 v6 (.int 0) v7 v8 v9 v10 v11 v12 v13 v14 v15 v16 v17 v18 v19 v20 v21 v22 v23 v24 v25 v26 v27 v28 v29 v30 v31 v32 v33 v34 v35) (cwV 1 hB (bw_V mw_451 mw_452 mw_453 mw_211 mw_450) rfl rfl rfl (by decide +kernel) ⟨Nat.le_of_ble_eq_true rfl, Nat.le_of_ble_eq_true rfl⟩) (kp_V hK hP hD [0] (by decide) rfl 0 rfl rfl rfl) rfl rfl hl.1 rfl (lv_room (Nat.le_of_ble_eq_true rfl)) dX12_step_18 ⟨Nat.le_of_ble_eq_true rfl, Nat.le_of_ble_eq_true rfl⟩) hP hD hS hA [0] [] (wr := []) rfl rfl (by decide) (by decide) (fun r u H locs w2 hP hD hS => ?_)
  obtain ⟨rfl, rfl⟩ := w2
  have hP : va_P D vwCl [(h0, .inr (12, [v0, v1, v2, v3, v4, v5, v6, .int 0, .int 0, v7, v8, v9, v10, v11, v12, v13, v14, v15, v16, v17, v18, v19, v20, v21, v22, v23, v24, v25, v26, v27, v28, v29, v30, v31, v32, v33, v34, v35]))] H := hP
  have hD : va_D A [(h0, .inr (12, [v0, v1, v2, v3, v4, v5, v6, .int 0, .int 0, v7, v8, v9, v10, v11, v12, v13, v14, v15, v16, v17, v18, v19, v20, v21, v22, v23, v24, v25, v26, v27, v28, v29, v30, v31, v32, v33, v34, v35]))] := hD
  refine lv_bipush (v := 10) hx hb dX12_step_21 (by decide) ?_
  refine lv_icmp_ne (tgt := 39) hx hb dX12_step_23 (by decide) (fun _ => ?_) (fun h9 => absurd h9 (by decide))
  refine lv_aload_n hx hb dX12_step_39 rfl (lv_at hl 0 rfl) ?_
  refine lv_aload_n hx hb dX12_step_40 rfl (lv_at hl 0 rfl) ?_
  refine va_get (D := D) (ci := 12) (v := .int 0) (C := RX12) (T := TX12) (N := 38) hx hb hB inB_X12 hown hK.1 hP 0 rfl rfl 8 (by decide) (hB _ mw_448) (fun _ h9 => h9) rfl dX12_step_41 ?_
  refine wy_put (D := D) (ci := 12) (v := .int 0) (fty := .int) (C := RX12) (T := TX12) (N := 38) hx hb hB inB_X12 tyX12 tyX12_ok nmX12 hown hK hP hD hS 0 rfl rfl 9 (by decide) mw_454 (fun _ h9 => h9) rfl (by decide +kernel) rfl rfl (Nat.le_of_ble_eq_true rfl) dX12_step_44 (ws' := [(h0, .inr (12, [v0, v1, v2, v3, v4, v5, v6, .int 0, .int 0, .int 0, v8, v9, v10, v11, v12, v13, v14, v15, v16, v17, v18, v19, v20, v21, v22, v23, v24, v25, v26, v27, v28, v29, v30, v31, v32, v33, v34, v35]))]) rfl (fun H locs hP hD hS => ?_)
  refine lv_aload_n hx hb dX12_step_47 rfl (lv_at hl 0 rfl) ?_
  refine lv_aload_n hx hb dX12_step_48 rfl (lv_at hl 0 rfl) ?_
  refine va_get (D := D) (ci := 12) (v := .int 0) (C := RX12) (T := TX12) (N := 38) hx hb hB inB_X12 hown hK.1 hP 0 rfl rfl 8 (by decide) (hB _ mw_448) (fun _ h9 => h9) rfl dX12_step_49 ?_
  refine kc_i (va_runV (As := [.int 0]) (rest := []) ⟨hx, hb, hml, hown, hB⟩ (c144_X12_see l D ty H.size h0 v0 v1 v2 v3 v4 v5 v6 (.int 0) (.int 0) v8 v9 v10 v11 v12 v13 v14 v15 v16 v17 v18 v19 v20 v21 v22 v23 v24 v25 v26 v27 v28 v29 v30 v31 v32 v33 v34 v35) (cwV 1 hB (bw_V mw_451 mw_452 mw_453 mw_211 mw_450) rfl rfl rfl (by decide +kernel) ⟨Nat.le_of_ble_eq_true rfl, Nat.le_of_ble_eq_true rfl⟩) (kp_V hK hP hD [0] (by decide) rfl 0 rfl rfl rfl) rfl rfl hl.1 rfl (lv_room (Nat.le_of_ble_eq_true rfl)) dX12_step_52 ⟨Nat.le_of_ble_eq_true rfl, Nat.le_of_ble_eq_true rfl⟩) hP hD hS hA [0] [] (wr := []) rfl rfl (by decide) (by decide) (fun r u H locs w3 hP hD hS => ?_)
  obtain ⟨rfl, rfl⟩ := w3
  have hP : va_P D vwCl [(h0, .inr (12, [v0, v1, v2, v3, v4, v5, v6, .int 0, .int 0, .int 0, v8, v9, v10, v11, v12, v13, v14, v15, v16, v17, v18, v19, v20, v21, v22, v23, v24, v25, v26, v27, v28, v29, v30, v31, v32, v33, v34, v35]))] H := hP
  have hD : va_D A [(h0, .inr (12, [v0, v1, v2, v3, v4, v5, v6, .int 0, .int 0, .int 0, v8, v9, v10, v11, v12, v13, v14, v15, v16, v17, v18, v19, v20, v21, v22, v23, v24, v25, v26, v27, v28, v29, v30, v31, v32, v33, v34, v35]))] := hD
  refine lv_istore_n (lv' := [(1, .int (-1)), (0, .ref h0)]) hx hb dX12_step_55 rfl hl (by decide) rfl (fun ls hl => ?_)
  refine lv_iload_n hx hb dX12_step_56 rfl (lv_at hl 0 rfl) ?_
  refine lv_iconst (v := (-1)) hx hb dX12_step_57 (by decide) ?_
  refine lv_icmp_ne (tgt := 69) hx hb dX12_step_58 (by decide) (fun h9 => absurd (by decide) h9) (fun _ => ?_)
  refine lv_aload_n hx hb dX12_step_61 rfl (lv_at hl 1 rfl) ?_
  refine lv_iconst (v := 0) hx hb dX12_step_62 (by decide) ?_
  refine wy_put (D := D) (ci := 12) (v := .int 0) (fty := .int) (C := RX12) (T := TX12) (N := 38) hx hb hB inB_X12 tyX12 tyX12_ok nmX12 hown hK hP hD hS 0 rfl rfl 10 (by decide) mw_455 (fun _ h9 => h9) rfl (by decide +kernel) rfl rfl (Nat.le_of_ble_eq_true rfl) dX12_step_63 (ws' := [(h0, .inr (12, [v0, v1, v2, v3, v4, v5, v6, .int 0, .int 0, .int 0, .int 0, v9, v10, v11, v12, v13, v14, v15, v16, v17, v18, v19, v20, v21, v22, v23, v24, v25, v26, v27, v28, v29, v30, v31, v32, v33, v34, v35]))]) rfl (fun H locs hP hD hS => ?_)
  refine lv_goto (tgt := 239) hx hb dX12_step_66 (by decide) ?_
  exact kr_v hx hb hr hlocks hP hD hS [(h0, .inr (12, [v0, v1, v2, v3, v4, v5, v6, .int 0, .int 0, .int 0, .int 0, v9, v10, v11, v12, v13, v14, v15, v16, v17, v18, v19, v20, v21, v22, v23, v24, v25, v26, v27, v28, v29, v30, v31, v32, v33, v34, v35]))] [0] (by decide) rfl rfl (by decide) (by decide) dX12_step_239
set_option maxHeartbeats 4000000 in
set_option maxRecDepth 100000 in
theorem c145_X12_good (l : Launch) (D : va_G) (ty : Nat → ClassId) (sz : Nat) (h0 : Nat) (v0 : Value) (v1 : Value) (v2 : Value) (v3 : Value) (v4 : Value) (v5 : Value) (v6 : Value) (v7 : Value) (v8 : Value) (v9 : Value) (v10 : Value) (v11 : Value) (v12 : Value) (v13 : Value) (v14 : Value) (v15 : Value) (v16 : Value) (v17 : Value) (v18 : Value) (v19 : Value) (v20 : Value) (v21 : Value) (v22 : Value) (v23 : Value) (v24 : Value) (v25 : Value) (v26 : Value) (v27 : Value) (v28 : Value) (v29 : Value) (v30 : Value) (v31 : Value) (v32 : Value) (v33 : Value) (v34 : Value) (v35 : Value) (v36 : Value) : cQ l yX12_good cX12_good 1 (some .boolean) 0 0 [.ref h0] D ty [(h0, .inr (12, [v0, v1, v2, v3, v4, v5, v6, v7, v8, v9, v10, v11, .int 0, v12, v13, v14, v15, v16, v17, v18, v19, v20, v21, v22, v23, v24, v25, v26, v27, v28, v29, v30, v31, v32, v33, v34, v35, v36]))] sz (qI (fun (r : Int32) (u : va_W) => 1 = r ∧ [(h0, .inr (12, [v0, v1, v2, v3, v4, v5, v6, v7, v8, v9, v10, v11, .int 0, v12, v13, v14, v15, v16, v17, v18, v19, v20, v21, v22, v23, v24, v25, v26, v27, v28, v29, v30, v31, v32, v33, v34, v35, v36]))] = u)) 0 0 := by
  refine cQ.of (by decide) (Nat.le_of_ble_eq_true rfl) (fun p e s m below meth c A ls C hsz hP hK hD hA hl => ?_)
  obtain ⟨hx, hb, hml, hown, hB, hr, hlocks, hin⟩ := C
  have hown : s.vm.findClass RX12 = some m.cls := hown
  have hS : va_S A s.heap s.heap [] := va_S.rf
  have hl : lv_has ls 1 [(0, .ref h0)] := hl
  refine lv_aload_n hx hb dX12_good_0 rfl (lv_at hl 0 rfl) ?_
  refine va_get (D := D) (ci := 12) (v := .int 0) (C := RX12) (T := TX12) (N := 38) hx hb hB inB_X12 hown hK.1 hP 0 rfl rfl 12 (by decide) (hB _ mw_449) (fun _ h9 => h9) rfl dX12_good_1 ?_
  refine lv_if_ne (tgt := 11) hx hb dX12_good_4 (by decide) (fun h9 => absurd (by decide) h9) (fun _ => ?_)
  refine lv_iconst (v := 1) hx hb dX12_good_7 (by decide) ?_
  refine lv_goto (tgt := 12) hx hb dX12_good_8 (by decide) ?_
  exact kr_z hx hb hr rfl hlocks hP hD hS [(h0, .inr (12, [v0, v1, v2, v3, v4, v5, v6, v7, v8, v9, v10, v11, .int 0, v12, v13, v14, v15, v16, v17, v18, v19, v20, v21, v22, v23, v24, v25, v26, v27, v28, v29, v30, v31, v32, v33, v34, v35, v36]))] [0] (by decide) rfl ⟨rfl, rfl⟩ (by decide) (by decide) dX12_good_12
set_option maxHeartbeats 4000000 in
set_option maxRecDepth 100000 in
theorem c146_X12_alleys (l : Launch) (D : va_G) (ty : Nat → ClassId) (sz : Nat) (h0 : Nat) (h1 : Nat) (v0 : Value) (v1 : Value) (v2 : Value) (v3 : Value) (v4 : Value) (v5 : Value) (v6 : Value) (v7 : Value) (v8 : Value) (v9 : Value) (v10 : Value) (v11 : Value) (v12 : Value) (v13 : Value) (v14 : Value) (v15 : Value) (v16 : Value) (v17 : Value) (v18 : Value) (v19 : Value) (v20 : Value) (v21 : Value) (v22 : Value) (v23 : Value) (v24 : Value) (v25 : Value) (v26 : Value) (v27 : Value) (v28 : Value) (v29 : Value) (v30 : Value) (v31 : Value) (v32 : Value) (v33 : Value) (v34 : Value) (v35 : Value) (v36 : Value) : cQ l yX12_alleys cX12_alleys 1 (some .int) 0 0 [.ref h0] D ty [(h0, .inr (12, [v0, .ref h1, v1, v2, v3, v4, v5, v6, v7, v8, v9, v10, v11, v12, v13, v14, v15, v16, v17, v18, v19, v20, v21, v22, v23, v24, v25, v26, v27, v28, v29, v30, v31, v32, v33, v34, v35, v36])), (h1, .inl (ty 1, 304, .inl (upd (upd (kf 0) 1 2) 4 (-1))))] sz (qI (fun (r : Int32) (u : va_W) => 0 = r ∧ [(h0, .inr (12, [v0, .ref h1, v1, v2, v3, v4, v5, v6, v7, v8, v9, v10, v11, v12, v13, v14, v15, v16, v17, v18, v19, v20, v21, v22, v23, v24, v25, v26, v27, v28, v29, v30, v31, v32, v33, v34, v35, v36])), (h1, .inl (ty 1, 304, .inl (upd (upd (kf 0) 1 2) 4 (-1))))] = u)) 0 0 := by
  refine cQ.of (by decide) (Nat.le_of_ble_eq_true rfl) (fun p e s m below meth c A ls C hsz hP hK hD hA hl => ?_)
  obtain ⟨hx, hb, hml, hown, hB, hr, hlocks, hin⟩ := C
  have hown : s.vm.findClass RX12 = some m.cls := hown
  have hS : va_S A s.heap s.heap [] := va_S.rf
  have hl : lv_has ls 1 [(0, .ref h0)] := hl
  refine lv_aload_n hx hb dX12_alleys_0 rfl (lv_at hl 0 rfl) ?_
  refine va_get (D := D) (ci := 12) (v := .ref h1) (C := RX12) (T := TX12) (N := 38) hx hb hB inB_X12 hown hK.1 hP 0 rfl rfl 1 (by decide) (hB _ mw_182) (fun _ h9 => h9) rfl dX12_alleys_1 ?_
  refine lv_iconst (v := 2) hx hb dX12_alleys_4 (by decide) ?_
  refine va_iald hx hb hK.1 hP 1 1 rfl rfl (by unfold vp_in; decide) dX12_alleys_5 ?_
  refine tp_i (v := 0) rfl ?_
  exact kr_z hx hb hr rfl hlocks hP hD hS [(h0, .inr (12, [v0, .ref h1, v1, v2, v3, v4, v5, v6, v7, v8, v9, v10, v11, v12, v13, v14, v15, v16, v17, v18, v19, v20, v21, v22, v23, v24, v25, v26, v27, v28, v29, v30, v31, v32, v33, v34, v35, v36])), (h1, .inl (ty 1, 304, .inl (upd (upd (kf 0) 1 2) 4 (-1))))] [0, 1] (by decide) rfl ⟨rfl, rfl⟩ (by decide) (by decide) dX12_alleys_6
set_option maxHeartbeats 4000000 in
set_option maxRecDepth 100000 in
theorem c142_X12_text (l : Launch) (D : va_G) (ty : Nat → ClassId) (sz : Nat) (h0 : Nat) (h1 : Nat) (h2 : Nat) (h3 : Nat) (v0 : Value) (v1 : Value) (v2 : Value) (v3 : Value) (v4 : Value) (v5 : Value) (v6 : Value) (v7 : Value) (v8 : Value) (v9 : Value) (v10 : Value) (v11 : Value) (v12 : Value) (v13 : Value) (v14 : Value) (v15 : Value) (v16 : Value) (v17 : Value) (v18 : Value) (v19 : Value) (v20 : Value) (v21 : Value) (v22 : Value) (v23 : Value) (v24 : Value) (v25 : Value) (v26 : Value) (v27 : Value) (v28 : Value) (v29 : Value) (v30 : Value) (v31 : Value) (v32 : Value) (v33 : Value) (f0 : Nat → Int32) (f1 : Nat → Int32) : cQ l yX12_text cX12_text 3 (some .int) 2 42 [.ref h0] D ty [(h0, .inr (12, [v0, .ref h3, v1, v2, v3, .int 0, v4, v5, v6, v7, v8, v9, v10, v11, .ref h1, .ref h2, v12, v13, v14, v15, v16, v17, v18, v19, v20, v21, v22, v23, v24, v25, v26, v27, v28, v29, v30, v31, v32, v33])), (h1, .inl (ty 1, 304, .inl (kf 0))), (h2, .inl (ty 3, 28, .inl f0)), (h3, .inl (ty 1, 304, .inl f1))] sz (qI (fun (r : Int32) (u : va_W) => 0 = r ∧ [] = u)) 0 0 := by
  refine cQ.of (by decide) (Nat.le_of_ble_eq_true rfl) (fun p e s m below meth c A ls C hsz hP hK hD hA hl => ?_)
  obtain ⟨hx, hb, hml, hown, hB, hr, hlocks, hin⟩ := C
  have hown : s.vm.findClass RX12 = some m.cls := hown
  have hS : va_S A s.heap s.heap [] := va_S.rf
  have hl : lv_has ls 3 [(0, .ref h0)] := hl
  refine lv_aload_n hx hb dX12_text_0 rfl (lv_at hl 0 rfl) ?_
  refine lv_aload_n hx hb dX12_text_1 rfl (lv_at hl 0 rfl) ?_
  refine va_get (D := D) (ci := 12) (v := .int 0) (C := RX12) (T := TX12) (N := 38) hx hb hB inB_X12 hown hK.1 hP 0 rfl rfl 5 (by decide) (hB _ mw_443) (fun _ h9 => h9) rfl dX12_text_2 ?_
  refine wy_put (D := D) (ci := 12) (v := .int 0) (fty := .int) (C := RX12) (T := TX12) (N := 38) hx hb hB inB_X12 tyX12 tyX12_ok nmX12 hown hK hP hD hS 0 rfl rfl 7 (by decide) mw_447 (fun _ h9 => h9) rfl (by decide +kernel) rfl rfl (Nat.le_of_ble_eq_true rfl) dX12_text_5 (ws' := [(h0, .inr (12, [v0, .ref h3, v1, v2, v3, .int 0, v4, .int 0, v6, v7, v8, v9, v10, v11, .ref h1, .ref h2, v12, v13, v14, v15, v16, v17, v18, v19, v20, v21, v22, v23, v24, v25, v26, v27, v28, v29, v30, v31, v32, v33])), (h1, .inl (ty 1, 304, .inl (kf 0))), (h2, .inl (ty 3, 28, .inl f0)), (h3, .inl (ty 1, 304, .inl f1))]) rfl (fun H locs hP hD hS => ?_)
  refine lv_aload_n hx hb dX12_text_8 rfl (lv_at hl 0 rfl) ?_
  refine lv_iconst (v := 0) hx hb dX12_text_9 (by decide) ?_
  refine wy_put (D := D) (ci := 12) (v := .int 0) (fty := .int) (C := RX12) (T := TX12) (N := 38) hx hb hB inB_X12 tyX12 tyX12_ok nmX12 hown hK hP hD hS 0 rfl rfl 5 (by decide) mw_443 (fun _ h9 => h9) rfl (by decide +kernel) rfl rfl (Nat.le_of_ble_eq_true rfl) dX12_text_10 (ws' := [(h0, .inr (12, [v0, .ref h3, v1, v2, v3, .int 0, v4, .int 0, v6, v7, v8, v9, v10, v11, .ref h1, .ref h2, v12, v13, v14, v15, v16, v17, v18, v19, v20, v21, v22, v23, v24, v25, v26, v27, v28, v29, v30, v31, v32, v33])), (h1, .inl (ty 1, 304, .inl (kf 0))), (h2, .inl (ty 3, 28, .inl f0)), (h3, .inl (ty 1, 304, .inl f1))]) rfl (fun H locs hP hD hS => ?_)
  refine lv_aload_n hx hb dX12_text_13 rfl (lv_at hl 0 rfl) ?_
  refine lv_iconst (v := 0) hx hb dX12_text_14 (by decide) ?_
  refine wy_put (D := D) (ci := 12) (v := .int 0) (fty := .int) (C := RX12) (T := TX12) (N := 38) hx hb hB inB_X12 tyX12 tyX12_ok nmX12 hown hK hP hD hS 0 rfl rfl 8 (by decide) mw_448 (fun _ h9 => h9) rfl (by decide +kernel) rfl rfl (Nat.le_of_ble_eq_true rfl) dX12_text_15 (ws' := [(h0, .inr (12, [v0, .ref h3, v1, v2, v3, .int 0, v4, .int 0, .int 0, v7, v8, v9, v10, v11, .ref h1, .ref h2, v12, v13, v14, v15, v16, v17, v18, v19, v20, v21, v22, v23, v24, v25, v26, v27, v28, v29, v30, v31, v32, v33])), (h1, .inl (ty 1, 304, .inl (kf 0))), (h2, .inl (ty 3, 28, .inl f0)), (h3, .inl (ty 1, 304, .inl f1))]) rfl (fun H locs hP hD hS => ?_)
  refine lv_aload_n hx hb dX12_text_18 rfl (lv_at hl 0 rfl) ?_
  refine lv_iconst (v := 0) hx hb dX12_text_19 (by decide) ?_
  refine wy_put (D := D) (ci := 12) (v := .int 0) (fty := .int) (C := RX12) (T := TX12) (N := 38) hx hb hB inB_X12 tyX12 tyX12_ok nmX12 hown hK hP hD hS 0 rfl rfl 12 (by decide) mw_449 (fun _ h9 => h9) rfl (by decide +kernel) rfl rfl (Nat.le_of_ble_eq_true rfl) dX12_text_20 (ws' := [(h0, .inr (12, [v0, .ref h3, v1, v2, v3, .int 0, v4, .int 0, .int 0, v7, v8, v9, .int 0, v11, .ref h1, .ref h2, v12, v13, v14, v15, v16, v17, v18, v19, v20, v21, v22, v23, v24, v25, v26, v27, v28, v29, v30, v31, v32, v33])), (h1, .inl (ty 1, 304, .inl (kf 0))), (h2, .inl (ty 3, 28, .inl f0)), (h3, .inl (ty 1, 304, .inl f1))]) rfl (fun H locs hP hD hS => ?_)
  refine lv_aload_n hx hb dX12_text_23 rfl (lv_at hl 0 rfl) ?_
  refine lv_iconst (v := (-1)) hx hb dX12_text_24 (by decide) ?_
  refine wy_put (D := D) (ci := 12) (v := .int (-1)) (fty := .int) (C := RX12) (T := TX12) (N := 38) hx hb hB inB_X12 tyX12 tyX12_ok nmX12 hown hK hP hD hS 0 rfl rfl 13 (by decide) mw_188 (fun _ h9 => h9) rfl (by decide +kernel) rfl rfl (Nat.le_of_ble_eq_true rfl) dX12_text_25 (ws' := [(h0, .inr (12, [v0, .ref h3, v1, v2, v3, .int 0, v4, .int 0, .int 0, v7, v8, v9, .int 0, .int (-1), .ref h1, .ref h2, v12, v13, v14, v15, v16, v17, v18, v19, v20, v21, v22, v23, v24, v25, v26, v27, v28, v29, v30, v31, v32, v33])), (h1, .inl (ty 1, 304, .inl (kf 0))), (h2, .inl (ty 3, 28, .inl f0)), (h3, .inl (ty 1, 304, .inl f1))]) rfl (fun H locs hP hD hS => ?_)
  refine lv_aload_n hx hb dX12_text_28 rfl (lv_at hl 0 rfl) ?_
  refine va_get (D := D) (ci := 12) (v := .ref h1) (C := RX12) (T := TX12) (N := 38) hx hb hB inB_X12 hown hK.1 hP 0 rfl rfl 14 (by decide) (hB _ mw_189) (fun _ h9 => h9) rfl dX12_text_29 ?_
  refine kc_v (va_runS (As := [.ref h1]) (rest := []) ⟨hx, hb, hml, hown, hB⟩ (c_plain l D ty H.size h1 (kf 0)) (va_cwS 1 hB (bw_S mw_209 mw_210 mw_211 mw_208) rfl rfl rfl (by decide +kernel) ⟨Nat.le_of_ble_eq_true rfl, Nat.le_of_ble_eq_true rfl⟩) (kp_S hK hP hD [1] (by decide) rfl) rfl rfl hl.1 rfl (lv_room (Nat.le_of_ble_eq_true rfl)) dX12_text_32 ⟨Nat.le_of_ble_eq_true rfl, Nat.le_of_ble_eq_true rfl⟩) hP hD hS hA [1] [0, 2, 3] (wr := [(h0, .inr (12, [v0, .ref h3, v1, v2, v3, .int 0, v4, .int 0, .int 0, v7, v8, v9, .int 0, .int (-1), .ref h1, .ref h2, v12, v13, v14, v15, v16, v17, v18, v19, v20, v21, v22, v23, v24, v25, v26, v27, v28, v29, v30, v31, v32, v33])), (h2, .inl (ty 3, 28, .inl f0)), (h3, .inl (ty 1, 304, .inl f1))]) rfl rfl (by decide) (by decide) (fun u H locs w1 hP hD hS => ?_)
  subst w1
  have hP : va_P D vwCl [(h0, .inr (12, [v0, .ref h3, v1, v2, v3, .int 0, v4, .int 0, .int 0, v7, v8, v9, .int 0, .int (-1), .ref h1, .ref h2, v12, v13, v14, v15, v16, v17, v18, v19, v20, v21, v22, v23, v24, v25, v26, v27, v28, v29, v30, v31, v32, v33])), (h2, .inl (ty 3, 28, .inl f0)), (h3, .inl (ty 1, 304, .inl f1)), (h1, .inl (ty 1, 304, .inl (upd (upd (kf 0) 1 2) 4 (-1))))] H := hP
  have hD : va_D A [(h0, .inr (12, [v0, .ref h3, v1, v2, v3, .int 0, v4, .int 0, .int 0, v7, v8, v9, .int 0, .int (-1), .ref h1, .ref h2, v12, v13, v14, v15, v16, v17, v18, v19, v20, v21, v22, v23, v24, v25, v26, v27, v28, v29, v30, v31, v32, v33])), (h2, .inl (ty 3, 28, .inl f0)), (h3, .inl (ty 1, 304, .inl f1)), (h1, .inl (ty 1, 304, .inl (upd (upd (kf 0) 1 2) 4 (-1))))] := hD
  refine lv_iconst (v := 0) hx hb dX12_text_35 (by decide) ?_
  refine lv_istore_n (lv' := [(1, .int 0), (0, .ref h0)]) hx hb dX12_text_36 rfl hl (by decide) rfl (fun ls hl => ?_)
  refine lv_iload_n hx hb dX12_text_37 rfl (lv_at hl 0 rfl) ?_
  refine lv_bipush (v := 28) hx hb dX12_text_38 (by decide) ?_
  refine lv_icmp_ge (tgt := 56) hx hb dX12_text_40 (by decide) (fun h9 => absurd h9 (by decide)) (fun _ => ?_)
  refine lv_aload_n hx hb dX12_text_43 rfl (lv_at hl 1 rfl) ?_
  refine va_get (D := D) (ci := 12) (v := .ref h2) (C := RX12) (T := TX12) (N := 38) hx hb hB inB_X12 hown hK.1 hP 0 rfl rfl 15 (by decide) (hB _ mw_190) (fun _ h9 => h9) rfl dX12_text_44 ?_
  refine lv_iload_n hx hb dX12_text_47 rfl (lv_at hl 0 rfl) ?_
  refine lv_iconst (v := 0) hx hb dX12_text_48 (by decide) ?_
  refine wy_zast hx hb hK hP hD hS 1 3 rfl rfl (by unfold vp_in; decide) dX12_text_49 (j := 0) (by decide) (y := 0) (by decide) (ws' := [(h0, .inr (12, [v0, .ref h3, v1, v2, v3, .int 0, v4, .int 0, .int 0, v7, v8, v9, .int 0, .int (-1), .ref h1, .ref h2, v12, v13, v14, v15, v16, v17, v18, v19, v20, v21, v22, v23, v24, v25, v26, v27, v28, v29, v30, v31, v32, v33])), (h2, .inl (ty 3, 28, .inl (upd f0 0 0))), (h3, .inl (ty 1, 304, .inl f1)), (h1, .inl (ty 1, 304, .inl (upd (upd (kf 0) 1 2) 4 (-1))))]) rfl (fun H locs hP hD hS => ?_)
  refine lv_iinc (v := 1) (lv' := [(1, .int 1), (0, .ref h0)]) hx hb dX12_text_50 hl (k := 0) rfl (by decide) (by decide) rfl (fun ls hl => ?_)
  refine lv_goto (tgt := 37) hx hb dX12_text_53 (by decide) ?_
  refine lv_iload_n hx hb dX12_text_37 rfl (lv_at hl 0 rfl) ?_
  refine lv_bipush (v := 28) hx hb dX12_text_38 (by decide) ?_
  refine lv_icmp_ge (tgt := 56) hx hb dX12_text_40 (by decide) (fun h9 => absurd h9 (by decide)) (fun _ => ?_)
  refine lv_aload_n hx hb dX12_text_43 rfl (lv_at hl 1 rfl) ?_
  refine va_get (D := D) (ci := 12) (v := .ref h2) (C := RX12) (T := TX12) (N := 38) hx hb hB inB_X12 hown hK.1 hP 0 rfl rfl 15 (by decide) (hB _ mw_190) (fun _ h9 => h9) rfl dX12_text_44 ?_
  refine lv_iload_n hx hb dX12_text_47 rfl (lv_at hl 0 rfl) ?_
  refine lv_iconst (v := 0) hx hb dX12_text_48 (by decide) ?_
  refine wy_zast hx hb hK hP hD hS 1 3 rfl rfl (by unfold vp_in; decide) dX12_text_49 (j := 1) (by decide) (y := 0) (by decide) (ws' := [(h0, .inr (12, [v0, .ref h3, v1, v2, v3, .int 0, v4, .int 0, .int 0, v7, v8, v9, .int 0, .int (-1), .ref h1, .ref h2, v12, v13, v14, v15, v16, v17, v18, v19, v20, v21, v22, v23, v24, v25, v26, v27, v28, v29, v30, v31, v32, v33])), (h2, .inl (ty 3, 28, .inl (upd (upd f0 0 0) 1 0))), (h3, .inl (ty 1, 304, .inl f1)), (h1, .inl (ty 1, 304, .inl (upd (upd (kf 0) 1 2) 4 (-1))))]) rfl (fun H locs hP hD hS => ?_)
  refine lv_iinc (v := 2) (lv' := [(1, .int 2), (0, .ref h0)]) hx hb dX12_text_50 hl (k := 0) rfl (by decide) (by decide) rfl (fun ls hl => ?_)
  refine lv_goto (tgt := 37) hx hb dX12_text_53 (by decide) ?_
  refine lv_iload_n hx hb dX12_text_37 rfl (lv_at hl 0 rfl) ?_
  refine lv_bipush (v := 28) hx hb dX12_text_38 (by decide) ?_
  refine lv_icmp_ge (tgt := 56) hx hb dX12_text_40 (by decide) (fun h9 => absurd h9 (by decide)) (fun _ => ?_)
  refine lv_aload_n hx hb dX12_text_43 rfl (lv_at hl 1 rfl) ?_
  refine va_get (D := D) (ci := 12) (v := .ref h2) (C := RX12) (T := TX12) (N := 38) hx hb hB inB_X12 hown hK.1 hP 0 rfl rfl 15 (by decide) (hB _ mw_190) (fun _ h9 => h9) rfl dX12_text_44 ?_
  refine lv_iload_n hx hb dX12_text_47 rfl (lv_at hl 0 rfl) ?_
  refine lv_iconst (v := 0) hx hb dX12_text_48 (by decide) ?_
  refine wy_zast hx hb hK hP hD hS 1 3 rfl rfl (by unfold vp_in; decide) dX12_text_49 (j := 2) (by decide) (y := 0) (by decide) (ws' := [(h0, .inr (12, [v0, .ref h3, v1, v2, v3, .int 0, v4, .int 0, .int 0, v7, v8, v9, .int 0, .int (-1), .ref h1, .ref h2, v12, v13, v14, v15, v16, v17, v18, v19, v20, v21, v22, v23, v24, v25, v26, v27, v28, v29, v30, v31, v32, v33])), (h2, .inl (ty 3, 28, .inl (upd (upd (upd f0 0 0) 1 0) 2 0))), (h3, .inl (ty 1, 304, .inl f1)), (h1, .inl (ty 1, 304, .inl (upd (upd (kf 0) 1 2) 4 (-1))))]) rfl (fun H locs hP hD hS => ?_)
  refine lv_iinc (v := 3) (lv' := [(1, .int 3), (0, .ref h0)]) hx hb dX12_text_50 hl (k := 0) rfl (by decide) (by decide) rfl (fun ls hl => ?_)
  refine lv_goto (tgt := 37) hx hb dX12_text_53 (by decide) ?_
  refine lv_iload_n hx hb dX12_text_37 rfl (lv_at hl 0 rfl) ?_
  refine lv_bipush (v := 28) hx hb dX12_text_38 (by decide) ?_
  refine lv_icmp_ge (tgt := 56) hx hb dX12_text_40 (by decide) (fun h9 => absurd h9 (by decide)) (fun _ => ?_)
  refine lv_aload_n hx hb dX12_text_43 rfl (lv_at hl 1 rfl) ?_
  refine va_get (D := D) (ci := 12) (v := .ref h2) (C := RX12) (T := TX12) (N := 38) hx hb hB inB_X12 hown hK.1 hP 0 rfl rfl 15 (by decide) (hB _ mw_190) (fun _ h9 => h9) rfl dX12_text_44 ?_
  refine lv_iload_n hx hb dX12_text_47 rfl (lv_at hl 0 rfl) ?_
  refine lv_iconst (v := 0) hx hb dX12_text_48 (by decide) ?_
  refine wy_zast hx hb hK hP hD hS 1 3 rfl rfl (by unfold vp_in; decide) dX12_text_49 (j := 3) (by decide) (y := 0) (by decide) (ws' := [(h0, .inr (12, [v0, .ref h3, v1, v2, v3, .int 0, v4, .int 0, .int 0, v7, v8, v9, .int 0, .int (-1), .ref h1, .ref h2, v12, v13, v14, v15, v16, v17, v18, v19, v20, v21, v22, v23, v24, v25, v26, v27, v28, v29, v30, v31, v32, v33])), (h2, .inl (ty 3, 28, .inl (upd (upd (upd (upd f0 0 0) 1 0) 2 0) 3 0))), (h3, .inl (ty 1, 304, .inl f1)), (h1, .inl (ty 1, 304, .inl (upd (upd (kf 0) 1 2) 4 (-1))))]) rfl (fun H locs hP hD hS => ?_)
  refine lv_iinc (v := 4) (lv' := [(1, .int 4), (0, .ref h0)]) hx hb dX12_text_50 hl (k := 0) rfl (by decide) (by decide) rfl (fun ls hl => ?_)
  refine lv_goto (tgt := 37) hx hb dX12_text_53 (by decide) ?_
  refine lv_iload_n hx hb dX12_text_37 rfl (lv_at hl 0 rfl) ?_
  refine lv_bipush (v := 28) hx hb dX12_text_38 (by decide) ?_
  refine lv_icmp_ge (tgt := 56) hx hb dX12_text_40 (by decide) (fun h9 => absurd h9 (by decide)) (fun _ => ?_)
  refine lv_aload_n hx hb dX12_text_43 rfl (lv_at hl 1 rfl) ?_
  refine va_get (D := D) (ci := 12) (v := .ref h2) (C := RX12) (T := TX12) (N := 38) hx hb hB inB_X12 hown hK.1 hP 0 rfl rfl 15 (by decide) (hB _ mw_190) (fun _ h9 => h9) rfl dX12_text_44 ?_
  refine lv_iload_n hx hb dX12_text_47 rfl (lv_at hl 0 rfl) ?_
  refine lv_iconst (v := 0) hx hb dX12_text_48 (by decide) ?_
  refine wy_zast hx hb hK hP hD hS 1 3 rfl rfl (by unfold vp_in; decide) dX12_text_49 (j := 4) (by decide) (y := 0) (by decide) (ws' := [(h0, .inr (12, [v0, .ref h3, v1, v2, v3, .int 0, v4, .int 0, .int 0, v7, v8, v9, .int 0, .int (-1), .ref h1, .ref h2, v12, v13, v14, v15, v16, v17, v18, v19, v20, v21, v22, v23, v24, v25, v26, v27, v28, v29, v30, v31, v32, v33])), (h2, .inl (ty 3, 28, .inl (upd (upd (upd (upd (upd f0 0 0) 1 0) 2 0) 3 0) 4 0))), (h3, .inl (ty 1, 304, .inl f1)), (h1, .inl (ty 1, 304, .inl (upd (upd (kf 0) 1 2) 4 (-1))))]) rfl (fun H locs hP hD hS => ?_)
  refine lv_iinc (v := 5) (lv' := [(1, .int 5), (0, .ref h0)]) hx hb dX12_text_50 hl (k := 0) rfl (by decide) (by decide) rfl (fun ls hl => ?_)
  refine lv_goto (tgt := 37) hx hb dX12_text_53 (by decide) ?_
  refine lv_iload_n hx hb dX12_text_37 rfl (lv_at hl 0 rfl) ?_
  refine lv_bipush (v := 28) hx hb dX12_text_38 (by decide) ?_
  refine lv_icmp_ge (tgt := 56) hx hb dX12_text_40 (by decide) (fun h9 => absurd h9 (by decide)) (fun _ => ?_)
  refine lv_aload_n hx hb dX12_text_43 rfl (lv_at hl 1 rfl) ?_
  refine va_get (D := D) (ci := 12) (v := .ref h2) (C := RX12) (T := TX12) (N := 38) hx hb hB inB_X12 hown hK.1 hP 0 rfl rfl 15 (by decide) (hB _ mw_190) (fun _ h9 => h9) rfl dX12_text_44 ?_
  refine lv_iload_n hx hb dX12_text_47 rfl (lv_at hl 0 rfl) ?_
  refine lv_iconst (v := 0) hx hb dX12_text_48 (by decide) ?_
  refine wy_zast hx hb hK hP hD hS 1 3 rfl rfl (by unfold vp_in; decide) dX12_text_49 (j := 5) (by decide) (y := 0) (by decide) (ws' := [(h0, .inr (12, [v0, .ref h3, v1, v2, v3, .int 0, v4, .int 0, .int 0, v7, v8, v9, .int 0, .int (-1), .ref h1, .ref h2, v12, v13, v14, v15, v16, v17, v18, v19, v20, v21, v22, v23, v24, v25, v26, v27, v28, v29, v30, v31, v32, v33])), (h2, .inl (ty 3, 28, .inl (upd (upd (upd (upd (upd (upd f0 0 0) 1 0) 2 0) 3 0) 4 0) 5 0))), (h3, .inl (ty 1, 304, .inl f1)), (h1, .inl (ty 1, 304, .inl (upd (upd (kf 0) 1 2) 4 (-1))))]) rfl (fun H locs hP hD hS => ?_)
  refine lv_iinc (v := 6) (lv' := [(1, .int 6), (0, .ref h0)]) hx hb dX12_text_50 hl (k := 0) rfl (by decide) (by decide) rfl (fun ls hl => ?_)
  refine lv_goto (tgt := 37) hx hb dX12_text_53 (by decide) ?_
  refine lv_iload_n hx hb dX12_text_37 rfl (lv_at hl 0 rfl) ?_
  refine lv_bipush (v := 28) hx hb dX12_text_38 (by decide) ?_
  refine lv_icmp_ge (tgt := 56) hx hb dX12_text_40 (by decide) (fun h9 => absurd h9 (by decide)) (fun _ => ?_)
  refine lv_aload_n hx hb dX12_text_43 rfl (lv_at hl 1 rfl) ?_
  refine va_get (D := D) (ci := 12) (v := .ref h2) (C := RX12) (T := TX12) (N := 38) hx hb hB inB_X12 hown hK.1 hP 0 rfl rfl 15 (by decide) (hB _ mw_190) (fun _ h9 => h9) rfl dX12_text_44 ?_
  refine lv_iload_n hx hb dX12_text_47 rfl (lv_at hl 0 rfl) ?_
  refine lv_iconst (v := 0) hx hb dX12_text_48 (by decide) ?_
  refine wy_zast hx hb hK hP hD hS 1 3 rfl rfl (by unfold vp_in; decide) dX12_text_49 (j := 6) (by decide) (y := 0) (by decide) (ws' := [(h0, .inr (12, [v0, .ref h3, v1, v2, v3, .int 0, v4, .int 0, .int 0, v7, v8, v9, .int 0, .int (-1), .ref h1, .ref h2, v12, v13, v14, v15, v16, v17, v18, v19, v20, v21, v22, v23, v24, v25, v26, v27, v28, v29, v30, v31, v32, v33])), (h2, .inl (ty 3, 28, .inl (upd (upd (upd (upd (upd (upd (upd f0 0 0) 1 0) 2 0) 3 0) 4 0) 5 0) 6 0))), (h3, .inl (ty 1, 304, .inl f1)), (h1, .inl (ty 1, 304, .inl (upd (upd (kf 0) 1 2) 4 (-1))))]) rfl (fun H locs hP hD hS => ?_)
  refine lv_iinc (v := 7) (lv' := [(1, .int 7), (0, .ref h0)]) hx hb dX12_text_50 hl (k := 0) rfl (by decide) (by decide) rfl (fun ls hl => ?_)
  refine lv_goto (tgt := 37) hx hb dX12_text_53 (by decide) ?_
  refine lv_iload_n hx hb dX12_text_37 rfl (lv_at hl 0 rfl) ?_
  refine lv_bipush (v := 28) hx hb dX12_text_38 (by decide) ?_
  refine lv_icmp_ge (tgt := 56) hx hb dX12_text_40 (by decide) (fun h9 => absurd h9 (by decide)) (fun _ => ?_)
  refine lv_aload_n hx hb dX12_text_43 rfl (lv_at hl 1 rfl) ?_
  refine va_get (D := D) (ci := 12) (v := .ref h2) (C := RX12) (T := TX12) (N := 38) hx hb hB inB_X12 hown hK.1 hP 0 rfl rfl 15 (by decide) (hB _ mw_190) (fun _ h9 => h9) rfl dX12_text_44 ?_
  refine lv_iload_n hx hb dX12_text_47 rfl (lv_at hl 0 rfl) ?_
  refine lv_iconst (v := 0) hx hb dX12_text_48 (by decide) ?_
  refine wy_zast hx hb hK hP hD hS 1 3 rfl rfl (by unfold vp_in; decide) dX12_text_49 (j := 7) (by decide) (y := 0) (by decide) (ws' := [(h0, .inr (12, [v0, .ref h3, v1, v2, v3, .int 0, v4, .int 0, .int 0, v7, v8, v9, .int 0, .int (-1), .ref h1, .ref h2, v12, v13, v14, v15, v16, v17, v18, v19, v20, v21, v22, v23, v24, v25, v26, v27, v28, v29, v30, v31, v32, v33])), (h2, .inl (ty 3, 28, .inl (upd (upd (upd (upd (upd (upd (upd (upd f0 0 0) 1 0) 2 0) 3 0) 4 0) 5 0) 6 0) 7 0))), (h3, .inl (ty 1, 304, .inl f1)), (h1, .inl (ty 1, 304, .inl (upd (upd (kf 0) 1 2) 4 (-1))))]) rfl (fun H locs hP hD hS => ?_)
  refine lv_iinc (v := 8) (lv' := [(1, .int 8), (0, .ref h0)]) hx hb dX12_text_50 hl (k := 0) rfl (by decide) (by decide) rfl (fun ls hl => ?_)
  refine lv_goto (tgt := 37) hx hb dX12_text_53 (by decide) ?_
  refine lv_iload_n hx hb dX12_text_37 rfl (lv_at hl 0 rfl) ?_
  refine lv_bipush (v := 28) hx hb dX12_text_38 (by decide) ?_
  refine lv_icmp_ge (tgt := 56) hx hb dX12_text_40 (by decide) (fun h9 => absurd h9 (by decide)) (fun _ => ?_)
  refine lv_aload_n hx hb dX12_text_43 rfl (lv_at hl 1 rfl) ?_
  refine va_get (D := D) (ci := 12) (v := .ref h2) (C := RX12) (T := TX12) (N := 38) hx hb hB inB_X12 hown hK.1 hP 0 rfl rfl 15 (by decide) (hB _ mw_190) (fun _ h9 => h9) rfl dX12_text_44 ?_
  refine lv_iload_n hx hb dX12_text_47 rfl (lv_at hl 0 rfl) ?_
  refine lv_iconst (v := 0) hx hb dX12_text_48 (by decide) ?_
  refine wy_zast hx hb hK hP hD hS 1 3 rfl rfl (by unfold vp_in; decide) dX12_text_49 (j := 8) (by decide) (y := 0) (by decide) (ws' := [(h0, .inr (12, [v0, .ref h3, v1, v2, v3, .int 0, v4, .int 0, .int 0, v7, v8, v9, .int 0, .int (-1), .ref h1, .ref h2, v12, v13, v14, v15, v16, v17, v18, v19, v20, v21, v22, v23, v24, v25, v26, v27, v28, v29, v30, v31, v32, v33])), (h2, .inl (ty 3, 28, .inl (upd (upd (upd (upd (upd (upd (upd (upd (upd f0 0 0) 1 0) 2 0) 3 0) 4 0) 5 0) 6 0) 7 0) 8 0))), (h3, .inl (ty 1, 304, .inl f1)), (h1, .inl (ty 1, 304, .inl (upd (upd (kf 0) 1 2) 4 (-1))))]) rfl (fun H locs hP hD hS => ?_)
  refine lv_iinc (v := 9) (lv' := [(1, .int 9), (0, .ref h0)]) hx hb dX12_text_50 hl (k := 0) rfl (by decide) (by decide) rfl (fun ls hl => ?_)
  refine lv_goto (tgt := 37) hx hb dX12_text_53 (by decide) ?_
  refine lv_iload_n hx hb dX12_text_37 rfl (lv_at hl 0 rfl) ?_
  refine lv_bipush (v := 28) hx hb dX12_text_38 (by decide) ?_
  refine lv_icmp_ge (tgt := 56) hx hb dX12_text_40 (by decide) (fun h9 => absurd h9 (by decide)) (fun _ => ?_)
  refine lv_aload_n hx hb dX12_text_43 rfl (lv_at hl 1 rfl) ?_
  refine va_get (D := D) (ci := 12) (v := .ref h2) (C := RX12) (T := TX12) (N := 38) hx hb hB inB_X12 hown hK.1 hP 0 rfl rfl 15 (by decide) (hB _ mw_190) (fun _ h9 => h9) rfl dX12_text_44 ?_
  refine lv_iload_n hx hb dX12_text_47 rfl (lv_at hl 0 rfl) ?_
  refine lv_iconst (v := 0) hx hb dX12_text_48 (by decide) ?_
  refine wy_zast hx hb hK hP hD hS 1 3 rfl rfl (by unfold vp_in; decide) dX12_text_49 (j := 9) (by decide) (y := 0) (by decide) (ws' := [(h0, .inr (12, [v0, .ref h3, v1, v2, v3, .int 0, v4, .int 0, .int 0, v7, v8, v9, .int 0, .int (-1), .ref h1, .ref h2, v12, v13, v14, v15, v16, v17, v18, v19, v20, v21, v22, v23, v24, v25, v26, v27, v28, v29, v30, v31, v32, v33])), (h2, .inl (ty 3, 28, .inl (upd (upd (upd (upd (upd (upd (upd (upd (upd (upd f0 0 0) 1 0) 2 0) 3 0) 4 0) 5 0) 6 0) 7 0) 8 0) 9 0))), (h3, .inl (ty 1, 304, .inl f1)), (h1, .inl (ty 1, 304, .inl (upd (upd (kf 0) 1 2) 4 (-1))))]) rfl (fun H locs hP hD hS => ?_)
  refine lv_iinc (v := 10) (lv' := [(1, .int 10), (0, .ref h0)]) hx hb dX12_text_50 hl (k := 0) rfl (by decide) (by decide) rfl (fun ls hl => ?_)
  refine lv_goto (tgt := 37) hx hb dX12_text_53 (by decide) ?_
  refine lv_iload_n hx hb dX12_text_37 rfl (lv_at hl 0 rfl) ?_
  refine lv_bipush (v := 28) hx hb dX12_text_38 (by decide) ?_
  refine lv_icmp_ge (tgt := 56) hx hb dX12_text_40 (by decide) (fun h9 => absurd h9 (by decide)) (fun _ => ?_)
  refine lv_aload_n hx hb dX12_text_43 rfl (lv_at hl 1 rfl) ?_
  refine va_get (D := D) (ci := 12) (v := .ref h2) (C := RX12) (T := TX12) (N := 38) hx hb hB inB_X12 hown hK.1 hP 0 rfl rfl 15 (by decide) (hB _ mw_190) (fun _ h9 => h9) rfl dX12_text_44 ?_
  refine lv_iload_n hx hb dX12_text_47 rfl (lv_at hl 0 rfl) ?_
  refine lv_iconst (v := 0) hx hb dX12_text_48 (by decide) ?_
  refine wy_zast hx hb hK hP hD hS 1 3 rfl rfl (by unfold vp_in; decide) dX12_text_49 (j := 10) (by decide) (y := 0) (by decide) (ws' := [(h0, .inr (12, [v0, .ref h3, v1, v2, v3, .int 0, v4, .int 0, .int 0, v7, v8, v9, .int 0, .int (-1), .ref h1, .ref h2, v12, v13, v14, v15, v16, v17, v18, v19, v20, v21, v22, v23, v24, v25, v26, v27, v28, v29, v30, v31, v32, v33])), (h2, .inl (ty 3, 28, .inl (upd (upd (upd (upd (upd (upd (upd (upd (upd (upd (upd f0 0 0) 1 0) 2 0) 3 0) 4 0) 5 0) 6 0) 7 0) 8 0) 9 0) 10 0))), (h3, .inl (ty 1, 304, .inl f1)), (h1, .inl (ty 1, 304, .inl (upd (upd (kf 0) 1 2) 4 (-1))))]) rfl (fun H locs hP hD hS => ?_)
  refine lv_iinc (v := 11) (lv' := [(1, .int 11), (0, .ref h0)]) hx hb dX12_text_50 hl (k := 0) rfl (by decide) (by decide) rfl (fun ls hl => ?_)
  refine lv_goto (tgt := 37) hx hb dX12_text_53 (by decide) ?_
  refine lv_iload_n hx hb dX12_text_37 rfl (lv_at hl 0 rfl) ?_
  refine lv_bipush (v := 28) hx hb dX12_text_38 (by decide) ?_
  refine lv_icmp_ge (tgt := 56) hx hb dX12_text_40 (by decide) (fun h9 => absurd h9 (by decide)) (fun _ => ?_)
  refine lv_aload_n hx hb dX12_text_43 rfl (lv_at hl 1 rfl) ?_
  refine va_get (D := D) (ci := 12) (v := .ref h2) (C := RX12) (T := TX12) (N := 38) hx hb hB inB_X12 hown hK.1 hP 0 rfl rfl 15 (by decide) (hB _ mw_190) (fun _ h9 => h9) rfl dX12_text_44 ?_
  refine lv_iload_n hx hb dX12_text_47 rfl (lv_at hl 0 rfl) ?_
  refine lv_iconst (v := 0) hx hb dX12_text_48 (by decide) ?_
  refine wy_zast hx hb hK hP hD hS 1 3 rfl rfl (by unfold vp_in; decide) dX12_text_49 (j := 11) (by decide) (y := 0) (by decide) (ws' := [(h0, .inr (12, [v0, .ref h3, v1, v2, v3, .int 0, v4, .int 0, .int 0, v7, v8, v9, .int 0, .int (-1), .ref h1, .ref h2, v12, v13, v14, v15, v16, v17, v18, v19, v20, v21, v22, v23, v24, v25, v26, v27, v28, v29, v30, v31, v32, v33])), (h2, .inl (ty 3, 28, .inl (upd (upd (upd (upd (upd (upd (upd (upd (upd (upd (upd (upd f0 0 0) 1 0) 2 0) 3 0) 4 0) 5 0) 6 0) 7 0) 8 0) 9 0) 10 0) 11 0))), (h3, .inl (ty 1, 304, .inl f1)), (h1, .inl (ty 1, 304, .inl (upd (upd (kf 0) 1 2) 4 (-1))))]) rfl (fun H locs hP hD hS => ?_)
  refine lv_iinc (v := 12) (lv' := [(1, .int 12), (0, .ref h0)]) hx hb dX12_text_50 hl (k := 0) rfl (by decide) (by decide) rfl (fun ls hl => ?_)
  refine lv_goto (tgt := 37) hx hb dX12_text_53 (by decide) ?_
  refine lv_iload_n hx hb dX12_text_37 rfl (lv_at hl 0 rfl) ?_
  refine lv_bipush (v := 28) hx hb dX12_text_38 (by decide) ?_
  refine lv_icmp_ge (tgt := 56) hx hb dX12_text_40 (by decide) (fun h9 => absurd h9 (by decide)) (fun _ => ?_)
  refine lv_aload_n hx hb dX12_text_43 rfl (lv_at hl 1 rfl) ?_
  refine va_get (D := D) (ci := 12) (v := .ref h2) (C := RX12) (T := TX12) (N := 38) hx hb hB inB_X12 hown hK.1 hP 0 rfl rfl 15 (by decide) (hB _ mw_190) (fun _ h9 => h9) rfl dX12_text_44 ?_
  refine lv_iload_n hx hb dX12_text_47 rfl (lv_at hl 0 rfl) ?_
  refine lv_iconst (v := 0) hx hb dX12_text_48 (by decide) ?_
  refine wy_zast hx hb hK hP hD hS 1 3 rfl rfl (by unfold vp_in; decide) dX12_text_49 (j := 12) (by decide) (y := 0) (by decide) (ws' := [(h0, .inr (12, [v0, .ref h3, v1, v2, v3, .int 0, v4, .int 0, .int 0, v7, v8, v9, .int 0, .int (-1), .ref h1, .ref h2, v12, v13, v14, v15, v16, v17, v18, v19, v20, v21, v22, v23, v24, v25, v26, v27, v28, v29, v30, v31, v32, v33])), (h2, .inl (ty 3, 28, .inl (upd (upd (upd (upd (upd (upd (upd (upd (upd (upd (upd (upd (upd f0 0 0) 1 0) 2 0) 3 0) 4 0) 5 0) 6 0) 7 0) 8 0) 9 0) 10 0) 11 0) 12 0))), (h3, .inl (ty 1, 304, .inl f1)), (h1, .inl (ty 1, 304, .inl (upd (upd (kf 0) 1 2) 4 (-1))))]) rfl (fun H locs hP hD hS => ?_)
  refine lv_iinc (v := 13) (lv' := [(1, .int 13), (0, .ref h0)]) hx hb dX12_text_50 hl (k := 0) rfl (by decide) (by decide) rfl (fun ls hl => ?_)
  refine lv_goto (tgt := 37) hx hb dX12_text_53 (by decide) ?_
  refine lv_iload_n hx hb dX12_text_37 rfl (lv_at hl 0 rfl) ?_
  refine lv_bipush (v := 28) hx hb dX12_text_38 (by decide) ?_
  refine lv_icmp_ge (tgt := 56) hx hb dX12_text_40 (by decide) (fun h9 => absurd h9 (by decide)) (fun _ => ?_)
  refine lv_aload_n hx hb dX12_text_43 rfl (lv_at hl 1 rfl) ?_
  refine va_get (D := D) (ci := 12) (v := .ref h2) (C := RX12) (T := TX12) (N := 38) hx hb hB inB_X12 hown hK.1 hP 0 rfl rfl 15 (by decide) (hB _ mw_190) (fun _ h9 => h9) rfl dX12_text_44 ?_
  refine lv_iload_n hx hb dX12_text_47 rfl (lv_at hl 0 rfl) ?_
  refine lv_iconst (v := 0) hx hb dX12_text_48 (by decide) ?_
  refine wy_zast hx hb hK hP hD hS 1 3 rfl rfl (by unfold vp_in; decide) dX12_text_49 (j := 13) (by decide) (y := 0) (by decide) (ws' := [(h0, .inr (12, [v0, .ref h3, v1, v2, v3, .int 0, v4, .int 0, .int 0, v7, v8, v9, .int 0, .int (-1), .ref h1, .ref h2, v12, v13, v14, v15, v16, v17, v18, v19, v20, v21, v22, v23, v24, v25, v26, v27, v28, v29, v30, v31, v32, v33])), (h2, .inl (ty 3, 28, .inl (upd (upd (upd (upd (upd (upd (upd (upd (upd (upd (upd (upd (upd (upd f0 0 0) 1 0) 2 0) 3 0) 4 0) 5 0) 6 0) 7 0) 8 0) 9 0) 10 0) 11 0) 12 0) 13 0))), (h3, .inl (ty 1, 304, .inl f1)), (h1, .inl (ty 1, 304, .inl (upd (upd (kf 0) 1 2) 4 (-1))))]) rfl (fun H locs hP hD hS => ?_)
  refine lv_iinc (v := 14) (lv' := [(1, .int 14), (0, .ref h0)]) hx hb dX12_text_50 hl (k := 0) rfl (by decide) (by decide) rfl (fun ls hl => ?_)
  refine lv_goto (tgt := 37) hx hb dX12_text_53 (by decide) ?_
  refine lv_iload_n hx hb dX12_text_37 rfl (lv_at hl 0 rfl) ?_
  refine lv_bipush (v := 28) hx hb dX12_text_38 (by decide) ?_
  refine lv_icmp_ge (tgt := 56) hx hb dX12_text_40 (by decide) (fun h9 => absurd h9 (by decide)) (fun _ => ?_)
  refine lv_aload_n hx hb dX12_text_43 rfl (lv_at hl 1 rfl) ?_
  refine va_get (D := D) (ci := 12) (v := .ref h2) (C := RX12) (T := TX12) (N := 38) hx hb hB inB_X12 hown hK.1 hP 0 rfl rfl 15 (by decide) (hB _ mw_190) (fun _ h9 => h9) rfl dX12_text_44 ?_
  refine lv_iload_n hx hb dX12_text_47 rfl (lv_at hl 0 rfl) ?_
  refine lv_iconst (v := 0) hx hb dX12_text_48 (by decide) ?_
  refine wy_zast hx hb hK hP hD hS 1 3 rfl rfl (by unfold vp_in; decide) dX12_text_49 (j := 14) (by decide) (y := 0) (by decide) (ws' := [(h0, .inr (12, [v0, .ref h3, v1, v2, v3, .int 0, v4, .int 0, .int 0, v7, v8, v9, .int 0, .int (-1), .ref h1, .ref h2, v12, v13, v14, v15, v16, v17, v18, v19, v20, v21, v22, v23, v24, v25, v26, v27, v28, v29, v30, v31, v32, v33])), (h2, .inl (ty 3, 28, .inl (upd (upd (upd (upd (upd (upd (upd (upd (upd (upd (upd (upd (upd (upd (upd f0 0 0) 1 0) 2 0) 3 0) 4 0) 5 0) 6 0) 7 0) 8 0) 9 0) 10 0) 11 0) 12 0) 13 0) 14 0))), (h3, .inl (ty 1, 304, .inl f1)), (h1, .inl (ty 1, 304, .inl (upd (upd (kf 0) 1 2) 4 (-1))))]) rfl (fun H locs hP hD hS => ?_)
  refine lv_iinc (v := 15) (lv' := [(1, .int 15), (0, .ref h0)]) hx hb dX12_text_50 hl (k := 0) rfl (by decide) (by decide) rfl (fun ls hl => ?_)
  refine lv_goto (tgt := 37) hx hb dX12_text_53 (by decide) ?_
  refine lv_iload_n hx hb dX12_text_37 rfl (lv_at hl 0 rfl) ?_
  refine lv_bipush (v := 28) hx hb dX12_text_38 (by decide) ?_
  refine lv_icmp_ge (tgt := 56) hx hb dX12_text_40 (by decide) (fun h9 => absurd h9 (by decide)) (fun _ => ?_)
  refine lv_aload_n hx hb dX12_text_43 rfl (lv_at hl 1 rfl) ?_
  refine va_get (D := D) (ci := 12) (v := .ref h2) (C := RX12) (T := TX12) (N := 38) hx hb hB inB_X12 hown hK.1 hP 0 rfl rfl 15 (by decide) (hB _ mw_190) (fun _ h9 => h9) rfl dX12_text_44 ?_
  refine lv_iload_n hx hb dX12_text_47 rfl (lv_at hl 0 rfl) ?_
  refine lv_iconst (v := 0) hx hb dX12_text_48 (by decide) ?_
  refine wy_zast hx hb hK hP hD hS 1 3 rfl rfl (by unfold vp_in; decide) dX12_text_49 (j := 15) (by decide) (y := 0) (by decide) (ws' := [(h0, .inr (12, [v0, .ref h3, v1, v2, v3, .int 0, v4, .int 0, .int 0, v7, v8, v9, .int 0, .int (-1), .ref h1, .ref h2, v12, v13, v14, v15, v16, v17, v18, v19, v20, v21, v22, v23, v24, v25, v26, v27, v28, v29, v30, v31, v32, v33])), (h2, .inl (ty 3, 28, .inl (upd (upd (upd (upd (upd (upd (upd (upd (upd (upd (upd (upd (upd (upd (upd (upd f0 0 0) 1 0) 2 0) 3 0) 4 0) 5 0) 6 0) 7 0) 8 0) 9 0) 10 0) 11 0) 12 0) 13 0) 14 0) 15 0))), (h3, .inl (ty 1, 304, .inl f1)), (h1, .inl (ty 1, 304, .inl (upd (upd (kf 0) 1 2) 4 (-1))))]) rfl (fun H locs hP hD hS => ?_)
  refine lv_iinc (v := 16) (lv' := [(1, .int 16), (0, .ref h0)]) hx hb dX12_text_50 hl (k := 0) rfl (by decide) (by decide) rfl (fun ls hl => ?_)
  refine lv_goto (tgt := 37) hx hb dX12_text_53 (by decide) ?_
  refine lv_iload_n hx hb dX12_text_37 rfl (lv_at hl 0 rfl) ?_
  refine lv_bipush (v := 28) hx hb dX12_text_38 (by decide) ?_
  refine lv_icmp_ge (tgt := 56) hx hb dX12_text_40 (by decide) (fun h9 => absurd h9 (by decide)) (fun _ => ?_)
  refine lv_aload_n hx hb dX12_text_43 rfl (lv_at hl 1 rfl) ?_
  refine va_get (D := D) (ci := 12) (v := .ref h2) (C := RX12) (T := TX12) (N := 38) hx hb hB inB_X12 hown hK.1 hP 0 rfl rfl 15 (by decide) (hB _ mw_190) (fun _ h9 => h9) rfl dX12_text_44 ?_
  refine lv_iload_n hx hb dX12_text_47 rfl (lv_at hl 0 rfl) ?_
  refine lv_iconst (v := 0) hx hb dX12_text_48 (by decide) ?_
  refine wy_zast hx hb hK hP hD hS 1 3 rfl rfl (by unfold vp_in; decide) dX12_text_49 (j := 16) (by decide) (y := 0) (by decide) (ws' := [(h0, .inr (12, [v0, .ref h3, v1, v2, v3, .int 0, v4, .int 0, .int 0, v7, v8, v9, .int 0, .int (-1), .ref h1, .ref h2, v12, v13, v14, v15, v16, v17, v18, v19, v20, v21, v22, v23, v24, v25, v26, v27, v28, v29, v30, v31, v32, v33])), (h2, .inl (ty 3, 28, .inl (upd (upd (upd (upd (upd (upd (upd (upd (upd (upd (upd (upd (upd (upd (upd (upd (upd f0 0 0) 1 0) 2 0) 3 0) 4 0) 5 0) 6 0) 7 0) 8 0) 9 0) 10 0) 11 0) 12 0) 13 0) 14 0) 15 0) 16 0))), (h3, .inl (ty 1, 304, .inl f1)), (h1, .inl (ty 1, 304, .inl (upd (upd (kf 0) 1 2) 4 (-1))))]) rfl (fun H locs hP hD hS => ?_)
  refine lv_iinc (v := 17) (lv' := [(1, .int 17), (0, .ref h0)]) hx hb dX12_text_50 hl (k := 0) rfl (by decide) (by decide) rfl (fun ls hl => ?_)
  refine lv_goto (tgt := 37) hx hb dX12_text_53 (by decide) ?_
  refine lv_iload_n hx hb dX12_text_37 rfl (lv_at hl 0 rfl) ?_
  refine lv_bipush (v := 28) hx hb dX12_text_38 (by decide) ?_
  refine lv_icmp_ge (tgt := 56) hx hb dX12_text_40 (by decide) (fun h9 => absurd h9 (by decide)) (fun _ => ?_)
  refine lv_aload_n hx hb dX12_text_43 rfl (lv_at hl 1 rfl) ?_
  refine va_get (D := D) (ci := 12) (v := .ref h2) (C := RX12) (T := TX12) (N := 38) hx hb hB inB_X12 hown hK.1 hP 0 rfl rfl 15 (by decide) (hB _ mw_190) (fun _ h9 => h9) rfl dX12_text_44 ?_
  refine lv_iload_n hx hb dX12_text_47 rfl (lv_at hl 0 rfl) ?_
  refine lv_iconst (v := 0) hx hb dX12_text_48 (by decide) ?_
  refine wy_zast hx hb hK hP hD hS 1 3 rfl rfl (by unfold vp_in; decide) dX12_text_49 (j := 17) (by decide) (y := 0) (by decide) (ws' := [(h0, .inr (12, [v0, .ref h3, v1, v2, v3, .int 0, v4, .int 0, .int 0, v7, v8, v9, .int 0, .int (-1), .ref h1, .ref h2, v12, v13, v14, v15, v16, v17, v18, v19, v20, v21, v22, v23, v24, v25, v26, v27, v28, v29, v30, v31, v32, v33])), (h2, .inl (ty 3, 28, .inl (upd (upd (upd (upd (upd (upd (upd (upd (upd (upd (upd (upd (upd (upd (upd (upd (upd (upd f0 0 0) 1 0) 2 0) 3 0) 4 0) 5 0) 6 0) 7 0) 8 0) 9 0) 10 0) 11 0) 12 0) 13 0) 14 0) 15 0) 16 0) 17 0))), (h3, .inl (ty 1, 304, .inl f1)), (h1, .inl (ty 1, 304, .inl (upd (upd (kf 0) 1 2) 4 (-1))))]) rfl (fun H locs hP hD hS => ?_)
  refine lv_iinc (v := 18) (lv' := [(1, .int 18), (0, .ref h0)]) hx hb dX12_text_50 hl (k := 0) rfl (by decide) (by decide) rfl (fun ls hl => ?_)
  refine lv_goto (tgt := 37) hx hb dX12_text_53 (by decide) ?_
  refine lv_iload_n hx hb dX12_text_37 rfl (lv_at hl 0 rfl) ?_
  refine lv_bipush (v := 28) hx hb dX12_text_38 (by decide) ?_
  refine lv_icmp_ge (tgt := 56) hx hb dX12_text_40 (by decide) (fun h9 => absurd h9 (by decide)) (fun _ => ?_)
  refine lv_aload_n hx hb dX12_text_43 rfl (lv_at hl 1 rfl) ?_
  refine va_get (D := D) (ci := 12) (v := .ref h2) (C := RX12) (T := TX12) (N := 38) hx hb hB inB_X12 hown hK.1 hP 0 rfl rfl 15 (by decide) (hB _ mw_190) (fun _ h9 => h9) rfl dX12_text_44 ?_
  refine lv_iload_n hx hb dX12_text_47 rfl (lv_at hl 0 rfl) ?_
  refine lv_iconst (v := 0) hx hb dX12_text_48 (by decide) ?_
  refine wy_zast hx hb hK hP hD hS 1 3 rfl rfl (by unfold vp_in; decide) dX12_text_49 (j := 18) (by decide) (y := 0) (by decide) (ws' := [(h0, .inr (12, [v0, .ref h3, v1, v2, v3, .int 0, v4, .int 0, .int 0, v7, v8, v9, .int 0, .int (-1), .ref h1, .ref h2, v12, v13, v14, v15, v16, v17, v18, v19, v20, v21, v22, v23, v24, v25, v26, v27, v28, v29, v30, v31, v32, v33])), (h2, .inl (ty 3, 28, .inl (upd (upd (upd (upd (upd (upd (upd (upd (upd (upd (upd (upd (upd (upd (upd (upd (upd (upd (upd f0 0 0) 1 0) 2 0) 3 0) 4 0) 5 0) 6 0) 7 0) 8 0) 9 0) 10 0) 11 0) 12 0) 13 0) 14 0) 15 0) 16 0) 17 0) 18 0))), (h3, .inl (ty 1, 304, .inl f1)), (h1, .inl (ty 1, 304, .inl (upd (upd (kf 0) 1 2) 4 (-1))))]) rfl (fun H locs hP hD hS => ?_)
  refine lv_iinc (v := 19) (lv' := [(1, .int 19), (0, .ref h0)]) hx hb dX12_text_50 hl (k := 0) rfl (by decide) (by decide) rfl (fun ls hl => ?_)
  refine lv_goto (tgt := 37) hx hb dX12_text_53 (by decide) ?_
  refine lv_iload_n hx hb dX12_text_37 rfl (lv_at hl 0 rfl) ?_
  refine lv_bipush (v := 28) hx hb dX12_text_38 (by decide) ?_
  refine lv_icmp_ge (tgt := 56) hx hb dX12_text_40 (by decide) (fun h9 => absurd h9 (by decide)) (fun _ => ?_)
  refine lv_aload_n hx hb dX12_text_43 rfl (lv_at hl 1 rfl) ?_
  refine va_get (D := D) (ci := 12) (v := .ref h2) (C := RX12) (T := TX12) (N := 38) hx hb hB inB_X12 hown hK.1 hP 0 rfl rfl 15 (by decide) (hB _ mw_190) (fun _ h9 => h9) rfl dX12_text_44 ?_
  refine lv_iload_n hx hb dX12_text_47 rfl (lv_at hl 0 rfl) ?_
  refine lv_iconst (v := 0) hx hb dX12_text_48 (by decide) ?_
  refine wy_zast hx hb hK hP hD hS 1 3 rfl rfl (by unfold vp_in; decide) dX12_text_49 (j := 19) (by decide) (y := 0) (by decide) (ws' := [(h0, .inr (12, [v0, .ref h3, v1, v2, v3, .int 0, v4, .int 0, .int 0, v7, v8, v9, .int 0, .int (-1), .ref h1, .ref h2, v12, v13, v14, v15, v16, v17, v18, v19, v20, v21, v22, v23, v24, v25, v26, v27, v28, v29, v30, v31, v32, v33])), (h2, .inl (ty 3, 28, .inl (upd (upd (upd (upd (upd (upd (upd (upd (upd (upd (upd (upd (upd (upd (upd (upd (upd (upd (upd (upd f0 0 0) 1 0) 2 0) 3 0) 4 0) 5 0) 6 0) 7 0) 8 0) 9 0) 10 0) 11 0) 12 0) 13 0) 14 0) 15 0) 16 0) 17 0) 18 0) 19 0))), (h3, .inl (ty 1, 304, .inl f1)), (h1, .inl (ty 1, 304, .inl (upd (upd (kf 0) 1 2) 4 (-1))))]) rfl (fun H locs hP hD hS => ?_)
  refine lv_iinc (v := 20) (lv' := [(1, .int 20), (0, .ref h0)]) hx hb dX12_text_50 hl (k := 0) rfl (by decide) (by decide) rfl (fun ls hl => ?_)
  refine lv_goto (tgt := 37) hx hb dX12_text_53 (by decide) ?_
  refine lv_iload_n hx hb dX12_text_37 rfl (lv_at hl 0 rfl) ?_
  refine lv_bipush (v := 28) hx hb dX12_text_38 (by decide) ?_
  refine lv_icmp_ge (tgt := 56) hx hb dX12_text_40 (by decide) (fun h9 => absurd h9 (by decide)) (fun _ => ?_)
  refine lv_aload_n hx hb dX12_text_43 rfl (lv_at hl 1 rfl) ?_
  refine va_get (D := D) (ci := 12) (v := .ref h2) (C := RX12) (T := TX12) (N := 38) hx hb hB inB_X12 hown hK.1 hP 0 rfl rfl 15 (by decide) (hB _ mw_190) (fun _ h9 => h9) rfl dX12_text_44 ?_
  refine lv_iload_n hx hb dX12_text_47 rfl (lv_at hl 0 rfl) ?_
  refine lv_iconst (v := 0) hx hb dX12_text_48 (by decide) ?_
  refine wy_zast hx hb hK hP hD hS 1 3 rfl rfl (by unfold vp_in; decide) dX12_text_49 (j := 20) (by decide) (y := 0) (by decide) (ws' := [(h0, .inr (12, [v0, .ref h3, v1, v2, v3, .int 0, v4, .int 0, .int 0, v7, v8, v9, .int 0, .int (-1), .ref h1, .ref h2, v12, v13, v14, v15, v16, v17, v18, v19, v20, v21, v22, v23, v24, v25, v26, v27, v28, v29, v30, v31, v32, v33])), (h2, .inl (ty 3, 28, .inl (upd (upd (upd (upd (upd (upd (upd (upd (upd (upd (upd (upd (upd (upd (upd (upd (upd (upd (upd (upd (upd f0 0 0) 1 0) 2 0) 3 0) 4 0) 5 0) 6 0) 7 0) 8 0) 9 0) 10 0) 11 0) 12 0) 13 0) 14 0) 15 0) 16 0) 17 0) 18 0) 19 0) 20 0))), (h3, .inl (ty 1, 304, .inl f1)), (h1, .inl (ty 1, 304, .inl (upd (upd (kf 0) 1 2) 4 (-1))))]) rfl (fun H locs hP hD hS => ?_)
  refine lv_iinc (v := 21) (lv' := [(1, .int 21), (0, .ref h0)]) hx hb dX12_text_50 hl (k := 0) rfl (by decide) (by decide) rfl (fun ls hl => ?_)
  refine lv_goto (tgt := 37) hx hb dX12_text_53 (by decide) ?_
  refine lv_iload_n hx hb dX12_text_37 rfl (lv_at hl 0 rfl) ?_
  refine lv_bipush (v := 28) hx hb dX12_text_38 (by decide) ?_
  refine lv_icmp_ge (tgt := 56) hx hb dX12_text_40 (by decide) (fun h9 => absurd h9 (by decide)) (fun _ => ?_)
  refine lv_aload_n hx hb dX12_text_43 rfl (lv_at hl 1 rfl) ?_
  refine va_get (D := D) (ci := 12) (v := .ref h2) (C := RX12) (T := TX12) (N := 38) hx hb hB inB_X12 hown hK.1 hP 0 rfl rfl 15 (by decide) (hB _ mw_190) (fun _ h9 => h9) rfl dX12_text_44 ?_
  refine lv_iload_n hx hb dX12_text_47 rfl (lv_at hl 0 rfl) ?_
  refine lv_iconst (v := 0) hx hb dX12_text_48 (by decide) ?_
  refine wy_zast hx hb hK hP hD hS 1 3 rfl rfl (by unfold vp_in; decide) dX12_text_49 (j := 21) (by decide) (y := 0) (by decide) (ws' := [(h0, .inr (12, [v0, .ref h3, v1, v2, v3, .int 0, v4, .int 0, .int 0, v7, v8, v9, .int 0, .int (-1), .ref h1, .ref h2, v12, v13, v14, v15, v16, v17, v18, v19, v20, v21, v22, v23, v24, v25, v26, v27, v28, v29, v30, v31, v32, v33])), (h2, .inl (ty 3, 28, .inl (upd (upd (upd (upd (upd (upd (upd (upd (upd (upd (upd (upd (upd (upd (upd (upd (upd (upd (upd (upd (upd (upd f0 0 0) 1 0) 2 0) 3 0) 4 0) 5 0) 6 0) 7 0) 8 0) 9 0) 10 0) 11 0) 12 0) 13 0) 14 0) 15 0) 16 0) 17 0) 18 0) 19 0) 20 0) 21 0))), (h3, .inl (ty 1, 304, .inl f1)), (h1, .inl (ty 1, 304, .inl (upd (upd (kf 0) 1 2) 4 (-1))))]) rfl (fun H locs hP hD hS => ?_)
  refine lv_iinc (v := 22) (lv' := [(1, .int 22), (0, .ref h0)]) hx hb dX12_text_50 hl (k := 0) rfl (by decide) (by decide) rfl (fun ls hl => ?_)
  refine lv_goto (tgt := 37) hx hb dX12_text_53 (by decide) ?_
  refine lv_iload_n hx hb dX12_text_37 rfl (lv_at hl 0 rfl) ?_
  refine lv_bipush (v := 28) hx hb dX12_text_38 (by decide) ?_
  refine lv_icmp_ge (tgt := 56) hx hb dX12_text_40 (by decide) (fun h9 => absurd h9 (by decide)) (fun _ => ?_)
  refine lv_aload_n hx hb dX12_text_43 rfl (lv_at hl 1 rfl) ?_
  refine va_get (D := D) (ci := 12) (v := .ref h2) (C := RX12) (T := TX12) (N := 38) hx hb hB inB_X12 hown hK.1 hP 0 rfl rfl 15 (by decide) (hB _ mw_190) (fun _ h9 => h9) rfl dX12_text_44 ?_
  refine lv_iload_n hx hb dX12_text_47 rfl (lv_at hl 0 rfl) ?_
  refine lv_iconst (v := 0) hx hb dX12_text_48 (by decide) ?_
  refine wy_zast hx hb hK hP hD hS 1 3 rfl rfl (by unfold vp_in; decide) dX12_text_49 (j := 22) (by decide) (y := 0) (by decide) (ws' := [(h0, .inr (12, [v0, .ref h3, v1, v2, v3, .int 0, v4, .int 0, .int 0, v7, v8, v9, .int 0, .int (-1), .ref h1, .ref h2, v12, v13, v14, v15, v16, v17, v18, v19, v20, v21, v22, v23, v24, v25, v26, v27, v28, v29, v30, v31, v32, v33])), (h2, .inl (ty 3, 28, .inl (upd (upd (upd (upd (upd (upd (upd (upd (upd (upd (upd (upd (upd (upd (upd (upd (upd (upd (upd (upd (upd (upd (upd f0 0 0) 1 0) 2 0) 3 0) 4 0) 5 0) 6 0) 7 0) 8 0) 9 0) 10 0) 11 0) 12 0) 13 0) 14 0) 15 0) 16 0) 17 0) 18 0) 19 0) 20 0) 21 0) 22 0))), (h3, .inl (ty 1, 304, .inl f1)), (h1, .inl (ty 1, 304, .inl (upd (upd (kf 0) 1 2) 4 (-1))))]) rfl (fun H locs hP hD hS => ?_)
  refine lv_iinc (v := 23) (lv' := [(1, .int 23), (0, .ref h0)]) hx hb dX12_text_50 hl (k := 0) rfl (by decide) (by decide) rfl (fun ls hl => ?_)
  refine lv_goto (tgt := 37) hx hb dX12_text_53 (by decide) ?_
  refine lv_iload_n hx hb dX12_text_37 rfl (lv_at hl 0 rfl) ?_
  refine lv_bipush (v := 28) hx hb dX12_text_38 (by decide) ?_
  refine lv_icmp_ge (tgt := 56) hx hb dX12_text_40 (by decide) (fun h9 => absurd h9 (by decide)) (fun _ => ?_)
  refine lv_aload_n hx hb dX12_text_43 rfl (lv_at hl 1 rfl) ?_
  refine va_get (D := D) (ci := 12) (v := .ref h2) (C := RX12) (T := TX12) (N := 38) hx hb hB inB_X12 hown hK.1 hP 0 rfl rfl 15 (by decide) (hB _ mw_190) (fun _ h9 => h9) rfl dX12_text_44 ?_
  refine lv_iload_n hx hb dX12_text_47 rfl (lv_at hl 0 rfl) ?_
  refine lv_iconst (v := 0) hx hb dX12_text_48 (by decide) ?_
  refine wy_zast hx hb hK hP hD hS 1 3 rfl rfl (by unfold vp_in; decide) dX12_text_49 (j := 23) (by decide) (y := 0) (by decide) (ws' := [(h0, .inr (12, [v0, .ref h3, v1, v2, v3, .int 0, v4, .int 0, .int 0, v7, v8, v9, .int 0, .int (-1), .ref h1, .ref h2, v12, v13, v14, v15, v16, v17, v18, v19, v20, v21, v22, v23, v24, v25, v26, v27, v28, v29, v30, v31, v32, v33])), (h2, .inl (ty 3, 28, .inl (upd (upd (upd (upd (upd (upd (upd (upd (upd (upd (upd (upd (upd (upd (upd (upd (upd (upd (upd (upd (upd (upd (upd (upd f0 0 0) 1 0) 2 0) 3 0) 4 0) 5 0) 6 0) 7 0) 8 0) 9 0) 10 0) 11 0) 12 0) 13 0) 14 0) 15 0) 16 0) 17 0) 18 0) 19 0) 20 0) 21 0) 22 0) 23 0))), (h3, .inl (ty 1, 304, .inl f1)), (h1, .inl (ty 1, 304, .inl (upd (upd (kf 0) 1 2) 4 (-1))))]) rfl (fun H locs hP hD hS => ?_)
  refine lv_iinc (v := 24) (lv' := [(1, .int 24), (0, .ref h0)]) hx hb dX12_text_50 hl (k := 0) rfl (by decide) (by decide) rfl (fun ls hl => ?_)
  refine lv_goto (tgt := 37) hx hb dX12_text_53 (by decide) ?_
  refine lv_iload_n hx hb dX12_text_37 rfl (lv_at hl 0 rfl) ?_
  refine lv_bipush (v := 28) hx hb dX12_text_38 (by decide) ?_
  refine lv_icmp_ge (tgt := 56) hx hb dX12_text_40 (by decide) (fun h9 => absurd h9 (by decide)) (fun _ => ?_)
  refine lv_aload_n hx hb dX12_text_43 rfl (lv_at hl 1 rfl) ?_
  refine va_get (D := D) (ci := 12) (v := .ref h2) (C := RX12) (T := TX12) (N := 38) hx hb hB inB_X12 hown hK.1 hP 0 rfl rfl 15 (by decide) (hB _ mw_190) (fun _ h9 => h9) rfl dX12_text_44 ?_
  refine lv_iload_n hx hb dX12_text_47 rfl (lv_at hl 0 rfl) ?_
  refine lv_iconst (v := 0) hx hb dX12_text_48 (by decide) ?_
  refine wy_zast hx hb hK hP hD hS 1 3 rfl rfl (by unfold vp_in; decide) dX12_text_49 (j := 24) (by decide) (y := 0) (by decide) (ws' := [(h0, .inr (12, [v0, .ref h3, v1, v2, v3, .int 0, v4, .int 0, .int 0, v7, v8, v9, .int 0, .int (-1), .ref h1, .ref h2, v12, v13, v14, v15, v16, v17, v18, v19, v20, v21, v22, v23, v24, v25, v26, v27, v28, v29, v30, v31, v32, v33])), (h2, .inl (ty 3, 28, .inl (upd (upd (upd (upd (upd (upd (upd (upd (upd (upd (upd (upd (upd (upd (upd (upd (upd (upd (upd (upd (upd (upd (upd (upd (upd f0 0 0) 1 0) 2 0) 3 0) 4 0) 5 0) 6 0) 7 0) 8 0) 9 0) 10 0) 11 0) 12 0) 13 0) 14 0) 15 0) 16 0) 17 0) 18 0) 19 0) 20 0) 21 0) 22 0) 23 0) 24 0))), (h3, .inl (ty 1, 304, .inl f1)), (h1, .inl (ty 1, 304, .inl (upd (upd (kf 0) 1 2) 4 (-1))))]) rfl (fun H locs hP hD hS => ?_)
  refine lv_iinc (v := 25) (lv' := [(1, .int 25), (0, .ref h0)]) hx hb dX12_text_50 hl (k := 0) rfl (by decide) (by decide) rfl (fun ls hl => ?_)
  refine lv_goto (tgt := 37) hx hb dX12_text_53 (by decide) ?_
  refine lv_iload_n hx hb dX12_text_37 rfl (lv_at hl 0 rfl) ?_
  refine lv_bipush (v := 28) hx hb dX12_text_38 (by decide) ?_
  refine lv_icmp_ge (tgt := 56) hx hb dX12_text_40 (by decide) (fun h9 => absurd h9 (by decide)) (fun _ => ?_)
  refine lv_aload_n hx hb dX12_text_43 rfl (lv_at hl 1 rfl) ?_
  refine va_get (D := D) (ci := 12) (v := .ref h2) (C := RX12) (T := TX12) (N := 38) hx hb hB inB_X12 hown hK.1 hP 0 rfl rfl 15 (by decide) (hB _ mw_190) (fun _ h9 => h9) rfl dX12_text_44 ?_
  refine lv_iload_n hx hb dX12_text_47 rfl (lv_at hl 0 rfl) ?_
  refine lv_iconst (v := 0) hx hb dX12_text_48 (by decide) ?_
  refine wy_zast hx hb hK hP hD hS 1 3 rfl rfl (by unfold vp_in; decide) dX12_text_49 (j := 25) (by decide) (y := 0) (by decide) (ws' := [(h0, .inr (12, [v0, .ref h3, v1, v2, v3, .int 0, v4, .int 0, .int 0, v7, v8, v9, .int 0, .int (-1), .ref h1, .ref h2, v12, v13, v14, v15, v16, v17, v18, v19, v20, v21, v22, v23, v24, v25, v26, v27, v28, v29, v30, v31, v32, v33])), (h2, .inl (ty 3, 28, .inl (upd (upd (upd (upd (upd (upd (upd (upd (upd (upd (upd (upd (upd (upd (upd (upd (upd (upd (upd (upd (upd (upd (upd (upd (upd (upd f0 0 0) 1 0) 2 0) 3 0) 4 0) 5 0) 6 0) 7 0) 8 0) 9 0) 10 0) 11 0) 12 0) 13 0) 14 0) 15 0) 16 0) 17 0) 18 0) 19 0) 20 0) 21 0) 22 0) 23 0) 24 0) 25 0))), (h3, .inl (ty 1, 304, .inl f1)), (h1, .inl (ty 1, 304, .inl (upd (upd (kf 0) 1 2) 4 (-1))))]) rfl (fun H locs hP hD hS => ?_)
  refine lv_iinc (v := 26) (lv' := [(1, .int 26), (0, .ref h0)]) hx hb dX12_text_50 hl (k := 0) rfl (by decide) (by decide) rfl (fun ls hl => ?_)
  refine lv_goto (tgt := 37) hx hb dX12_text_53 (by decide) ?_
  refine lv_iload_n hx hb dX12_text_37 rfl (lv_at hl 0 rfl) ?_
  refine lv_bipush (v := 28) hx hb dX12_text_38 (by decide) ?_
  refine lv_icmp_ge (tgt := 56) hx hb dX12_text_40 (by decide) (fun h9 => absurd h9 (by decide)) (fun _ => ?_)
  refine lv_aload_n hx hb dX12_text_43 rfl (lv_at hl 1 rfl) ?_
  refine va_get (D := D) (ci := 12) (v := .ref h2) (C := RX12) (T := TX12) (N := 38) hx hb hB inB_X12 hown hK.1 hP 0 rfl rfl 15 (by decide) (hB _ mw_190) (fun _ h9 => h9) rfl dX12_text_44 ?_
  refine lv_iload_n hx hb dX12_text_47 rfl (lv_at hl 0 rfl) ?_
  refine lv_iconst (v := 0) hx hb dX12_text_48 (by decide) ?_
  refine wy_zast hx hb hK hP hD hS 1 3 rfl rfl (by unfold vp_in; decide) dX12_text_49 (j := 26) (by decide) (y := 0) (by decide) (ws' := [(h0, .inr (12, [v0, .ref h3, v1, v2, v3, .int 0, v4, .int 0, .int 0, v7, v8, v9, .int 0, .int (-1), .ref h1, .ref h2, v12, v13, v14, v15, v16, v17, v18, v19, v20, v21, v22, v23, v24, v25, v26, v27, v28, v29, v30, v31, v32, v33])), (h2, .inl (ty 3, 28, .inl (upd (upd (upd (upd (upd (upd (upd (upd (upd (upd (upd (upd (upd (upd (upd (upd (upd (upd (upd (upd (upd (upd (upd (upd (upd (upd (upd f0 0 0) 1 0) 2 0) 3 0) 4 0) 5 0) 6 0) 7 0) 8 0) 9 0) 10 0) 11 0) 12 0) 13 0) 14 0) 15 0) 16 0) 17 0) 18 0) 19 0) 20 0) 21 0) 22 0) 23 0) 24 0) 25 0) 26 0))), (h3, .inl (ty 1, 304, .inl f1)), (h1, .inl (ty 1, 304, .inl (upd (upd (kf 0) 1 2) 4 (-1))))]) rfl (fun H locs hP hD hS => ?_)
  refine lv_iinc (v := 27) (lv' := [(1, .int 27), (0, .ref h0)]) hx hb dX12_text_50 hl (k := 0) rfl (by decide) (by decide) rfl (fun ls hl => ?_)
  refine lv_goto (tgt := 37) hx hb dX12_text_53 (by decide) ?_
  refine lv_iload_n hx hb dX12_text_37 rfl (lv_at hl 0 rfl) ?_
  refine lv_bipush (v := 28) hx hb dX12_text_38 (by decide) ?_
  refine lv_icmp_ge (tgt := 56) hx hb dX12_text_40 (by decide) (fun h9 => absurd h9 (by decide)) (fun _ => ?_)
  refine lv_aload_n hx hb dX12_text_43 rfl (lv_at hl 1 rfl) ?_
  refine va_get (D := D) (ci := 12) (v := .ref h2) (C := RX12) (T := TX12) (N := 38) hx hb hB inB_X12 hown hK.1 hP 0 rfl rfl 15 (by decide) (hB _ mw_190) (fun _ h9 => h9) rfl dX12_text_44 ?_
  refine lv_iload_n hx hb dX12_text_47 rfl (lv_at hl 0 rfl) ?_
  refine lv_iconst (v := 0) hx hb dX12_text_48 (by decide) ?_
  refine wy_zast hx hb hK hP hD hS 1 3 rfl rfl (by unfold vp_in; decide) dX12_text_49 (j := 27) (by decide) (y := 0) (by decide) (ws' := [(h0, .inr (12, [v0, .ref h3, v1, v2, v3, .int 0, v4, .int 0, .int 0, v7, v8, v9, .int 0, .int (-1), .ref h1, .ref h2, v12, v13, v14, v15, v16, v17, v18, v19, v20, v21, v22, v23, v24, v25, v26, v27, v28, v29, v30, v31, v32, v33])), (h2, .inl (ty 3, 28, .inl (upd (upd (upd (upd (upd (upd (upd (upd (upd (upd (upd (upd (upd (upd (upd (upd (upd (upd (upd (upd (upd (upd (upd (upd (upd (upd (upd (upd f0 0 0) 1 0) 2 0) 3 0) 4 0) 5 0) 6 0) 7 0) 8 0) 9 0) 10 0) 11 0) 12 0) 13 0) 14 0) 15 0) 16 0) 17 0) 18 0) 19 0) 20 0) 21 0) 22 0) 23 0) 24 0) 25 0) 26 0) 27 0))), (h3, .inl (ty 1, 304, .inl f1)), (h1, .inl (ty 1, 304, .inl (upd (upd (kf 0) 1 2) 4 (-1))))]) rfl (fun H locs hP hD hS => ?_)
  refine lv_iinc (v := 28) (lv' := [(1, .int 28), (0, .ref h0)]) hx hb dX12_text_50 hl (k := 0) rfl (by decide) (by decide) rfl (fun ls hl => ?_)
  refine lv_goto (tgt := 37) hx hb dX12_text_53 (by decide) ?_
  refine lv_iload_n hx hb dX12_text_37 rfl (lv_at hl 0 rfl) ?_
  refine lv_bipush (v := 28) hx hb dX12_text_38 (by decide) ?_
  refine lv_icmp_ge (tgt := 56) hx hb dX12_text_40 (by decide) (fun _ => ?_) (fun h9 => absurd (by decide) h9)
  refine lv_aload_n hx hb dX12_text_56 rfl (lv_at hl 1 rfl) ?_
  refine kc_v (va_runV (As := []) (rest := []) ⟨hx, hb, hml, hown, hB⟩ (c143_X12_step l D ty H.size h0 v0 (.ref h3) v1 v2 v3 (.int 0) v4 v7 v8 v9 (.int 0) (.int (-1)) (.ref h1) (.ref h2) v12 v13 v14 v15 v16 v17 v18 v19 v20 v21 v22 v23 v24 v25 v26 v27 v28 v29 v30 v31 v32 v33) (cwV 0 hB (bw_V mw_457 mw_458 mw_459 mw_211 mw_456) rfl rfl rfl (by decide +kernel) ⟨Nat.le_of_ble_eq_true rfl, Nat.le_of_ble_eq_true rfl⟩) (kp_V hK hP hD [0] (by decide) rfl 0 rfl rfl rfl) rfl rfl hl.1 rfl (lv_room (Nat.le_of_ble_eq_true rfl)) dX12_text_57 ⟨Nat.le_of_ble_eq_true rfl, Nat.le_of_ble_eq_true rfl⟩) hP hD hS hA [0] [1, 2, 3] (wr := [(h2, .inl (ty 3, 28, .inl (upd (upd (upd (upd (upd (upd (upd (upd (upd (upd (upd (upd (upd (upd (upd (upd (upd (upd (upd (upd (upd (upd (upd (upd (upd (upd (upd (upd f0 0 0) 1 0) 2 0) 3 0) 4 0) 5 0) 6 0) 7 0) 8 0) 9 0) 10 0) 11 0) 12 0) 13 0) 14 0) 15 0) 16 0) 17 0) 18 0) 19 0) 20 0) 21 0) 22 0) 23 0) 24 0) 25 0) 26 0) 27 0))), (h3, .inl (ty 1, 304, .inl f1)), (h1, .inl (ty 1, 304, .inl (upd (upd (kf 0) 1 2) 4 (-1))))]) rfl rfl (by decide) (by decide) (fun u H locs w2 hP hD hS => ?_)
  subst w2
  have hP : va_P D vwCl [(h2, .inl (ty 3, 28, .inl (upd (upd (upd (upd (upd (upd (upd (upd (upd (upd (upd (upd (upd (upd (upd (upd (upd (upd (upd (upd (upd (upd (upd (upd (upd (upd (upd (upd f0 0 0) 1 0) 2 0) 3 0) 4 0) 5 0) 6 0) 7 0) 8 0) 9 0) 10 0) 11 0) 12 0) 13 0) 14 0) 15 0) 16 0) 17 0) 18 0) 19 0) 20 0) 21 0) 22 0) 23 0) 24 0) 25 0) 26 0) 27 0))), (h3, .inl (ty 1, 304, .inl f1)), (h1, .inl (ty 1, 304, .inl (upd (upd (kf 0) 1 2) 4 (-1)))), (h0, .inr (12, [v0, .ref h3, v1, v2, v3, .int 0, v4, .int 0, .int 0, .int 0, .int 0, v9, .int 0, .int (-1), .ref h1, .ref h2, v12, v13, v14, v15, v16, v17, v18, v19, v20, v21, v22, v23, v24, v25, v26, v27, v28, v29, v30, v31, v32, v33]))] H := hP
  have hD : va_D A [(h2, .inl (ty 3, 28, .inl (upd (upd (upd (upd (upd (upd (upd (upd (upd (upd (upd (upd (upd (upd (upd (upd (upd (upd (upd (upd (upd (upd (upd (upd (upd (upd (upd (upd f0 0 0) 1 0) 2 0) 3 0) 4 0) 5 0) 6 0) 7 0) 8 0) 9 0) 10 0) 11 0) 12 0) 13 0) 14 0) 15 0) 16 0) 17 0) 18 0) 19 0) 20 0) 21 0) 22 0) 23 0) 24 0) 25 0) 26 0) 27 0))), (h3, .inl (ty 1, 304, .inl f1)), (h1, .inl (ty 1, 304, .inl (upd (upd (kf 0) 1 2) 4 (-1)))), (h0, .inr (12, [v0, .ref h3, v1, v2, v3, .int 0, v4, .int 0, .int 0, .int 0, .int 0, v9, .int 0, .int (-1), .ref h1, .ref h2, v12, v13, v14, v15, v16, v17, v18, v19, v20, v21, v22, v23, v24, v25, v26, v27, v28, v29, v30, v31, v32, v33]))] := hD
  refine lv_aload_n hx hb dX12_text_60 rfl (lv_at hl 1 rfl) ?_
  refine kc_i (va_runV (As := []) (rest := []) ⟨hx, hb, hml, hown, hB⟩ (c145_X12_good l D ty H.size h0 v0 (.ref h3) v1 v2 v3 (.int 0) v4 (.int 0) (.int 0) (.int 0) (.int 0) v9 (.int (-1)) (.ref h1) (.ref h2) v12 v13 v14 v15 v16 v17 v18 v19 v20 v21 v22 v23 v24 v25 v26 v27 v28 v29 v30 v31 v32 v33) (cwV 0 hB (bw_V mw_461 mw_462 mw_463 mw_211 mw_460) rfl rfl rfl (by decide +kernel) ⟨Nat.le_of_ble_eq_true rfl, Nat.le_of_ble_eq_true rfl⟩) (kp_V hK hP hD [3] (by decide) rfl 3 rfl rfl rfl) rfl rfl hl.1 rfl (lv_room (Nat.le_of_ble_eq_true rfl)) dX12_text_61 ⟨Nat.le_of_ble_eq_true rfl, Nat.le_of_ble_eq_true rfl⟩) hP hD hS hA [3] [0, 1, 2] (wr := [(h2, .inl (ty 3, 28, .inl (upd (upd (upd (upd (upd (upd (upd (upd (upd (upd (upd (upd (upd (upd (upd (upd (upd (upd (upd (upd (upd (upd (upd (upd (upd (upd (upd (upd f0 0 0) 1 0) 2 0) 3 0) 4 0) 5 0) 6 0) 7 0) 8 0) 9 0) 10 0) 11 0) 12 0) 13 0) 14 0) 15 0) 16 0) 17 0) 18 0) 19 0) 20 0) 21 0) 22 0) 23 0) 24 0) 25 0) 26 0) 27 0))), (h3, .inl (ty 1, 304, .inl f1)), (h1, .inl (ty 1, 304, .inl (upd (upd (kf 0) 1 2) 4 (-1))))]) rfl rfl (by decide) (by decide) (fun r u H locs w3 hP hD hS => ?_)
  obtain ⟨rfl, rfl⟩ := w3
  have hP : va_P D vwCl [(h2, .inl (ty 3, 28, .inl (upd (upd (upd (upd (upd (upd (upd (upd (upd (upd (upd (upd (upd (upd (upd (upd (upd (upd (upd (upd (upd (upd (upd (upd (upd (upd (upd (upd f0 0 0) 1 0) 2 0) 3 0) 4 0) 5 0) 6 0) 7 0) 8 0) 9 0) 10 0) 11 0) 12 0) 13 0) 14 0) 15 0) 16 0) 17 0) 18 0) 19 0) 20 0) 21 0) 22 0) 23 0) 24 0) 25 0) 26 0) 27 0))), (h3, .inl (ty 1, 304, .inl f1)), (h1, .inl (ty 1, 304, .inl (upd (upd (kf 0) 1 2) 4 (-1)))), (h0, .inr (12, [v0, .ref h3, v1, v2, v3, .int 0, v4, .int 0, .int 0, .int 0, .int 0, v9, .int 0, .int (-1), .ref h1, .ref h2, v12, v13, v14, v15, v16, v17, v18, v19, v20, v21, v22, v23, v24, v25, v26, v27, v28, v29, v30, v31, v32, v33]))] H := hP
  have hD : va_D A [(h2, .inl (ty 3, 28, .inl (upd (upd (upd (upd (upd (upd (upd (upd (upd (upd (upd (upd (upd (upd (upd (upd (upd (upd (upd (upd (upd (upd (upd (upd (upd (upd (upd (upd f0 0 0) 1 0) 2 0) 3 0) 4 0) 5 0) 6 0) 7 0) 8 0) 9 0) 10 0) 11 0) 12 0) 13 0) 14 0) 15 0) 16 0) 17 0) 18 0) 19 0) 20 0) 21 0) 22 0) 23 0) 24 0) 25 0) 26 0) 27 0))), (h3, .inl (ty 1, 304, .inl f1)), (h1, .inl (ty 1, 304, .inl (upd (upd (kf 0) 1 2) 4 (-1)))), (h0, .inr (12, [v0, .ref h3, v1, v2, v3, .int 0, v4, .int 0, .int 0, .int 0, .int 0, v9, .int 0, .int (-1), .ref h1, .ref h2, v12, v13, v14, v15, v16, v17, v18, v19, v20, v21, v22, v23, v24, v25, v26, v27, v28, v29, v30, v31, v32, v33]))] := hD
  refine lv_if_eq (tgt := 81) hx hb dX12_text_64 (by decide) (fun h9 => absurd h9 (by decide)) (fun _ => ?_)
  refine lv_aload_n hx hb dX12_text_67 rfl (lv_at hl 1 rfl) ?_
  refine va_get (D := D) (ci := 12) (v := .int 0) (C := RX12) (T := TX12) (N := 38) hx hb hB inB_X12 hown hK.1 hP 3 rfl rfl 10 (by decide) (hB _ mw_455) (fun _ h9 => h9) rfl dX12_text_68 ?_
  refine lv_if_eq (tgt := 81) hx hb dX12_text_71 (by decide) (fun _ => ?_) (fun h9 => absurd (by decide) h9)
  refine lv_aload_n hx hb dX12_text_81 rfl (lv_at hl 1 rfl) ?_
  refine kc_i (va_runV (As := []) (rest := []) ⟨hx, hb, hml, hown, hB⟩ (c145_X12_good l D ty H.size h0 v0 (.ref h3) v1 v2 v3 (.int 0) v4 (.int 0) (.int 0) (.int 0) (.int 0) v9 (.int (-1)) (.ref h1) (.ref h2) v12 v13 v14 v15 v16 v17 v18 v19 v20 v21 v22 v23 v24 v25 v26 v27 v28 v29 v30 v31 v32 v33) (cwV 0 hB (bw_V mw_461 mw_462 mw_463 mw_211 mw_460) rfl rfl rfl (by decide +kernel) ⟨Nat.le_of_ble_eq_true rfl, Nat.le_of_ble_eq_true rfl⟩) (kp_V hK hP hD [3] (by decide) rfl 3 rfl rfl rfl) rfl rfl hl.1 rfl (lv_room (Nat.le_of_ble_eq_true rfl)) dX12_text_82 ⟨Nat.le_of_ble_eq_true rfl, Nat.le_of_ble_eq_true rfl⟩) hP hD hS hA [3] [0, 1, 2] (wr := [(h2, .inl (ty 3, 28, .inl (upd (upd (upd (upd (upd (upd (upd (upd (upd (upd (upd (upd (upd (upd (upd (upd (upd (upd (upd (upd (upd (upd (upd (upd (upd (upd (upd (upd f0 0 0) 1 0) 2 0) 3 0) 4 0) 5 0) 6 0) 7 0) 8 0) 9 0) 10 0) 11 0) 12 0) 13 0) 14 0) 15 0) 16 0) 17 0) 18 0) 19 0) 20 0) 21 0) 22 0) 23 0) 24 0) 25 0) 26 0) 27 0))), (h3, .inl (ty 1, 304, .inl f1)), (h1, .inl (ty 1, 304, .inl (upd (upd (kf 0) 1 2) 4 (-1))))]) rfl rfl (by decide) (by decide) (fun r u H locs w4 hP hD hS => ?_)
  obtain ⟨rfl, rfl⟩ := w4
  have hP : va_P D vwCl [(h2, .inl (ty 3, 28, .inl (upd (upd (upd (upd (upd (upd (upd (upd (upd (upd (upd (upd (upd (upd (upd (upd (upd (upd (upd (upd (upd (upd (upd (upd (upd (upd (upd (upd f0 0 0) 1 0) 2 0) 3 0) 4 0) 5 0) 6 0) 7 0) 8 0) 9 0) 10 0) 11 0) 12 0) 13 0) 14 0) 15 0) 16 0) 17 0) 18 0) 19 0) 20 0) 21 0) 22 0) 23 0) 24 0) 25 0) 26 0) 27 0))), (h3, .inl (ty 1, 304, .inl f1)), (h1, .inl (ty 1, 304, .inl (upd (upd (kf 0) 1 2) 4 (-1)))), (h0, .inr (12, [v0, .ref h3, v1, v2, v3, .int 0, v4, .int 0, .int 0, .int 0, .int 0, v9, .int 0, .int (-1), .ref h1, .ref h2, v12, v13, v14, v15, v16, v17, v18, v19, v20, v21, v22, v23, v24, v25, v26, v27, v28, v29, v30, v31, v32, v33]))] H := hP
  have hD : va_D A [(h2, .inl (ty 3, 28, .inl (upd (upd (upd (upd (upd (upd (upd (upd (upd (upd (upd (upd (upd (upd (upd (upd (upd (upd (upd (upd (upd (upd (upd (upd (upd (upd (upd (upd f0 0 0) 1 0) 2 0) 3 0) 4 0) 5 0) 6 0) 7 0) 8 0) 9 0) 10 0) 11 0) 12 0) 13 0) 14 0) 15 0) 16 0) 17 0) 18 0) 19 0) 20 0) 21 0) 22 0) 23 0) 24 0) 25 0) 26 0) 27 0))), (h3, .inl (ty 1, 304, .inl f1)), (h1, .inl (ty 1, 304, .inl (upd (upd (kf 0) 1 2) 4 (-1)))), (h0, .inr (12, [v0, .ref h3, v1, v2, v3, .int 0, v4, .int 0, .int 0, .int 0, .int 0, v9, .int 0, .int (-1), .ref h1, .ref h2, v12, v13, v14, v15, v16, v17, v18, v19, v20, v21, v22, v23, v24, v25, v26, v27, v28, v29, v30, v31, v32, v33]))] := hD
  refine lv_if_ne (tgt := 91) hx hb dX12_text_85 (by decide) (fun _ => ?_) (fun h9 => absurd h9 (by decide))
  refine lv_iconst (v := 0) hx hb dX12_text_91 (by decide) ?_
  refine lv_istore_n (lv' := [(1, .int 0), (0, .ref h0)]) hx hb dX12_text_92 rfl hl (by decide) rfl (fun ls hl => ?_)
  refine lp_text hx hb hown hB hK (fun g9 => [(h2, .inl (ty 3, 28, .inl (upd (upd (upd (upd (upd (upd (upd (upd (upd (upd (upd (upd (upd (upd (upd (upd (upd (upd (upd (upd (upd (upd (upd (upd (upd (upd (upd (upd f0 0 0) 1 0) 2 0) 3 0) 4 0) 5 0) 6 0) 7 0) 8 0) 9 0) 10 0) 11 0) 12 0) 13 0) 14 0) 15 0) 16 0) 17 0) 18 0) 19 0) 20 0) 21 0) 22 0) 23 0) 24 0) 25 0) 26 0) 27 0))), (h3, .inl (ty 1, 304, .inl g9)), (h1, .inl (ty 1, 304, .inl (upd (upd (kf 0) 1 2) 4 (-1)))), (h0, .inr (12, [v0, .ref h3, v1, v2, v3, .int 0, v4, .int 0, .int 0, .int 0, .int 0, v9, .int 0, .int (-1), .ref h1, .ref h2, v12, v13, v14, v15, v16, v17, v18, v19, v20, v21, v22, v23, v24, v25, v26, v27, v28, v29, v30, v31, v32, v33]))]) [v0, .ref h3, v1, v2, v3, .int 0, v4, .int 0, .int 0, .int 0, .int 0, v9, .int 0, .int (-1), .ref h1, .ref h2, v12, v13, v14, v15, v16, v17, v18, v19, v20, v21, v22, v23, v24, v25, v26, v27, v28, v29, v30, v31, v32, v33] 3 1 2 (fun _ => rfl) rfl rfl (fun _ => rfl) (fun _ => rfl) (fun _ _ => rfl) (fun x6 H locs ls hP hD hS hl => ?_) 304 0 0 f1 _ _ ls rfl (by decide) (fun j hj => absurd hj (Nat.not_lt_zero _)) hP hD hS hl
  have hP : va_P D vwCl [(h2, .inl (ty 3, 28, .inl (upd (upd (upd (upd (upd (upd (upd (upd (upd (upd (upd (upd (upd (upd (upd (upd (upd (upd (upd (upd (upd (upd (upd (upd (upd (upd (upd (upd f0 0 0) 1 0) 2 0) 3 0) 4 0) 5 0) 6 0) 7 0) 8 0) 9 0) 10 0) 11 0) 12 0) 13 0) 14 0) 15 0) 16 0) 17 0) 18 0) 19 0) 20 0) 21 0) 22 0) 23 0) 24 0) 25 0) 26 0) 27 0))), (h3, .inl (ty 1, 304, .inl (upd (upd (kf 0) 1 2) 4 (-1)))), (h1, .inl (ty 1, 304, .inl (upd (upd (kf 0) 1 2) 4 (-1)))), (h0, .inr (12, [v0, .ref h3, v1, v2, v3, .int 0, v4, .int 0, .int 0, .int 0, .int 0, v9, .int 0, .int (-1), .ref h1, .ref h2, v12, v13, v14, v15, v16, v17, v18, v19, v20, v21, v22, v23, v24, v25, v26, v27, v28, v29, v30, v31, v32, v33]))] H := hP
  have hD : va_D A [(h2, .inl (ty 3, 28, .inl (upd (upd (upd (upd (upd (upd (upd (upd (upd (upd (upd (upd (upd (upd (upd (upd (upd (upd (upd (upd (upd (upd (upd (upd (upd (upd (upd (upd f0 0 0) 1 0) 2 0) 3 0) 4 0) 5 0) 6 0) 7 0) 8 0) 9 0) 10 0) 11 0) 12 0) 13 0) 14 0) 15 0) 16 0) 17 0) 18 0) 19 0) 20 0) 21 0) 22 0) 23 0) 24 0) 25 0) 26 0) 27 0))), (h3, .inl (ty 1, 304, .inl (upd (upd (kf 0) 1 2) 4 (-1)))), (h1, .inl (ty 1, 304, .inl (upd (upd (kf 0) 1 2) 4 (-1)))), (h0, .inr (12, [v0, .ref h3, v1, v2, v3, .int 0, v4, .int 0, .int 0, .int 0, .int 0, v9, .int 0, .int (-1), .ref h1, .ref h2, v12, v13, v14, v15, v16, v17, v18, v19, v20, v21, v22, v23, v24, v25, v26, v27, v28, v29, v30, v31, v32, v33]))] := hD
  refine lv_iconst (v := 0) hx hb dX12_text_118 (by decide) ?_
  refine lv_istore_n (lv' := [(1, .int 0), (0, .ref h0)]) hx hb dX12_text_119 rfl hl (by decide) rfl (fun ls hl => ?_)
  refine lv_iload_n hx hb dX12_text_120 rfl (lv_at hl 0 rfl) ?_
  refine lv_iconst (v := 2) hx hb dX12_text_121 (by decide) ?_
  refine lv_icmp_ge (tgt := 177) hx hb dX12_text_122 (by decide) (fun h9 => absurd h9 (by decide)) (fun _ => ?_)
  refine lv_iconst (v := 0) hx hb dX12_text_125 (by decide) ?_
  refine lv_istore_n (lv' := [(2, .int 0), (1, .int 0), (0, .ref h0)]) hx hb dX12_text_126 rfl hl (by decide) rfl (fun ls hl => ?_)
  refine lv_iload_n hx hb dX12_text_127 rfl (lv_at hl 0 rfl) ?_
  refine lv_aload_n hx hb dX12_text_128 rfl (lv_at hl 2 rfl) ?_
  refine kc_i (va_runV (As := []) (rest := [.int 0]) ⟨hx, hb, hml, hown, hB⟩ (c146_X12_alleys l D ty H.size h0 h3 v0 v1 v2 v3 (.int 0) v4 (.int 0) (.int 0) (.int 0) (.int 0) v9 (.int 0) (.int (-1)) (.ref h1) (.ref h2) v12 v13 v14 v15 v16 v17 v18 v19 v20 v21 v22 v23 v24 v25 v26 v27 v28 v29 v30 v31 v32 v33) (cwV 0 hB (bw_V mw_465 mw_466 mw_467 mw_211 mw_464) rfl rfl rfl (by decide +kernel) ⟨Nat.le_of_ble_eq_true rfl, Nat.le_of_ble_eq_true rfl⟩) (kp_V hK hP hD [3, 1] (by decide) rfl 3 rfl rfl rfl) rfl rfl hl.1 rfl (lv_room (Nat.le_of_ble_eq_true rfl)) dX12_text_129 ⟨Nat.le_of_ble_eq_true rfl, Nat.le_of_ble_eq_true rfl⟩) hP hD hS hA [3, 1] [0, 2] (wr := [(h2, .inl (ty 3, 28, .inl (upd (upd (upd (upd (upd (upd (upd (upd (upd (upd (upd (upd (upd (upd (upd (upd (upd (upd (upd (upd (upd (upd (upd (upd (upd (upd (upd (upd f0 0 0) 1 0) 2 0) 3 0) 4 0) 5 0) 6 0) 7 0) 8 0) 9 0) 10 0) 11 0) 12 0) 13 0) 14 0) 15 0) 16 0) 17 0) 18 0) 19 0) 20 0) 21 0) 22 0) 23 0) 24 0) 25 0) 26 0) 27 0))), (h1, .inl (ty 1, 304, .inl (upd (upd (kf 0) 1 2) 4 (-1))))]) rfl rfl (by decide) (by decide) (fun r u H locs w7 hP hD hS => ?_)
  obtain ⟨rfl, rfl⟩ := w7
  have hP : va_P D vwCl [(h2, .inl (ty 3, 28, .inl (upd (upd (upd (upd (upd (upd (upd (upd (upd (upd (upd (upd (upd (upd (upd (upd (upd (upd (upd (upd (upd (upd (upd (upd (upd (upd (upd (upd f0 0 0) 1 0) 2 0) 3 0) 4 0) 5 0) 6 0) 7 0) 8 0) 9 0) 10 0) 11 0) 12 0) 13 0) 14 0) 15 0) 16 0) 17 0) 18 0) 19 0) 20 0) 21 0) 22 0) 23 0) 24 0) 25 0) 26 0) 27 0))), (h1, .inl (ty 1, 304, .inl (upd (upd (kf 0) 1 2) 4 (-1)))), (h0, .inr (12, [v0, .ref h3, v1, v2, v3, .int 0, v4, .int 0, .int 0, .int 0, .int 0, v9, .int 0, .int (-1), .ref h1, .ref h2, v12, v13, v14, v15, v16, v17, v18, v19, v20, v21, v22, v23, v24, v25, v26, v27, v28, v29, v30, v31, v32, v33])), (h3, .inl (ty 1, 304, .inl (upd (upd (kf 0) 1 2) 4 (-1))))] H := hP
  have hD : va_D A [(h2, .inl (ty 3, 28, .inl (upd (upd (upd (upd (upd (upd (upd (upd (upd (upd (upd (upd (upd (upd (upd (upd (upd (upd (upd (upd (upd (upd (upd (upd (upd (upd (upd (upd f0 0 0) 1 0) 2 0) 3 0) 4 0) 5 0) 6 0) 7 0) 8 0) 9 0) 10 0) 11 0) 12 0) 13 0) 14 0) 15 0) 16 0) 17 0) 18 0) 19 0) 20 0) 21 0) 22 0) 23 0) 24 0) 25 0) 26 0) 27 0))), (h1, .inl (ty 1, 304, .inl (upd (upd (kf 0) 1 2) 4 (-1)))), (h0, .inr (12, [v0, .ref h3, v1, v2, v3, .int 0, v4, .int 0, .int 0, .int 0, .int 0, v9, .int 0, .int (-1), .ref h1, .ref h2, v12, v13, v14, v15, v16, v17, v18, v19, v20, v21, v22, v23, v24, v25, v26, v27, v28, v29, v30, v31, v32, v33])), (h3, .inl (ty 1, 304, .inl (upd (upd (kf 0) 1 2) 4 (-1))))] := hD
  refine lv_icmp_ge (tgt := 171) hx hb dX12_text_132 (by decide) (fun _ => ?_) (fun h9 => absurd (by decide) h9)
  refine lv_iinc (v := 1) (lv' := [(1, .int 1), (2, .int 0), (0, .ref h0)]) hx hb dX12_text_171 hl (k := 1) rfl (by decide) (by decide) rfl (fun ls hl => ?_)
  refine lv_goto (tgt := 120) hx hb dX12_text_174 (by decide) ?_
  refine lv_iload_n hx hb dX12_text_120 rfl (lv_at hl 0 rfl) ?_
  refine lv_iconst (v := 2) hx hb dX12_text_121 (by decide) ?_
  refine lv_icmp_ge (tgt := 177) hx hb dX12_text_122 (by decide) (fun h9 => absurd h9 (by decide)) (fun _ => ?_)
  refine lv_iconst (v := 0) hx hb dX12_text_125 (by decide) ?_
  refine lv_istore_n (lv' := [(2, .int 0), (1, .int 1), (0, .ref h0)]) hx hb dX12_text_126 rfl hl (by decide) rfl (fun ls hl => ?_)
  refine lv_iload_n hx hb dX12_text_127 rfl (lv_at hl 0 rfl) ?_
  refine lv_aload_n hx hb dX12_text_128 rfl (lv_at hl 2 rfl) ?_
  refine kc_i (va_runV (As := []) (rest := [.int 0]) ⟨hx, hb, hml, hown, hB⟩ (c146_X12_alleys l D ty H.size h0 h3 v0 v1 v2 v3 (.int 0) v4 (.int 0) (.int 0) (.int 0) (.int 0) v9 (.int 0) (.int (-1)) (.ref h1) (.ref h2) v12 v13 v14 v15 v16 v17 v18 v19 v20 v21 v22 v23 v24 v25 v26 v27 v28 v29 v30 v31 v32 v33) (cwV 0 hB (bw_V mw_465 mw_466 mw_467 mw_211 mw_464) rfl rfl rfl (by decide +kernel) ⟨Nat.le_of_ble_eq_true rfl, Nat.le_of_ble_eq_true rfl⟩) (kp_V hK hP hD [2, 3] (by decide) rfl 2 rfl rfl rfl) rfl rfl hl.1 rfl (lv_room (Nat.le_of_ble_eq_true rfl)) dX12_text_129 ⟨Nat.le_of_ble_eq_true rfl, Nat.le_of_ble_eq_true rfl⟩) hP hD hS hA [2, 3] [0, 1] (wr := [(h2, .inl (ty 3, 28, .inl (upd (upd (upd (upd (upd (upd (upd (upd (upd (upd (upd (upd (upd (upd (upd (upd (upd (upd (upd (upd (upd (upd (upd (upd (upd (upd (upd (upd f0 0 0) 1 0) 2 0) 3 0) 4 0) 5 0) 6 0) 7 0) 8 0) 9 0) 10 0) 11 0) 12 0) 13 0) 14 0) 15 0) 16 0) 17 0) 18 0) 19 0) 20 0) 21 0) 22 0) 23 0) 24 0) 25 0) 26 0) 27 0))), (h1, .inl (ty 1, 304, .inl (upd (upd (kf 0) 1 2) 4 (-1))))]) rfl rfl (by decide) (by decide) (fun r u H locs w8 hP hD hS => ?_)
  obtain ⟨rfl, rfl⟩ := w8
  have hP : va_P D vwCl [(h2, .inl (ty 3, 28, .inl (upd (upd (upd (upd (upd (upd (upd (upd (upd (upd (upd (upd (upd (upd (upd (upd (upd (upd (upd (upd (upd (upd (upd (upd (upd (upd (upd (upd f0 0 0) 1 0) 2 0) 3 0) 4 0) 5 0) 6 0) 7 0) 8 0) 9 0) 10 0) 11 0) 12 0) 13 0) 14 0) 15 0) 16 0) 17 0) 18 0) 19 0) 20 0) 21 0) 22 0) 23 0) 24 0) 25 0) 26 0) 27 0))), (h1, .inl (ty 1, 304, .inl (upd (upd (kf 0) 1 2) 4 (-1)))), (h0, .inr (12, [v0, .ref h3, v1, v2, v3, .int 0, v4, .int 0, .int 0, .int 0, .int 0, v9, .int 0, .int (-1), .ref h1, .ref h2, v12, v13, v14, v15, v16, v17, v18, v19, v20, v21, v22, v23, v24, v25, v26, v27, v28, v29, v30, v31, v32, v33])), (h3, .inl (ty 1, 304, .inl (upd (upd (kf 0) 1 2) 4 (-1))))] H := hP
  have hD : va_D A [(h2, .inl (ty 3, 28, .inl (upd (upd (upd (upd (upd (upd (upd (upd (upd (upd (upd (upd (upd (upd (upd (upd (upd (upd (upd (upd (upd (upd (upd (upd (upd (upd (upd (upd f0 0 0) 1 0) 2 0) 3 0) 4 0) 5 0) 6 0) 7 0) 8 0) 9 0) 10 0) 11 0) 12 0) 13 0) 14 0) 15 0) 16 0) 17 0) 18 0) 19 0) 20 0) 21 0) 22 0) 23 0) 24 0) 25 0) 26 0) 27 0))), (h1, .inl (ty 1, 304, .inl (upd (upd (kf 0) 1 2) 4 (-1)))), (h0, .inr (12, [v0, .ref h3, v1, v2, v3, .int 0, v4, .int 0, .int 0, .int 0, .int 0, v9, .int 0, .int (-1), .ref h1, .ref h2, v12, v13, v14, v15, v16, v17, v18, v19, v20, v21, v22, v23, v24, v25, v26, v27, v28, v29, v30, v31, v32, v33])), (h3, .inl (ty 1, 304, .inl (upd (upd (kf 0) 1 2) 4 (-1))))] := hD
  refine lv_icmp_ge (tgt := 171) hx hb dX12_text_132 (by decide) (fun _ => ?_) (fun h9 => absurd (by decide) h9)
  refine lv_iinc (v := 2) (lv' := [(1, .int 2), (2, .int 0), (0, .ref h0)]) hx hb dX12_text_171 hl (k := 1) rfl (by decide) (by decide) rfl (fun ls hl => ?_)
  refine lv_goto (tgt := 120) hx hb dX12_text_174 (by decide) ?_
  refine lv_iload_n hx hb dX12_text_120 rfl (lv_at hl 0 rfl) ?_
  refine lv_iconst (v := 2) hx hb dX12_text_121 (by decide) ?_
  refine lv_icmp_ge (tgt := 177) hx hb dX12_text_122 (by decide) (fun _ => ?_) (fun h9 => absurd (by decide) h9)
  refine lv_aload_n hx hb dX12_text_177 rfl (lv_at hl 2 rfl) ?_
  refine va_get (D := D) (ci := 12) (v := .ref h3) (C := RX12) (T := TX12) (N := 38) hx hb hB inB_X12 hown hK.1 hP 2 rfl rfl 1 (by decide) (hB _ mw_182) (fun _ h9 => h9) rfl dX12_text_178 ?_
  refine lv_iconst (v := 0) hx hb dX12_text_181 (by decide) ?_
  refine va_iald hx hb hK.1 hP 3 1 rfl rfl (by unfold vp_in; decide) dX12_text_182 ?_
  refine tp_i (v := 0) rfl ?_
  exact kr_z hx hb hr rfl hlocks hP hD hS [] [] (by decide) rfl ⟨rfl, rfl⟩ (by decide) (by decide) dX12_text_183
set_option maxHeartbeats 4000000 in
set_option maxRecDepth 100000 in
theorem c147_X12_fault (l : Launch) (D : va_G) (ty : Nat → ClassId) (sz : Nat) (h0 : Nat) (p0 : Int32) (v0 : Value) (v1 : Value) (v2 : Value) (v3 : Value) (v4 : Value) (v5 : Value) (v6 : Value) (v7 : Value) (v8 : Value) (v9 : Value) (v10 : Value) (v11 : Value) (v12 : Value) (v13 : Value) (v14 : Value) (v15 : Value) (v16 : Value) (v17 : Value) (v18 : Value) (v19 : Value) (v20 : Value) (v21 : Value) (v22 : Value) (v23 : Value) (v24 : Value) (v25 : Value) (v26 : Value) (v27 : Value) (v28 : Value) (v29 : Value) (v30 : Value) (v31 : Value) (v32 : Value) (v33 : Value) (v34 : Value) (v35 : Value) : cQ l yX12_fault cX12_fault 2 (some .int) 0 0 [.ref h0, .int p0] D ty [(h0, .inr (12, [v0, v1, v2, v3, v4, v5, v6, v7, v8, v9, v10, v11, .int 0, .int (-1), v12, v13, v14, v15, v16, v17, v18, v19, v20, v21, v22, v23, v24, v25, v26, v27, v28, v29, v30, v31, v32, v33, v34, v35]))] sz (qI (fun (r : Int32) (u : va_W) => ((((¬ (p0 = 0)) ∧ (¬ (p0 = 1))) ∨ ((¬ (p0 = 0)) ∧ (p0 = 1))) ∧ (-1) = r ∧ [] = u) ∨ (((p0 = 0)) ∧ 0 = r ∧ [] = u))) 0 0 := by
  refine cQ.of (by decide) (Nat.le_of_ble_eq_true rfl) (fun p e s m below meth c A ls C hsz hP hK hD hA hl => ?_)
  obtain ⟨hx, hb, hml, hown, hB, hr, hlocks, hin⟩ := C
  have hown : s.vm.findClass RX12 = some m.cls := hown
  have hS : va_S A s.heap s.heap [] := va_S.rf
  have hl : lv_has ls 2 [(0, .ref h0), (1, .int p0)] := hl
  refine lv_iload_n hx hb dX12_fault_0 rfl (lv_at hl 1 rfl) ?_
  refine lv_if_ne (tgt := 11) hx hb dX12_fault_1 (by decide) (fun c1 => ?_) (fun c1 => ?_)
  · refine lv_iload_n hx hb dX12_fault_11 rfl (lv_at hl 1 rfl) ?_
    refine lv_iconst (v := 1) hx hb dX12_fault_12 (by decide) ?_
    refine lv_icmp_ne (tgt := 23) hx hb dX12_fault_13 (by decide) (fun c2 => ?_) (fun c2 => ?_)
    · refine lv_iconst (v := (-1)) hx hb dX12_fault_23 (by decide) ?_
      exact kr_z hx hb hr rfl hlocks hP hD hS [] [] (by decide) rfl (Or.inl ⟨(Or.inl ⟨c1, c2⟩), rfl, rfl⟩) (by decide) (by decide) dX12_fault_24
    · refine lv_aload_n hx hb dX12_fault_16 rfl (lv_at hl 0 rfl) ?_
      refine va_get (D := D) (ci := 12) (v := .int (-1)) (C := RX12) (T := TX12) (N := 38) hx hb hB inB_X12 hown hK.1 hP 0 rfl rfl 13 (by decide) (hB _ mw_188) (fun _ h9 => h9) rfl dX12_fault_17 ?_
      refine lv_goto (tgt := 24) hx hb dX12_fault_20 (by decide) ?_
      exact kr_z hx hb hr rfl hlocks hP hD hS [] [] (by decide) rfl (Or.inl ⟨(Or.inr ⟨c1, c2⟩), rfl, rfl⟩) (by decide) (by decide) dX12_fault_24
  · refine lv_aload_n hx hb dX12_fault_4 rfl (lv_at hl 0 rfl) ?_
    refine va_get (D := D) (ci := 12) (v := .int 0) (C := RX12) (T := TX12) (N := 38) hx hb hB inB_X12 hown hK.1 hP 0 rfl rfl 12 (by decide) (hB _ mw_449) (fun _ h9 => h9) rfl dX12_fault_5 ?_
    refine lv_goto (tgt := 24) hx hb dX12_fault_8 (by decide) ?_
    exact kr_z hx hb hr rfl hlocks hP hD hS [] [] (by decide) rfl (Or.inr ⟨c1, rfl, rfl⟩) (by decide) (by decide) dX12_fault_24
set_option maxHeartbeats 4000000 in
set_option maxRecDepth 100000 in
theorem c149_X12_isGiving (l : Launch) (D : va_G) (ty : Nat → ClassId) (sz : Nat) (p0 : Int32) : cQ l yX12_isGiving cX12_isGiving 1 (some .boolean) 1 25 [.int p0] D ty [] sz (qI (fun (r : Int32) (u : va_W) => ((((0 ≤ (Int32.toInt64 p0)) ∧ ((Int32.toInt64 p0) ≤ 1))) ∧ 1 = r ∧ [] = u) ∨ ((((¬ (0 ≤ (Int32.toInt64 p0))) ∨ (¬ ((Int32.toInt64 p0) ≤ 1)))) ∧ 0 = r ∧ [] = u))) 0 0 := by
  refine cQ.of (by decide) (Nat.le_of_ble_eq_true rfl) (fun p e s m below meth c A ls C hsz hP hK hD hA hl => ?_)
  obtain ⟨hx, hb, hml, hown, hB, hr, hlocks, hin⟩ := C
  have hown : s.vm.findClass RX12 = some m.cls := hown
  have hS : va_S A s.heap s.heap [] := va_S.rf
  have hl : lv_has ls 1 [(0, .int p0)] := hl
  refine lv_iload_n hx hb dX12_isGiving_0 rfl (lv_at hl 0 rfl) ?_
  refine lv_i2l (v := (Int32.toInt64 p0)) hx hb dX12_isGiving_1 rfl ?_
  refine lv_lconst (v := 0) hx hb dX12_isGiving_2 (by decide) ?_
  refine lv_lconst (v := 1) hx hb dX12_isGiving_3 (by decide) ?_
  refine kc_i (va_runS (As := [.long (Int32.toInt64 p0), .long 0, .long 1]) (rest := []) ⟨hx, hb, hml, hown, hB⟩ (c_in l D ty s.heap.size (Int32.toInt64 p0) 0 1) (va_cwS 3 hB (bw_S mw_445 mw_446 mw_211 mw_444) rfl rfl rfl (by decide +kernel) ⟨Nat.le_of_ble_eq_true rfl, Nat.le_of_ble_eq_true rfl⟩) (kp_S hK hP hD [] (by decide) rfl) rfl rfl hl.1 rfl (lv_room (Nat.le_of_ble_eq_true rfl)) dX12_isGiving_4 ⟨Nat.le_of_ble_eq_true rfl, Nat.le_of_ble_eq_true rfl⟩) hP hD hS hA [] [] (wr := []) rfl rfl (by decide) (by decide) (fun r u H locs w1 hP hD hS => ?_)
  rcases w1 with ⟨c2, rfl, rfl⟩ | ⟨c3, rfl, rfl⟩
  · have hP : va_P D vwCl [] H := hP
    have hD : va_D A [] := hD
    exact kr_z hx hb hr rfl hlocks hP hD hS [] [] (by decide) rfl (Or.inl ⟨c2, rfl, rfl⟩) (by decide) (by decide) dX12_isGiving_7
  · have hP : va_P D vwCl [] H := hP
    have hD : va_D A [] := hD
    exact kr_z hx hb hr rfl hlocks hP hD hS [] [] (by decide) rfl (Or.inr ⟨c3, rfl, rfl⟩) (by decide) (by decide) dX12_isGiving_7
set_option maxHeartbeats 4000000 in
set_option maxRecDepth 100000 in
theorem c150_X12_isAlley (l : Launch) (D : va_G) (ty : Nat → ClassId) (sz : Nat) (h0 : Nat) (h1 : Nat) (p0 : Int32) (v0 : Value) (v1 : Value) (v2 : Value) (v3 : Value) (v4 : Value) (v5 : Value) (v6 : Value) (v7 : Value) (v8 : Value) (v9 : Value) (v10 : Value) (v11 : Value) (v12 : Value) (v13 : Value) (v14 : Value) (v15 : Value) (v16 : Value) (v17 : Value) (v18 : Value) (v19 : Value) (v20 : Value) (v21 : Value) (v22 : Value) (v23 : Value) (v24 : Value) (v25 : Value) (v26 : Value) (v27 : Value) (v28 : Value) (v29 : Value) (v30 : Value) (v31 : Value) (v32 : Value) (v33 : Value) (v34 : Value) (v35 : Value) (v36 : Value) : cQ l yX12_isAlley cX12_isAlley 2 (some .boolean) 1 25 [.ref h0, .int p0] D ty [(h0, .inr (12, [v0, .ref h1, v1, v2, v3, v4, v5, v6, v7, v8, v9, v10, v11, v12, v13, v14, v15, v16, v17, v18, v19, v20, v21, v22, v23, v24, v25, v26, v27, v28, v29, v30, v31, v32, v33, v34, v35, v36])), (h1, .inl (ty 1, 304, .inl (upd (upd (kf 0) 1 2) 4 (-1))))] sz (qI (fun (r : Int32) (u : va_W) => 0 = r ∧ [(h0, .inr (12, [v0, .ref h1, v1, v2, v3, v4, v5, v6, v7, v8, v9, v10, v11, v12, v13, v14, v15, v16, v17, v18, v19, v20, v21, v22, v23, v24, v25, v26, v27, v28, v29, v30, v31, v32, v33, v34, v35, v36])), (h1, .inl (ty 1, 304, .inl (upd (upd (kf 0) 1 2) 4 (-1))))] = u)) 0 0 := by
  refine cQ.of (by decide) (Nat.le_of_ble_eq_true rfl) (fun p e s m below meth c A ls C hsz hP hK hD hA hl => ?_)
  obtain ⟨hx, hb, hml, hown, hB, hr, hlocks, hin⟩ := C
  have hown : s.vm.findClass RX12 = some m.cls := hown
  have hS : va_S A s.heap s.heap [] := va_S.rf
  have hl : lv_has ls 2 [(0, .ref h0), (1, .int p0)] := hl
  refine lv_iload_n hx hb dX12_isAlley_0 rfl (lv_at hl 1 rfl) ?_
  refine lv_i2l (v := (Int32.toInt64 p0)) hx hb dX12_isAlley_1 rfl ?_
  refine lv_lconst (v := 0) hx hb dX12_isAlley_2 (by decide) ?_
  refine lv_aload_n hx hb dX12_isAlley_3 rfl (lv_at hl 0 rfl) ?_
  refine kc_i (va_runV (As := []) (rest := [.long 0, .long (Int32.toInt64 p0)]) ⟨hx, hb, hml, hown, hB⟩ (c146_X12_alleys l D ty s.heap.size h0 h1 v0 v1 v2 v3 v4 v5 v6 v7 v8 v9 v10 v11 v12 v13 v14 v15 v16 v17 v18 v19 v20 v21 v22 v23 v24 v25 v26 v27 v28 v29 v30 v31 v32 v33 v34 v35 v36) (cwV 0 hB (bw_V mw_465 mw_466 mw_467 mw_211 mw_464) rfl rfl rfl (by decide +kernel) ⟨Nat.le_of_ble_eq_true rfl, Nat.le_of_ble_eq_true rfl⟩) (kp_V hK hP hD [0, 1] (by decide) rfl 0 rfl rfl rfl) rfl rfl hl.1 rfl (lv_room (Nat.le_of_ble_eq_true rfl)) dX12_isAlley_4 ⟨Nat.le_of_ble_eq_true rfl, Nat.le_of_ble_eq_true rfl⟩) hP hD hS hA [0, 1] [] (wr := []) rfl rfl (by decide) (by decide) (fun r u H locs w1 hP hD hS => ?_)
  obtain ⟨rfl, rfl⟩ := w1
  have hP : va_P D vwCl [(h0, .inr (12, [v0, .ref h1, v1, v2, v3, v4, v5, v6, v7, v8, v9, v10, v11, v12, v13, v14, v15, v16, v17, v18, v19, v20, v21, v22, v23, v24, v25, v26, v27, v28, v29, v30, v31, v32, v33, v34, v35, v36])), (h1, .inl (ty 1, 304, .inl (upd (upd (kf 0) 1 2) 4 (-1))))] H := hP
  have hD : va_D A [(h0, .inr (12, [v0, .ref h1, v1, v2, v3, v4, v5, v6, v7, v8, v9, v10, v11, v12, v13, v14, v15, v16, v17, v18, v19, v20, v21, v22, v23, v24, v25, v26, v27, v28, v29, v30, v31, v32, v33, v34, v35, v36])), (h1, .inl (ty 1, 304, .inl (upd (upd (kf 0) 1 2) 4 (-1))))] := hD
  refine lv_iconst (v := 1) hx hb dX12_isAlley_7 (by decide) ?_
  refine lv_isub hx hb dX12_isAlley_8 ?_
  refine tp_i (v := (-1)) (by decide) ?_
  refine lv_i2l (v := (-1)) hx hb dX12_isAlley_9 (by decide) ?_
  refine kc_i (va_runS (As := [.long (Int32.toInt64 p0), .long 0, .long (-1)]) (rest := []) ⟨hx, hb, hml, hown, hB⟩ (c_in l D ty H.size (Int32.toInt64 p0) 0 (-1)) (va_cwS 3 hB (bw_S mw_445 mw_446 mw_211 mw_444) rfl rfl rfl (by decide +kernel) ⟨Nat.le_of_ble_eq_true rfl, Nat.le_of_ble_eq_true rfl⟩) (kp_S hK hP hD [] (by decide) rfl) rfl rfl hl.1 rfl (lv_room (Nat.le_of_ble_eq_true rfl)) dX12_isAlley_10 ⟨Nat.le_of_ble_eq_true rfl, Nat.le_of_ble_eq_true rfl⟩) hP hD hS hA [] [0, 1] (wr := [(h0, .inr (12, [v0, .ref h1, v1, v2, v3, v4, v5, v6, v7, v8, v9, v10, v11, v12, v13, v14, v15, v16, v17, v18, v19, v20, v21, v22, v23, v24, v25, v26, v27, v28, v29, v30, v31, v32, v33, v34, v35, v36])), (h1, .inl (ty 1, 304, .inl (upd (upd (kf 0) 1 2) 4 (-1))))]) rfl rfl (by decide) (by decide) (fun r u H locs w2 hP hD hS => ?_)
  rcases w2 with ⟨c3, rfl, rfl⟩ | ⟨c4, rfl, rfl⟩
  · exact (ps_5 p0  c3).elim
  · have hP : va_P D vwCl [(h0, .inr (12, [v0, .ref h1, v1, v2, v3, v4, v5, v6, v7, v8, v9, v10, v11, v12, v13, v14, v15, v16, v17, v18, v19, v20, v21, v22, v23, v24, v25, v26, v27, v28, v29, v30, v31, v32, v33, v34, v35, v36])), (h1, .inl (ty 1, 304, .inl (upd (upd (kf 0) 1 2) 4 (-1))))] H := hP
    have hD : va_D A [(h0, .inr (12, [v0, .ref h1, v1, v2, v3, v4, v5, v6, v7, v8, v9, v10, v11, v12, v13, v14, v15, v16, v17, v18, v19, v20, v21, v22, v23, v24, v25, v26, v27, v28, v29, v30, v31, v32, v33, v34, v35, v36])), (h1, .inl (ty 1, 304, .inl (upd (upd (kf 0) 1 2) 4 (-1))))] := hD
    exact kr_z hx hb hr rfl hlocks hP hD hS [(h0, .inr (12, [v0, .ref h1, v1, v2, v3, v4, v5, v6, v7, v8, v9, v10, v11, v12, v13, v14, v15, v16, v17, v18, v19, v20, v21, v22, v23, v24, v25, v26, v27, v28, v29, v30, v31, v32, v33, v34, v35, v36])), (h1, .inl (ty 1, 304, .inl (upd (upd (kf 0) 1 2) 4 (-1))))] [0, 1] (by decide) rfl ⟨rfl, rfl⟩ (by decide) (by decide) dX12_isAlley_13
set_option maxHeartbeats 4000000 in
set_option maxRecDepth 100000 in
theorem c148_X12_give (l : Launch) (D : va_G) (ty : Nat → ClassId) (sz : Nat) (h0 : Nat) (h1 : Nat) (p0 : Int32) (p1 : Int32) (p2 : Int32) (v0 : Value) (v1 : Value) (v2 : Value) (v3 : Value) (v4 : Value) (v5 : Value) (v6 : Value) (v7 : Value) (v8 : Value) (v9 : Value) (v10 : Value) (v11 : Value) (v12 : Value) (v13 : Value) (v14 : Value) (v15 : Value) (v16 : Value) (v17 : Value) (v18 : Value) (v19 : Value) (v20 : Value) (v21 : Value) (v22 : Value) (v23 : Value) (v24 : Value) (v25 : Value) (v26 : Value) (v27 : Value) (v28 : Value) (v29 : Value) (v30 : Value) (v31 : Value) (v32 : Value) (v33 : Value) (v34 : Value) (v35 : Value) (v36 : Value) : cQ l yX12_give cX12_give 5 (some .int) 2 46 [.ref h0, .int p0, .int p1, .int p2] D ty [(h0, .inr (12, [v0, .ref h1, v1, v2, v3, v4, v5, v6, v7, v8, v9, v10, v11, v12, v13, v14, v15, v16, v17, v18, v19, v20, v21, v22, v23, v24, v25, v26, v27, v28, v29, v30, v31, v32, v33, v34, v35, v36])), (h1, .inl (ty 1, 304, .inl (upd (upd (kf 0) 1 2) 4 (-1))))] sz (qI (fun (r : Int32) (u : va_W) => (-2) = r ∧ [] = u)) 0 0 := by
  refine cQ.of (by decide) (Nat.le_of_ble_eq_true rfl) (fun p e s m below meth c A ls C hsz hP hK hD hA hl => ?_)
  obtain ⟨hx, hb, hml, hown, hB, hr, hlocks, hin⟩ := C
  have hown : s.vm.findClass RX12 = some m.cls := hown
  have hS : va_S A s.heap s.heap [] := va_S.rf
  have hl : lv_has ls 5 [(0, .ref h0), (1, .int p0), (2, .int p1), (3, .int p2)] := hl
  refine lv_iload_n hx hb dX12_give_0 rfl (lv_at hl 1 rfl) ?_
  refine kc_i (va_runS (As := [.int p0]) (rest := []) ⟨hx, hb, hml, hown, hB⟩ (c149_X12_isGiving l D ty s.heap.size p0) (va_cwS 1 hB (bw_S mw_469 mw_470 mw_211 mw_468) rfl rfl rfl (by decide +kernel) ⟨Nat.le_of_ble_eq_true rfl, Nat.le_of_ble_eq_true rfl⟩) (kp_S hK hP hD [] (by decide) rfl) rfl rfl hl.1 rfl (lv_room (Nat.le_of_ble_eq_true rfl)) dX12_give_1 ⟨Nat.le_of_ble_eq_true rfl, Nat.le_of_ble_eq_true rfl⟩) hP hD hS hA [] [0, 1] (wr := [(h0, .inr (12, [v0, .ref h1, v1, v2, v3, v4, v5, v6, v7, v8, v9, v10, v11, v12, v13, v14, v15, v16, v17, v18, v19, v20, v21, v22, v23, v24, v25, v26, v27, v28, v29, v30, v31, v32, v33, v34, v35, v36])), (h1, .inl (ty 1, 304, .inl (upd (upd (kf 0) 1 2) 4 (-1))))]) rfl rfl (by decide) (by decide) (fun r u H locs w1 hP hD hS => ?_)
  rcases w1 with ⟨c2, rfl, rfl⟩ | ⟨c3, rfl, rfl⟩
  · have hP : va_P D vwCl [(h0, .inr (12, [v0, .ref h1, v1, v2, v3, v4, v5, v6, v7, v8, v9, v10, v11, v12, v13, v14, v15, v16, v17, v18, v19, v20, v21, v22, v23, v24, v25, v26, v27, v28, v29, v30, v31, v32, v33, v34, v35, v36])), (h1, .inl (ty 1, 304, .inl (upd (upd (kf 0) 1 2) 4 (-1))))] H := hP
    have hD : va_D A [(h0, .inr (12, [v0, .ref h1, v1, v2, v3, v4, v5, v6, v7, v8, v9, v10, v11, v12, v13, v14, v15, v16, v17, v18, v19, v20, v21, v22, v23, v24, v25, v26, v27, v28, v29, v30, v31, v32, v33, v34, v35, v36])), (h1, .inl (ty 1, 304, .inl (upd (upd (kf 0) 1 2) 4 (-1))))] := hD
    refine lv_if_eq (tgt := 25) hx hb dX12_give_4 (by decide) (fun h9 => absurd h9 (by decide)) (fun _ => ?_)
    refine lv_aload_n hx hb dX12_give_7 rfl (lv_at hl 0 rfl) ?_
    refine lv_iload_n hx hb dX12_give_8 rfl (lv_at hl 2 rfl) ?_
    refine kc_i (va_runV (As := [.int p1]) (rest := []) ⟨hx, hb, hml, hown, hB⟩ (c150_X12_isAlley l D ty H.size h0 h1 p1 v0 v1 v2 v3 v4 v5 v6 v7 v8 v9 v10 v11 v12 v13 v14 v15 v16 v17 v18 v19 v20 v21 v22 v23 v24 v25 v26 v27 v28 v29 v30 v31 v32 v33 v34 v35 v36) (cwV 1 hB (bw_V mw_472 mw_473 mw_474 mw_211 mw_471) rfl rfl rfl (by decide +kernel) ⟨Nat.le_of_ble_eq_true rfl, Nat.le_of_ble_eq_true rfl⟩) (kp_V hK hP hD [0, 1] (by decide) rfl 0 rfl rfl rfl) rfl rfl hl.1 rfl (lv_room (Nat.le_of_ble_eq_true rfl)) dX12_give_9 ⟨Nat.le_of_ble_eq_true rfl, Nat.le_of_ble_eq_true rfl⟩) hP hD hS hA [0, 1] [] (wr := []) rfl rfl (by decide) (by decide) (fun r u H locs w4 hP hD hS => ?_)
    obtain ⟨rfl, rfl⟩ := w4
    have hP : va_P D vwCl [(h0, .inr (12, [v0, .ref h1, v1, v2, v3, v4, v5, v6, v7, v8, v9, v10, v11, v12, v13, v14, v15, v16, v17, v18, v19, v20, v21, v22, v23, v24, v25, v26, v27, v28, v29, v30, v31, v32, v33, v34, v35, v36])), (h1, .inl (ty 1, 304, .inl (upd (upd (kf 0) 1 2) 4 (-1))))] H := hP
    have hD : va_D A [(h0, .inr (12, [v0, .ref h1, v1, v2, v3, v4, v5, v6, v7, v8, v9, v10, v11, v12, v13, v14, v15, v16, v17, v18, v19, v20, v21, v22, v23, v24, v25, v26, v27, v28, v29, v30, v31, v32, v33, v34, v35, v36])), (h1, .inl (ty 1, 304, .inl (upd (upd (kf 0) 1 2) 4 (-1))))] := hD
    refine lv_if_eq (tgt := 25) hx hb dX12_give_12 (by decide) (fun _ => ?_) (fun h9 => absurd (by decide) h9)
    refine lv_bipush (v := (-2)) hx hb dX12_give_25 (by decide) ?_
    exact kr_z hx hb hr rfl hlocks hP hD hS [] [] (by decide) rfl ⟨rfl, rfl⟩ (by decide) (by decide) dX12_give_27
  · have hP : va_P D vwCl [(h0, .inr (12, [v0, .ref h1, v1, v2, v3, v4, v5, v6, v7, v8, v9, v10, v11, v12, v13, v14, v15, v16, v17, v18, v19, v20, v21, v22, v23, v24, v25, v26, v27, v28, v29, v30, v31, v32, v33, v34, v35, v36])), (h1, .inl (ty 1, 304, .inl (upd (upd (kf 0) 1 2) 4 (-1))))] H := hP
    have hD : va_D A [(h0, .inr (12, [v0, .ref h1, v1, v2, v3, v4, v5, v6, v7, v8, v9, v10, v11, v12, v13, v14, v15, v16, v17, v18, v19, v20, v21, v22, v23, v24, v25, v26, v27, v28, v29, v30, v31, v32, v33, v34, v35, v36])), (h1, .inl (ty 1, 304, .inl (upd (upd (kf 0) 1 2) 4 (-1))))] := hD
    refine lv_if_eq (tgt := 25) hx hb dX12_give_4 (by decide) (fun _ => ?_) (fun h9 => absurd (by decide) h9)
    refine lv_bipush (v := (-2)) hx hb dX12_give_25 (by decide) ?_
    exact kr_z hx hb hr rfl hlocks hP hD hS [] [] (by decide) rfl ⟨rfl, rfl⟩ (by decide) (by decide) dX12_give_27
set_option maxHeartbeats 4000000 in
set_option maxRecDepth 100000 in
theorem c152_X12_isSlot (l : Launch) (D : va_G) (ty : Nat → ClassId) (sz : Nat) (p0 : Int32) : cQ l yX12_isSlot cX12_isSlot 1 (some .boolean) 1 25 [.int p0] D ty [] sz (qI (fun (r : Int32) (u : va_W) => ((((0 ≤ (Int32.toInt64 p0)) ∧ ((Int32.toInt64 p0) ≤ 3))) ∧ 1 = r ∧ [] = u) ∨ ((((¬ (0 ≤ (Int32.toInt64 p0))) ∨ (¬ ((Int32.toInt64 p0) ≤ 3)))) ∧ 0 = r ∧ [] = u))) 0 0 := by
  refine cQ.of (by decide) (Nat.le_of_ble_eq_true rfl) (fun p e s m below meth c A ls C hsz hP hK hD hA hl => ?_)
  obtain ⟨hx, hb, hml, hown, hB, hr, hlocks, hin⟩ := C
  have hown : s.vm.findClass RX12 = some m.cls := hown
  have hS : va_S A s.heap s.heap [] := va_S.rf
  have hl : lv_has ls 1 [(0, .int p0)] := hl
  refine lv_iload_n hx hb dX12_isSlot_0 rfl (lv_at hl 0 rfl) ?_
  refine lv_i2l (v := (Int32.toInt64 p0)) hx hb dX12_isSlot_1 rfl ?_
  refine lv_lconst (v := 0) hx hb dX12_isSlot_2 (by decide) ?_
  refine lv_ldc2 hx hb hown (hB _ mw_475) dX12_isSlot_3 ?_
  refine kc_i (va_runS (As := [.long (Int32.toInt64 p0), .long 0, .long 3]) (rest := []) ⟨hx, hb, hml, hown, hB⟩ (c_in l D ty s.heap.size (Int32.toInt64 p0) 0 3) (va_cwS 3 hB (bw_S mw_445 mw_446 mw_211 mw_444) rfl rfl rfl (by decide +kernel) ⟨Nat.le_of_ble_eq_true rfl, Nat.le_of_ble_eq_true rfl⟩) (kp_S hK hP hD [] (by decide) rfl) rfl rfl hl.1 rfl (lv_room (Nat.le_of_ble_eq_true rfl)) dX12_isSlot_6 ⟨Nat.le_of_ble_eq_true rfl, Nat.le_of_ble_eq_true rfl⟩) hP hD hS hA [] [] (wr := []) rfl rfl (by decide) (by decide) (fun r u H locs w1 hP hD hS => ?_)
  rcases w1 with ⟨c2, rfl, rfl⟩ | ⟨c3, rfl, rfl⟩
  · have hP : va_P D vwCl [] H := hP
    have hD : va_D A [] := hD
    exact kr_z hx hb hr rfl hlocks hP hD hS [] [] (by decide) rfl (Or.inl ⟨c2, rfl, rfl⟩) (by decide) (by decide) dX12_isSlot_9
  · have hP : va_P D vwCl [] H := hP
    have hD : va_D A [] := hD
    exact kr_z hx hb hr rfl hlocks hP hD hS [] [] (by decide) rfl (Or.inr ⟨c3, rfl, rfl⟩) (by decide) (by decide) dX12_isSlot_9
set_option maxHeartbeats 4000000 in
set_option maxRecDepth 100000 in
theorem c151_X12_gives (l : Launch) (D : va_G) (ty : Nat → ClassId) (sz : Nat) (h0 : Nat) (h1 : Nat) (p0 : Int32) (p1 : Int32) (v0 : Value) (v1 : Value) (v2 : Value) (v3 : Value) (v4 : Value) (v5 : Value) (v6 : Value) (v7 : Value) (v8 : Value) (v9 : Value) (v10 : Value) (v11 : Value) (v12 : Value) (v13 : Value) (v14 : Value) (v15 : Value) (v16 : Value) (v17 : Value) (v18 : Value) (v19 : Value) (v20 : Value) (v21 : Value) (v22 : Value) (v23 : Value) (v24 : Value) (v25 : Value) (v26 : Value) (v27 : Value) (v28 : Value) (v29 : Value) (v30 : Value) (v31 : Value) (v32 : Value) (v33 : Value) (v34 : Value) (v35 : Value) (v36 : Value) : cQ l yX12_gives cX12_gives 5 (some .int) 2 45 [.ref h0, .int p0, .int p1] D ty [(h0, .inr (12, [v0, v1, v2, v3, v4, v5, v6, v7, v8, v9, v10, v11, v12, v13, v14, v15, v16, v17, v18, v19, v20, v21, v22, v23, v24, v25, v26, v27, v28, v29, v30, v31, v32, v33, .ref h1, v34, v35, v36])), (h1, .inl (ty 1, 4, .inl (upd (upd (upd (upd (kf 0) 0 (-1)) 1 (-1)) 2 (-1)) 3 (-1))))] sz (qI (fun (r : Int32) (u : va_W) => ((((((0 ≤ (Int32.toInt64 p0)) ∧ ((Int32.toInt64 p0) ≤ 1))) ∧ (((0 ≤ (Int32.toInt64 p1)) ∧ ((Int32.toInt64 p1) ≤ 3))) ∧ (p1 = 0)) ∨ ((((0 ≤ (Int32.toInt64 p0)) ∧ ((Int32.toInt64 p0) ≤ 1))) ∧ (((0 ≤ (Int32.toInt64 p1)) ∧ ((Int32.toInt64 p1) ≤ 3))) ∧ (p1 = 1)) ∨ ((((0 ≤ (Int32.toInt64 p0)) ∧ ((Int32.toInt64 p0) ≤ 1))) ∧ (((0 ≤ (Int32.toInt64 p1)) ∧ ((Int32.toInt64 p1) ≤ 3))) ∧ (p1 = 2)) ∨ ((((0 ≤ (Int32.toInt64 p0)) ∧ ((Int32.toInt64 p0) ≤ 1))) ∧ (((0 ≤ (Int32.toInt64 p1)) ∧ ((Int32.toInt64 p1) ≤ 3))) ∧ (p1 = 3))) ∧ (-6) = r ∧ [] = u) ∨ ((((((0 ≤ (Int32.toInt64 p0)) ∧ ((Int32.toInt64 p0) ≤ 1))) ∧ (((¬ (0 ≤ (Int32.toInt64 p1))) ∨ (¬ ((Int32.toInt64 p1) ≤ 3))))) ∨ ((((¬ (0 ≤ (Int32.toInt64 p0))) ∨ (¬ ((Int32.toInt64 p0) ≤ 1)))))) ∧ (-2) = r ∧ [] = u))) 0 0 := by
  refine cQ.of (by decide) (Nat.le_of_ble_eq_true rfl) (fun p e s m below meth c A ls C hsz hP hK hD hA hl => ?_)
  obtain ⟨hx, hb, hml, hown, hB, hr, hlocks, hin⟩ := C
  have hown : s.vm.findClass RX12 = some m.cls := hown
  have hS : va_S A s.heap s.heap [] := va_S.rf
  have hl : lv_has ls 5 [(0, .ref h0), (1, .int p0), (2, .int p1)] := hl
  refine lv_iload_n hx hb dX12_gives_0 rfl (lv_at hl 1 rfl) ?_
  refine kc_i (va_runS (As := [.int p0]) (rest := []) ⟨hx, hb, hml, hown, hB⟩ (c149_X12_isGiving l D ty s.heap.size p0) (va_cwS 1 hB (bw_S mw_469 mw_470 mw_211 mw_468) rfl rfl rfl (by decide +kernel) ⟨Nat.le_of_ble_eq_true rfl, Nat.le_of_ble_eq_true rfl⟩) (kp_S hK hP hD [] (by decide) rfl) rfl rfl hl.1 rfl (lv_room (Nat.le_of_ble_eq_true rfl)) dX12_gives_1 ⟨Nat.le_of_ble_eq_true rfl, Nat.le_of_ble_eq_true rfl⟩) hP hD hS hA [] [0, 1] (wr := [(h0, .inr (12, [v0, v1, v2, v3, v4, v5, v6, v7, v8, v9, v10, v11, v12, v13, v14, v15, v16, v17, v18, v19, v20, v21, v22, v23, v24, v25, v26, v27, v28, v29, v30, v31, v32, v33, .ref h1, v34, v35, v36])), (h1, .inl (ty 1, 4, .inl (upd (upd (upd (upd (kf 0) 0 (-1)) 1 (-1)) 2 (-1)) 3 (-1))))]) rfl rfl (by decide) (by decide) (fun r u H locs w1 hP hD hS => ?_)
  rcases w1 with ⟨c2, rfl, rfl⟩ | ⟨c3, rfl, rfl⟩
  · have hP : va_P D vwCl [(h0, .inr (12, [v0, v1, v2, v3, v4, v5, v6, v7, v8, v9, v10, v11, v12, v13, v14, v15, v16, v17, v18, v19, v20, v21, v22, v23, v24, v25, v26, v27, v28, v29, v30, v31, v32, v33, .ref h1, v34, v35, v36])), (h1, .inl (ty 1, 4, .inl (upd (upd (upd (upd (kf 0) 0 (-1)) 1 (-1)) 2 (-1)) 3 (-1))))] H := hP
    have hD : va_D A [(h0, .inr (12, [v0, v1, v2, v3, v4, v5, v6, v7, v8, v9, v10, v11, v12, v13, v14, v15, v16, v17, v18, v19, v20, v21, v22, v23, v24, v25, v26, v27, v28, v29, v30, v31, v32, v33, .ref h1, v34, v35, v36])), (h1, .inl (ty 1, 4, .inl (upd (upd (upd (upd (kf 0) 0 (-1)) 1 (-1)) 2 (-1)) 3 (-1))))] := hD
    refine lv_if_eq (tgt := 14) hx hb dX12_gives_4 (by decide) (fun h9 => absurd h9 (by decide)) (fun _ => ?_)
    refine lv_iload_n hx hb dX12_gives_7 rfl (lv_at hl 2 rfl) ?_
    refine kc_i (va_runS (As := [.int p1]) (rest := []) ⟨hx, hb, hml, hown, hB⟩ (c152_X12_isSlot l D ty H.size p1) (va_cwS 1 hB (bw_S mw_477 mw_478 mw_211 mw_476) rfl rfl rfl (by decide +kernel) ⟨Nat.le_of_ble_eq_true rfl, Nat.le_of_ble_eq_true rfl⟩) (kp_S hK hP hD [] (by decide) rfl) rfl rfl hl.1 rfl (lv_room (Nat.le_of_ble_eq_true rfl)) dX12_gives_8 ⟨Nat.le_of_ble_eq_true rfl, Nat.le_of_ble_eq_true rfl⟩) hP hD hS hA [] [0, 1] (wr := [(h0, .inr (12, [v0, v1, v2, v3, v4, v5, v6, v7, v8, v9, v10, v11, v12, v13, v14, v15, v16, v17, v18, v19, v20, v21, v22, v23, v24, v25, v26, v27, v28, v29, v30, v31, v32, v33, .ref h1, v34, v35, v36])), (h1, .inl (ty 1, 4, .inl (upd (upd (upd (upd (kf 0) 0 (-1)) 1 (-1)) 2 (-1)) 3 (-1))))]) rfl rfl (by decide) (by decide) (fun r u H locs w4 hP hD hS => ?_)
    rcases w4 with ⟨c5, rfl, rfl⟩ | ⟨c6, rfl, rfl⟩
    · have hP : va_P D vwCl [(h0, .inr (12, [v0, v1, v2, v3, v4, v5, v6, v7, v8, v9, v10, v11, v12, v13, v14, v15, v16, v17, v18, v19, v20, v21, v22, v23, v24, v25, v26, v27, v28, v29, v30, v31, v32, v33, .ref h1, v34, v35, v36])), (h1, .inl (ty 1, 4, .inl (upd (upd (upd (upd (kf 0) 0 (-1)) 1 (-1)) 2 (-1)) 3 (-1))))] H := hP
      have hD : va_D A [(h0, .inr (12, [v0, v1, v2, v3, v4, v5, v6, v7, v8, v9, v10, v11, v12, v13, v14, v15, v16, v17, v18, v19, v20, v21, v22, v23, v24, v25, v26, v27, v28, v29, v30, v31, v32, v33, .ref h1, v34, v35, v36])), (h1, .inl (ty 1, 4, .inl (upd (upd (upd (upd (kf 0) 0 (-1)) 1 (-1)) 2 (-1)) 3 (-1))))] := hD
      refine lv_if_ne (tgt := 17) hx hb dX12_gives_11 (by decide) (fun _ => ?_) (fun h9 => absurd h9 (by decide))
      refine lv_aload_n hx hb dX12_gives_17 rfl (lv_at hl 0 rfl) ?_
      refine va_get (D := D) (ci := 12) (v := .ref h1) (C := RX12) (T := TX12) (N := 38) hx hb hB inB_X12 hown hK.1 hP 0 rfl rfl 34 (by decide) (hB _ mw_204) (fun _ h9 => h9) rfl dX12_gives_18 ?_
      refine lv_iload_n hx hb dX12_gives_21 rfl (lv_at hl 2 rfl) ?_
      rcases ps_6 p1 c5 with rfl | rfl | rfl | rfl
      · refine va_iald hx hb hK.1 hP 1 1 rfl rfl (by unfold vp_in; decide) dX12_gives_22 ?_
        refine tp_i (v := (-1)) rfl ?_
        refine lv_iconst (v := (-1)) hx hb dX12_gives_23 (by decide) ?_
        refine lv_icmp_ne (tgt := 30) hx hb dX12_gives_24 (by decide) (fun h9 => absurd (by decide) h9) (fun _ => ?_)
        refine lv_bipush (v := (-6)) hx hb dX12_gives_27 (by decide) ?_
        exact kr_z hx hb hr rfl hlocks hP hD hS [] [] (by decide) rfl (Or.inl ⟨(Or.inl ⟨c2, c5, rfl⟩), rfl, rfl⟩) (by decide) (by decide) dX12_gives_29
      · refine va_iald hx hb hK.1 hP 1 1 rfl rfl (by unfold vp_in; decide) dX12_gives_22 ?_
        refine tp_i (v := (-1)) rfl ?_
        refine lv_iconst (v := (-1)) hx hb dX12_gives_23 (by decide) ?_
        refine lv_icmp_ne (tgt := 30) hx hb dX12_gives_24 (by decide) (fun h9 => absurd (by decide) h9) (fun _ => ?_)
        refine lv_bipush (v := (-6)) hx hb dX12_gives_27 (by decide) ?_
        exact kr_z hx hb hr rfl hlocks hP hD hS [] [] (by decide) rfl (Or.inl ⟨(Or.inr (Or.inl ⟨c2, c5, rfl⟩)), rfl, rfl⟩) (by decide) (by decide) dX12_gives_29
      · refine va_iald hx hb hK.1 hP 1 1 rfl rfl (by unfold vp_in; decide) dX12_gives_22 ?_
        refine tp_i (v := (-1)) rfl ?_
        refine lv_iconst (v := (-1)) hx hb dX12_gives_23 (by decide) ?_
        refine lv_icmp_ne (tgt := 30) hx hb dX12_gives_24 (by decide) (fun h9 => absurd (by decide) h9) (fun _ => ?_)
        refine lv_bipush (v := (-6)) hx hb dX12_gives_27 (by decide) ?_
        exact kr_z hx hb hr rfl hlocks hP hD hS [] [] (by decide) rfl (Or.inl ⟨(Or.inr (Or.inr (Or.inl ⟨c2, c5, rfl⟩))), rfl, rfl⟩) (by decide) (by decide) dX12_gives_29
      · refine va_iald hx hb hK.1 hP 1 1 rfl rfl (by unfold vp_in; decide) dX12_gives_22 ?_
        refine tp_i (v := (-1)) rfl ?_
        refine lv_iconst (v := (-1)) hx hb dX12_gives_23 (by decide) ?_
        refine lv_icmp_ne (tgt := 30) hx hb dX12_gives_24 (by decide) (fun h9 => absurd (by decide) h9) (fun _ => ?_)
        refine lv_bipush (v := (-6)) hx hb dX12_gives_27 (by decide) ?_
        exact kr_z hx hb hr rfl hlocks hP hD hS [] [] (by decide) rfl (Or.inl ⟨(Or.inr (Or.inr (Or.inr ⟨c2, c5, rfl⟩))), rfl, rfl⟩) (by decide) (by decide) dX12_gives_29
    · have hP : va_P D vwCl [(h0, .inr (12, [v0, v1, v2, v3, v4, v5, v6, v7, v8, v9, v10, v11, v12, v13, v14, v15, v16, v17, v18, v19, v20, v21, v22, v23, v24, v25, v26, v27, v28, v29, v30, v31, v32, v33, .ref h1, v34, v35, v36])), (h1, .inl (ty 1, 4, .inl (upd (upd (upd (upd (kf 0) 0 (-1)) 1 (-1)) 2 (-1)) 3 (-1))))] H := hP
      have hD : va_D A [(h0, .inr (12, [v0, v1, v2, v3, v4, v5, v6, v7, v8, v9, v10, v11, v12, v13, v14, v15, v16, v17, v18, v19, v20, v21, v22, v23, v24, v25, v26, v27, v28, v29, v30, v31, v32, v33, .ref h1, v34, v35, v36])), (h1, .inl (ty 1, 4, .inl (upd (upd (upd (upd (kf 0) 0 (-1)) 1 (-1)) 2 (-1)) 3 (-1))))] := hD
      refine lv_if_ne (tgt := 17) hx hb dX12_gives_11 (by decide) (fun h9 => absurd (by decide) h9) (fun _ => ?_)
      refine lv_bipush (v := (-2)) hx hb dX12_gives_14 (by decide) ?_
      exact kr_z hx hb hr rfl hlocks hP hD hS [] [] (by decide) rfl (Or.inr ⟨(Or.inl ⟨c2, c6⟩), rfl, rfl⟩) (by decide) (by decide) dX12_gives_16
  · have hP : va_P D vwCl [(h0, .inr (12, [v0, v1, v2, v3, v4, v5, v6, v7, v8, v9, v10, v11, v12, v13, v14, v15, v16, v17, v18, v19, v20, v21, v22, v23, v24, v25, v26, v27, v28, v29, v30, v31, v32, v33, .ref h1, v34, v35, v36])), (h1, .inl (ty 1, 4, .inl (upd (upd (upd (upd (kf 0) 0 (-1)) 1 (-1)) 2 (-1)) 3 (-1))))] H := hP
    have hD : va_D A [(h0, .inr (12, [v0, v1, v2, v3, v4, v5, v6, v7, v8, v9, v10, v11, v12, v13, v14, v15, v16, v17, v18, v19, v20, v21, v22, v23, v24, v25, v26, v27, v28, v29, v30, v31, v32, v33, .ref h1, v34, v35, v36])), (h1, .inl (ty 1, 4, .inl (upd (upd (upd (upd (kf 0) 0 (-1)) 1 (-1)) 2 (-1)) 3 (-1))))] := hD
    refine lv_if_eq (tgt := 14) hx hb dX12_gives_4 (by decide) (fun _ => ?_) (fun h9 => absurd (by decide) h9)
    refine lv_bipush (v := (-2)) hx hb dX12_gives_14 (by decide) ?_
    exact kr_z hx hb hr rfl hlocks hP hD hS [] [] (by decide) rfl (Or.inr ⟨(Or.inr c3), rfl, rfl⟩) (by decide) (by decide) dX12_gives_16
