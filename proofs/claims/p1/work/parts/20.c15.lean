set_option maxHeartbeats 4000000 in
set_option maxRecDepth 100000 in
theorem c170_X12_bar (l : Launch) (D : va_G) (ty : Nat → ClassId) (sz : Nat) (h0 : Nat) (h1 : Nat) (h2 : Nat) (p0 : Int32) (v0 : Value) (v1 : Value) (v2 : Value) (v3 : Value) (v4 : Value) (v5 : Value) (v6 : Value) (v7 : Value) (v8 : Value) (v9 : Value) (v10 : Value) (v11 : Value) (v12 : Value) (v13 : Value) (v14 : Value) (v15 : Value) (v16 : Value) (v17 : Value) (v18 : Value) (v19 : Value) (v20 : Value) (v21 : Value) (v22 : Value) (v23 : Value) (v24 : Value) (v25 : Value) (v26 : Value) (v27 : Value) (v28 : Value) (v29 : Value) (v30 : Value) (v31 : Value) (v32 : Value) (v33 : Value) (v34 : Value) (v35 : Value) (f0 : Nat → Int32) : cQ l yX12_bar cX12_bar 2 (some .int) 4 89 [.ref h0, .int p0] D ty [(h0, .inr (12, [v0, .ref h1, v1, v2, v3, v4, v5, v6, v7, v8, v9, v10, v11, v12, v13, v14, v15, .ref h2, v16, v17, v18, v19, v20, v21, v22, v23, v24, v25, v26, v27, v28, v29, v30, v31, v32, v33, v34, v35])), (h1, .inl (ty 1, 304, .inl (upd (upd (kf 0) 1 2) 4 (-1)))), (h2, .inl (ty 1, 256, .inl f0))] sz (qI (fun (r : Int32) (u : va_W) => (((((0 ≤ (Int32.toInt64 p0)) ∧ ((Int32.toInt64 p0) ≤ 1)))) ∧ (-3) = r ∧ [] = u) ∨ (((((¬ (0 ≤ (Int32.toInt64 p0))) ∨ (¬ ((Int32.toInt64 p0) ≤ 1))))) ∧ (-2) = r ∧ [] = u))) 0 0 := by
  refine cQ.of (by decide) (Nat.le_of_ble_eq_true rfl) (fun p e s m below meth c A ls C hsz hP hK hD hA hl => ?_)
  obtain ⟨hx, hb, hml, hown, hB, hr, hlocks, hin⟩ := C
  have hown : s.vm.findClass RX12 = some m.cls := hown
  have hS : va_S A s.heap s.heap [] := va_S.rf
  have hl : lv_has ls 2 [(0, .ref h0), (1, .int p0)] := hl
  refine lv_iload_n hx hb dX12_bar_0 rfl (lv_at hl 1 rfl) ?_
  refine kc_i (va_runS (As := [.int p0]) (rest := []) ⟨hx, hb, hml, hown, hB⟩ (c149_X12_isGiving l D ty s.heap.size p0) (va_cwS 1 hB (bw_S mw_469 mw_470 mw_211 mw_468) rfl rfl rfl (by decide +kernel) ⟨Nat.le_of_ble_eq_true rfl, Nat.le_of_ble_eq_true rfl⟩) (kp_S hK hP hD [] (by decide) rfl) rfl rfl hl.1 rfl (lv_room (Nat.le_of_ble_eq_true rfl)) dX12_bar_1 ⟨Nat.le_of_ble_eq_true rfl, Nat.le_of_ble_eq_true rfl⟩) hP hD hS hA [] [0, 1, 2] (wr := [(h0, .inr (12, [v0, .ref h1, v1, v2, v3, v4, v5, v6, v7, v8, v9, v10, v11, v12, v13, v14, v15, .ref h2, v16, v17, v18, v19, v20, v21, v22, v23, v24, v25, v26, v27, v28, v29, v30, v31, v32, v33, v34, v35])), (h1, .inl (ty 1, 304, .inl (upd (upd (kf 0) 1 2) 4 (-1)))), (h2, .inl (ty 1, 256, .inl f0))]) rfl rfl (by decide) (by decide) (fun r u H locs w1 hP hD hS => ?_)
  rcases w1 with ⟨c2, rfl, rfl⟩ | ⟨c3, rfl, rfl⟩
  · have hP : va_P D vwCl [(h0, .inr (12, [v0, .ref h1, v1, v2, v3, v4, v5, v6, v7, v8, v9, v10, v11, v12, v13, v14, v15, .ref h2, v16, v17, v18, v19, v20, v21, v22, v23, v24, v25, v26, v27, v28, v29, v30, v31, v32, v33, v34, v35])), (h1, .inl (ty 1, 304, .inl (upd (upd (kf 0) 1 2) 4 (-1)))), (h2, .inl (ty 1, 256, .inl f0))] H := hP
    have hD : va_D A [(h0, .inr (12, [v0, .ref h1, v1, v2, v3, v4, v5, v6, v7, v8, v9, v10, v11, v12, v13, v14, v15, .ref h2, v16, v17, v18, v19, v20, v21, v22, v23, v24, v25, v26, v27, v28, v29, v30, v31, v32, v33, v34, v35])), (h1, .inl (ty 1, 304, .inl (upd (upd (kf 0) 1 2) 4 (-1)))), (h2, .inl (ty 1, 256, .inl f0))] := hD
    refine lv_if_ne (tgt := 10) hx hb dX12_bar_4 (by decide) (fun _ => ?_) (fun h9 => absurd h9 (by decide))
    refine lv_aload_n hx hb dX12_bar_10 rfl (lv_at hl 0 rfl) ?_
    refine lv_iload_n hx hb dX12_bar_11 rfl (lv_at hl 1 rfl) ?_
    refine kc_v (va_runV (As := [.int p0]) (rest := []) ⟨hx, hb, hml, hown, hB⟩ (c156_X12_tries l D ty H.size h0 h1 p0 v0 v1 v2 v3 v4 v5 v6 v7 v8 v9 v10 v11 v12 v13 v14 v15 (.ref h2) v16 v17 v18 v19 v20 v21 v22 v23 v24 v25 v26 v27 v28 v29 v30 v31 v32 v33 v34 v35) (cwV 1 hB (bw_V mw_480 mw_481 mw_482 mw_211 mw_479) rfl rfl rfl (by decide +kernel) ⟨Nat.le_of_ble_eq_true rfl, Nat.le_of_ble_eq_true rfl⟩) (kp_V hK hP hD [0, 1] (by decide) rfl 0 rfl rfl rfl) rfl rfl hl.1 rfl (lv_room (Nat.le_of_ble_eq_true rfl)) dX12_bar_12 ⟨Nat.le_of_ble_eq_true rfl, Nat.le_of_ble_eq_true rfl⟩) hP hD hS hA [0, 1] [2] (wr := [(h2, .inl (ty 1, 256, .inl f0))]) rfl rfl (by decide) (by decide) (fun u H locs w4 hP hD hS => ?_)
    subst w4
    have hP : va_P D vwCl [(h2, .inl (ty 1, 256, .inl f0)), (h0, .inr (12, [v0, .ref h1, v1, v2, v3, v4, v5, v6, v7, v8, v9, v10, v11, v12, v13, v14, v15, .ref h2, v16, v17, v18, v19, v20, v21, v22, v23, v24, v25, v26, v27, v28, v29, v30, v31, v32, v33, v34, v35])), (h1, .inl (ty 1, 304, .inl (upd (upd (kf 0) 1 2) 4 (-1))))] H := hP
    have hD : va_D A [(h2, .inl (ty 1, 256, .inl f0)), (h0, .inr (12, [v0, .ref h1, v1, v2, v3, v4, v5, v6, v7, v8, v9, v10, v11, v12, v13, v14, v15, .ref h2, v16, v17, v18, v19, v20, v21, v22, v23, v24, v25, v26, v27, v28, v29, v30, v31, v32, v33, v34, v35])), (h1, .inl (ty 1, 304, .inl (upd (upd (kf 0) 1 2) 4 (-1))))] := hD
    refine lv_aload_n hx hb dX12_bar_15 rfl (lv_at hl 0 rfl) ?_
    refine kc_i (va_runV (As := []) (rest := []) ⟨hx, hb, hml, hown, hB⟩ (c157_X12_isWhole l D ty H.size h0 h1 h2 v0 v1 v2 v3 v4 v5 v6 v7 v8 v9 v10 v11 v12 v13 v14 v15 v16 v17 v18 v19 v20 v21 v22 v23 v24 v25 v26 v27 v28 v29 v30 v31 v32 v33 v34 v35 f0) (cwV 0 hB (bw_V mw_504 mw_505 mw_506 mw_211 mw_503) rfl rfl rfl (by decide +kernel) ⟨Nat.le_of_ble_eq_true rfl, Nat.le_of_ble_eq_true rfl⟩) (kp_V hK hP hD [1, 2, 0] (by decide) rfl 1 rfl rfl rfl) rfl rfl hl.1 rfl (lv_room (Nat.le_of_ble_eq_true rfl)) dX12_bar_16 ⟨Nat.le_of_ble_eq_true rfl, Nat.le_of_ble_eq_true rfl⟩) hP hD hS hA [1, 2, 0] [] (wr := []) rfl rfl (by decide) (by decide) (fun r u H locs w5 hP hD hS => ?_)
    obtain ⟨rfl, rfl⟩ := w5
    have hP : va_P D vwCl [(h2, .inl (ty 1, 256, .inl (upd (upd (upd (upd f0 0 0) 1 1000000) 16 1000000) 17 0))), (h0, .inr (12, [v0, .ref h1, v1, v2, v3, v4, v5, v6, v7, v8, v9, v10, v11, v12, v13, v14, v15, .ref h2, v16, v17, v18, v19, v20, v21, v22, v23, v24, v25, v26, v27, v28, v29, v30, v31, v32, v33, v34, v35])), (h1, .inl (ty 1, 304, .inl (upd (upd (kf 0) 1 2) 4 (-1))))] H := hP
    have hD : va_D A [(h2, .inl (ty 1, 256, .inl (upd (upd (upd (upd f0 0 0) 1 1000000) 16 1000000) 17 0))), (h0, .inr (12, [v0, .ref h1, v1, v2, v3, v4, v5, v6, v7, v8, v9, v10, v11, v12, v13, v14, v15, .ref h2, v16, v17, v18, v19, v20, v21, v22, v23, v24, v25, v26, v27, v28, v29, v30, v31, v32, v33, v34, v35])), (h1, .inl (ty 1, 304, .inl (upd (upd (kf 0) 1 2) 4 (-1))))] := hD
    refine lv_if_eq (tgt := 29) hx hb dX12_bar_19 (by decide) (fun _ => ?_) (fun h9 => absurd (by decide) h9)
    refine lv_bipush (v := (-3)) hx hb dX12_bar_29 (by decide) ?_
    exact kr_z hx hb hr rfl hlocks hP hD hS [] [] (by decide) rfl (Or.inl ⟨c2, rfl, rfl⟩) (by decide) (by decide) dX12_bar_31
  · have hP : va_P D vwCl [(h0, .inr (12, [v0, .ref h1, v1, v2, v3, v4, v5, v6, v7, v8, v9, v10, v11, v12, v13, v14, v15, .ref h2, v16, v17, v18, v19, v20, v21, v22, v23, v24, v25, v26, v27, v28, v29, v30, v31, v32, v33, v34, v35])), (h1, .inl (ty 1, 304, .inl (upd (upd (kf 0) 1 2) 4 (-1)))), (h2, .inl (ty 1, 256, .inl f0))] H := hP
    have hD : va_D A [(h0, .inr (12, [v0, .ref h1, v1, v2, v3, v4, v5, v6, v7, v8, v9, v10, v11, v12, v13, v14, v15, .ref h2, v16, v17, v18, v19, v20, v21, v22, v23, v24, v25, v26, v27, v28, v29, v30, v31, v32, v33, v34, v35])), (h1, .inl (ty 1, 304, .inl (upd (upd (kf 0) 1 2) 4 (-1)))), (h2, .inl (ty 1, 256, .inl f0))] := hD
    refine lv_if_ne (tgt := 10) hx hb dX12_bar_4 (by decide) (fun h9 => absurd (by decide) h9) (fun _ => ?_)
    refine lv_bipush (v := (-2)) hx hb dX12_bar_7 (by decide) ?_
    exact kr_z hx hb hr rfl hlocks hP hD hS [] [] (by decide) rfl (Or.inr ⟨c3, rfl, rfl⟩) (by decide) (by decide) dX12_bar_9
set_option maxHeartbeats 4000000 in
set_option maxRecDepth 100000 in
theorem c171_X12_cut (l : Launch) (D : va_G) (ty : Nat → ClassId) (sz : Nat) (h0 : Nat) (h1 : Nat) (h2 : Nat) (p0 : Int32) (v0 : Value) (v1 : Value) (v2 : Value) (v3 : Value) (v4 : Value) (v5 : Value) (v6 : Value) (v7 : Value) (v8 : Value) (v9 : Value) (v10 : Value) (v11 : Value) (v12 : Value) (v13 : Value) (v14 : Value) (v15 : Value) (v16 : Value) (v17 : Value) (v18 : Value) (v19 : Value) (v20 : Value) (v21 : Value) (v22 : Value) (v23 : Value) (v24 : Value) (v25 : Value) (v26 : Value) (v27 : Value) (v28 : Value) (v29 : Value) (v30 : Value) (v31 : Value) (v32 : Value) (v33 : Value) (v34 : Value) (v35 : Value) (f0 : Nat → Int32) : cQ l yX12_cut cX12_cut 5 (some .int) 3 69 [.ref h0, .int p0] D ty [(h0, .inr (12, [v0, .ref h1, v1, v2, v3, v4, v5, v6, v7, v8, v9, v10, v11, v12, v13, v14, v15, .ref h2, v16, v17, v18, v19, v20, v21, v22, v23, v24, v25, v26, v27, v28, v29, v30, v31, v32, v33, v34, v35])), (h1, .inl (ty 1, 304, .inl (upd (upd (kf 0) 1 2) 4 (-1)))), (h2, .inl (ty 1, 256, .inl f0))] sz (qI (fun (r : Int32) (u : va_W) => (((((0 ≤ (Int32.toInt64 p0)) ∧ ((Int32.toInt64 p0) ≤ 1)))) ∧ 1 = r ∧ [] = u) ∨ (((((¬ (0 ≤ (Int32.toInt64 p0))) ∨ (¬ ((Int32.toInt64 p0) ≤ 1))))) ∧ (-2) = r ∧ [] = u))) 0 0 := by
  refine cQ.of (by decide) (Nat.le_of_ble_eq_true rfl) (fun p e s m below meth c A ls C hsz hP hK hD hA hl => ?_)
  obtain ⟨hx, hb, hml, hown, hB, hr, hlocks, hin⟩ := C
  have hown : s.vm.findClass RX12 = some m.cls := hown
  have hS : va_S A s.heap s.heap [] := va_S.rf
  have hl : lv_has ls 5 [(0, .ref h0), (1, .int p0)] := hl
  refine lv_iload_n hx hb dX12_cut_0 rfl (lv_at hl 1 rfl) ?_
  refine kc_i (va_runS (As := [.int p0]) (rest := []) ⟨hx, hb, hml, hown, hB⟩ (c149_X12_isGiving l D ty s.heap.size p0) (va_cwS 1 hB (bw_S mw_469 mw_470 mw_211 mw_468) rfl rfl rfl (by decide +kernel) ⟨Nat.le_of_ble_eq_true rfl, Nat.le_of_ble_eq_true rfl⟩) (kp_S hK hP hD [] (by decide) rfl) rfl rfl hl.1 rfl (lv_room (Nat.le_of_ble_eq_true rfl)) dX12_cut_1 ⟨Nat.le_of_ble_eq_true rfl, Nat.le_of_ble_eq_true rfl⟩) hP hD hS hA [] [0, 1, 2] (wr := [(h0, .inr (12, [v0, .ref h1, v1, v2, v3, v4, v5, v6, v7, v8, v9, v10, v11, v12, v13, v14, v15, .ref h2, v16, v17, v18, v19, v20, v21, v22, v23, v24, v25, v26, v27, v28, v29, v30, v31, v32, v33, v34, v35])), (h1, .inl (ty 1, 304, .inl (upd (upd (kf 0) 1 2) 4 (-1)))), (h2, .inl (ty 1, 256, .inl f0))]) rfl rfl (by decide) (by decide) (fun r u H locs w1 hP hD hS => ?_)
  rcases w1 with ⟨c2, rfl, rfl⟩ | ⟨c3, rfl, rfl⟩
  · have hP : va_P D vwCl [(h0, .inr (12, [v0, .ref h1, v1, v2, v3, v4, v5, v6, v7, v8, v9, v10, v11, v12, v13, v14, v15, .ref h2, v16, v17, v18, v19, v20, v21, v22, v23, v24, v25, v26, v27, v28, v29, v30, v31, v32, v33, v34, v35])), (h1, .inl (ty 1, 304, .inl (upd (upd (kf 0) 1 2) 4 (-1)))), (h2, .inl (ty 1, 256, .inl f0))] H := hP
    have hD : va_D A [(h0, .inr (12, [v0, .ref h1, v1, v2, v3, v4, v5, v6, v7, v8, v9, v10, v11, v12, v13, v14, v15, .ref h2, v16, v17, v18, v19, v20, v21, v22, v23, v24, v25, v26, v27, v28, v29, v30, v31, v32, v33, v34, v35])), (h1, .inl (ty 1, 304, .inl (upd (upd (kf 0) 1 2) 4 (-1)))), (h2, .inl (ty 1, 256, .inl f0))] := hD
    refine lv_if_ne (tgt := 10) hx hb dX12_cut_4 (by decide) (fun _ => ?_) (fun h9 => absurd h9 (by decide))
    refine lv_aload_n hx hb dX12_cut_10 rfl (lv_at hl 0 rfl) ?_
    refine lv_iload_n hx hb dX12_cut_11 rfl (lv_at hl 1 rfl) ?_
    refine kc_v (va_runV (As := [.int p0]) (rest := []) ⟨hx, hb, hml, hown, hB⟩ (c156_X12_tries l D ty H.size h0 h1 p0 v0 v1 v2 v3 v4 v5 v6 v7 v8 v9 v10 v11 v12 v13 v14 v15 (.ref h2) v16 v17 v18 v19 v20 v21 v22 v23 v24 v25 v26 v27 v28 v29 v30 v31 v32 v33 v34 v35) (cwV 1 hB (bw_V mw_480 mw_481 mw_482 mw_211 mw_479) rfl rfl rfl (by decide +kernel) ⟨Nat.le_of_ble_eq_true rfl, Nat.le_of_ble_eq_true rfl⟩) (kp_V hK hP hD [0, 1] (by decide) rfl 0 rfl rfl rfl) rfl rfl hl.1 rfl (lv_room (Nat.le_of_ble_eq_true rfl)) dX12_cut_12 ⟨Nat.le_of_ble_eq_true rfl, Nat.le_of_ble_eq_true rfl⟩) hP hD hS hA [0, 1] [2] (wr := [(h2, .inl (ty 1, 256, .inl f0))]) rfl rfl (by decide) (by decide) (fun u H locs w4 hP hD hS => ?_)
    subst w4
    have hP : va_P D vwCl [(h2, .inl (ty 1, 256, .inl f0)), (h0, .inr (12, [v0, .ref h1, v1, v2, v3, v4, v5, v6, v7, v8, v9, v10, v11, v12, v13, v14, v15, .ref h2, v16, v17, v18, v19, v20, v21, v22, v23, v24, v25, v26, v27, v28, v29, v30, v31, v32, v33, v34, v35])), (h1, .inl (ty 1, 304, .inl (upd (upd (kf 0) 1 2) 4 (-1))))] H := hP
    have hD : va_D A [(h2, .inl (ty 1, 256, .inl f0)), (h0, .inr (12, [v0, .ref h1, v1, v2, v3, v4, v5, v6, v7, v8, v9, v10, v11, v12, v13, v14, v15, .ref h2, v16, v17, v18, v19, v20, v21, v22, v23, v24, v25, v26, v27, v28, v29, v30, v31, v32, v33, v34, v35])), (h1, .inl (ty 1, 304, .inl (upd (upd (kf 0) 1 2) 4 (-1))))] := hD
    refine lv_aload_n hx hb dX12_cut_15 rfl (lv_at hl 0 rfl) ?_
    refine kc_v (va_runV (As := []) (rest := []) ⟨hx, hb, hml, hown, hB⟩ (c158_X12_measure l D ty H.size h0 h1 h2 v0 v1 v2 v3 v4 v5 v6 v7 v8 v9 v10 v11 v12 v13 v14 v15 v16 v17 v18 v19 v20 v21 v22 v23 v24 v25 v26 v27 v28 v29 v30 v31 v32 v33 v34 v35 f0) (cwV 0 hB (bw_V mw_496 mw_497 mw_498 mw_211 mw_495) rfl rfl rfl (by decide +kernel) ⟨Nat.le_of_ble_eq_true rfl, Nat.le_of_ble_eq_true rfl⟩) (kp_V hK hP hD [1, 2, 0] (by decide) rfl 1 rfl rfl rfl) rfl rfl hl.1 rfl (lv_room (Nat.le_of_ble_eq_true rfl)) dX12_cut_16 ⟨Nat.le_of_ble_eq_true rfl, Nat.le_of_ble_eq_true rfl⟩) hP hD hS hA [1, 2, 0] [] (wr := []) rfl rfl (by decide) (by decide) (fun u H locs w5 hP hD hS => ?_)
    subst w5
    have hP : va_P D vwCl [(h0, .inr (12, [v0, .ref h1, v1, v2, v3, v4, v5, v6, v7, v8, v9, v10, v11, v12, v13, v14, v15, .ref h2, v16, v17, v18, v19, v20, v21, v22, v23, v24, v25, v26, v27, v28, v29, v30, v31, v32, v33, v34, v35])), (h1, .inl (ty 1, 304, .inl (upd (upd (kf 0) 1 2) 4 (-1)))), (h2, .inl (ty 1, 256, .inl (upd (upd (upd (upd f0 0 0) 1 1000000) 16 1000000) 17 0)))] H := hP
    have hD : va_D A [(h0, .inr (12, [v0, .ref h1, v1, v2, v3, v4, v5, v6, v7, v8, v9, v10, v11, v12, v13, v14, v15, .ref h2, v16, v17, v18, v19, v20, v21, v22, v23, v24, v25, v26, v27, v28, v29, v30, v31, v32, v33, v34, v35])), (h1, .inl (ty 1, 304, .inl (upd (upd (kf 0) 1 2) 4 (-1)))), (h2, .inl (ty 1, 256, .inl (upd (upd (upd (upd f0 0 0) 1 1000000) 16 1000000) 17 0)))] := hD
    refine lv_iconst (v := 0) hx hb dX12_cut_19 (by decide) ?_
    refine lv_istore_n (lv' := [(2, .int 0), (0, .ref h0), (1, .int p0)]) hx hb dX12_cut_20 rfl hl (by decide) rfl (fun ls hl => ?_)
    refine lv_iload_n hx hb dX12_cut_21 rfl (lv_at hl 0 rfl) ?_
    refine lv_aload_n hx hb dX12_cut_22 rfl (lv_at hl 1 rfl) ?_
    refine kc_i (va_runV (As := []) (rest := [.int 0]) ⟨hx, hb, hml, hown, hB⟩ (c160_X12_corners l D ty H.size h0 h1 v0 v1 v2 v3 v4 v5 v6 v7 v8 v9 v10 v11 v12 v13 v14 v15 (.ref h2) v16 v17 v18 v19 v20 v21 v22 v23 v24 v25 v26 v27 v28 v29 v30 v31 v32 v33 v34 v35) (cwV 0 hB (bw_V mw_484 mw_485 mw_486 mw_211 mw_483) rfl rfl rfl (by decide +kernel) ⟨Nat.le_of_ble_eq_true rfl, Nat.le_of_ble_eq_true rfl⟩) (kp_V hK hP hD [0, 1] (by decide) rfl 0 rfl rfl rfl) rfl rfl hl.1 rfl (lv_room (Nat.le_of_ble_eq_true rfl)) dX12_cut_23 ⟨Nat.le_of_ble_eq_true rfl, Nat.le_of_ble_eq_true rfl⟩) hP hD hS hA [0, 1] [2] (wr := [(h2, .inl (ty 1, 256, .inl (upd (upd (upd (upd f0 0 0) 1 1000000) 16 1000000) 17 0)))]) rfl rfl (by decide) (by decide) (fun r u H locs w6 hP hD hS => ?_)
    obtain ⟨rfl, rfl⟩ := w6
    have hP : va_P D vwCl [(h2, .inl (ty 1, 256, .inl (upd (upd (upd (upd f0 0 0) 1 1000000) 16 1000000) 17 0))), (h0, .inr (12, [v0, .ref h1, v1, v2, v3, v4, v5, v6, v7, v8, v9, v10, v11, v12, v13, v14, v15, .ref h2, v16, v17, v18, v19, v20, v21, v22, v23, v24, v25, v26, v27, v28, v29, v30, v31, v32, v33, v34, v35])), (h1, .inl (ty 1, 304, .inl (upd (upd (kf 0) 1 2) 4 (-1))))] H := hP
    have hD : va_D A [(h2, .inl (ty 1, 256, .inl (upd (upd (upd (upd f0 0 0) 1 1000000) 16 1000000) 17 0))), (h0, .inr (12, [v0, .ref h1, v1, v2, v3, v4, v5, v6, v7, v8, v9, v10, v11, v12, v13, v14, v15, .ref h2, v16, v17, v18, v19, v20, v21, v22, v23, v24, v25, v26, v27, v28, v29, v30, v31, v32, v33, v34, v35])), (h1, .inl (ty 1, 304, .inl (upd (upd (kf 0) 1 2) 4 (-1))))] := hD
    refine lv_icmp_ge (tgt := 97) hx hb dX12_cut_26 (by decide) (fun h9 => absurd h9 (by decide)) (fun _ => ?_)
    refine lv_iconst (v := 0) hx hb dX12_cut_29 (by decide) ?_
    refine lv_istore_n (lv' := [(3, .int 0), (2, .int 0), (0, .ref h0), (1, .int p0)]) hx hb dX12_cut_30 rfl hl (by decide) rfl (fun ls hl => ?_)
    refine lv_iconst (v := 0) hx hb dX12_cut_31 (by decide) ?_
    refine lv_istore (lv' := [(4, .int 0), (3, .int 0), (2, .int 0), (0, .ref h0), (1, .int p0)]) hx hb dX12_cut_32 hl (by decide) rfl (fun ls hl => ?_)
    refine lv_iload hx hb dX12_cut_34 (lv_at hl 0 rfl) ?_
    refine lv_aload_n hx hb dX12_cut_36 rfl (lv_at hl 3 rfl) ?_
    refine kc_i (va_runV (As := []) (rest := [.int 0]) ⟨hx, hb, hml, hown, hB⟩ (c160_X12_corners l D ty H.size h0 h1 v0 v1 v2 v3 v4 v5 v6 v7 v8 v9 v10 v11 v12 v13 v14 v15 (.ref h2) v16 v17 v18 v19 v20 v21 v22 v23 v24 v25 v26 v27 v28 v29 v30 v31 v32 v33 v34 v35) (cwV 0 hB (bw_V mw_484 mw_485 mw_486 mw_211 mw_483) rfl rfl rfl (by decide +kernel) ⟨Nat.le_of_ble_eq_true rfl, Nat.le_of_ble_eq_true rfl⟩) (kp_V hK hP hD [1, 2] (by decide) rfl 1 rfl rfl rfl) rfl rfl hl.1 rfl (lv_room (Nat.le_of_ble_eq_true rfl)) dX12_cut_37 ⟨Nat.le_of_ble_eq_true rfl, Nat.le_of_ble_eq_true rfl⟩) hP hD hS hA [1, 2] [0] (wr := [(h2, .inl (ty 1, 256, .inl (upd (upd (upd (upd f0 0 0) 1 1000000) 16 1000000) 17 0)))]) rfl rfl (by decide) (by decide) (fun r u H locs w7 hP hD hS => ?_)
    obtain ⟨rfl, rfl⟩ := w7
    have hP : va_P D vwCl [(h2, .inl (ty 1, 256, .inl (upd (upd (upd (upd f0 0 0) 1 1000000) 16 1000000) 17 0))), (h0, .inr (12, [v0, .ref h1, v1, v2, v3, v4, v5, v6, v7, v8, v9, v10, v11, v12, v13, v14, v15, .ref h2, v16, v17, v18, v19, v20, v21, v22, v23, v24, v25, v26, v27, v28, v29, v30, v31, v32, v33, v34, v35])), (h1, .inl (ty 1, 304, .inl (upd (upd (kf 0) 1 2) 4 (-1))))] H := hP
    have hD : va_D A [(h2, .inl (ty 1, 256, .inl (upd (upd (upd (upd f0 0 0) 1 1000000) 16 1000000) 17 0))), (h0, .inr (12, [v0, .ref h1, v1, v2, v3, v4, v5, v6, v7, v8, v9, v10, v11, v12, v13, v14, v15, .ref h2, v16, v17, v18, v19, v20, v21, v22, v23, v24, v25, v26, v27, v28, v29, v30, v31, v32, v33, v34, v35])), (h1, .inl (ty 1, 304, .inl (upd (upd (kf 0) 1 2) 4 (-1))))] := hD
    refine lv_icmp_ge (tgt := 77) hx hb dX12_cut_40 (by decide) (fun h9 => absurd h9 (by decide)) (fun _ => ?_)
    refine lv_iload_n hx hb dX12_cut_43 rfl (lv_at hl 1 rfl) ?_
    refine lv_aload_n hx hb dX12_cut_44 rfl (lv_at hl 3 rfl) ?_
    refine va_get (D := D) (ci := 12) (v := .ref h2) (C := RX12) (T := TX12) (N := 38) hx hb hB inB_X12 hown hK.1 hP 1 rfl rfl 17 (by decide) (hB _ mw_192) (fun _ h9 => h9) rfl dX12_cut_45 ?_
    refine lv_bipush (v := 16) hx hb dX12_cut_48 (by decide) ?_
    refine lv_iload_n hx hb dX12_cut_50 rfl (lv_at hl 2 rfl) ?_
    refine lv_imul hx hb dX12_cut_51 ?_
    refine tp_i (v := 0) (by decide) ?_
    refine lv_iload hx hb dX12_cut_52 (lv_at hl 0 rfl) ?_
    refine lv_iadd hx hb dX12_cut_54 ?_
    refine tp_i (v := 0) (by decide) ?_
    refine va_iald hx hb hK.1 hP 0 1 rfl rfl (by unfold vp_in; decide) dX12_cut_55 ?_
    refine tp_i (v := 0) rfl ?_
    refine lv_ldc hx hb hown (hB _ mw_487) dX12_cut_56 ?_
    refine lv_icmp_ge (tgt := 68) hx hb dX12_cut_58 (by decide) (fun h9 => absurd h9 (by decide)) (fun _ => ?_)
    refine lv_iconst (v := 1) hx hb dX12_cut_61 (by decide) ?_
    refine lv_iload hx hb dX12_cut_62 (lv_at hl 0 rfl) ?_
    refine lv_ishl hx hb dX12_cut_64 ?_
    refine tp_i (v := 1) (by decide) ?_
    refine lv_goto (tgt := 69) hx hb dX12_cut_65 (by decide) ?_
    refine lv_ior hx hb dX12_cut_69 ?_
    refine tp_i (v := 1) (by decide) ?_
    refine lv_istore_n (lv' := [(3, .int 1), (4, .int 0), (2, .int 0), (0, .ref h0), (1, .int p0)]) hx hb dX12_cut_70 rfl hl (by decide) rfl (fun ls hl => ?_)
    refine lv_iinc (v := 1) (lv' := [(4, .int 1), (3, .int 1), (2, .int 0), (0, .ref h0), (1, .int p0)]) hx hb dX12_cut_71 hl (k := 1) rfl (by decide) (by decide) rfl (fun ls hl => ?_)
    refine lv_goto (tgt := 34) hx hb dX12_cut_74 (by decide) ?_
    refine lv_iload hx hb dX12_cut_34 (lv_at hl 0 rfl) ?_
    refine lv_aload_n hx hb dX12_cut_36 rfl (lv_at hl 3 rfl) ?_
    refine kc_i (va_runV (As := []) (rest := [.int 1]) ⟨hx, hb, hml, hown, hB⟩ (c160_X12_corners l D ty H.size h0 h1 v0 v1 v2 v3 v4 v5 v6 v7 v8 v9 v10 v11 v12 v13 v14 v15 (.ref h2) v16 v17 v18 v19 v20 v21 v22 v23 v24 v25 v26 v27 v28 v29 v30 v31 v32 v33 v34 v35) (cwV 0 hB (bw_V mw_484 mw_485 mw_486 mw_211 mw_483) rfl rfl rfl (by decide +kernel) ⟨Nat.le_of_ble_eq_true rfl, Nat.le_of_ble_eq_true rfl⟩) (kp_V hK hP hD [1, 2] (by decide) rfl 1 rfl rfl rfl) rfl rfl hl.1 rfl (lv_room (Nat.le_of_ble_eq_true rfl)) dX12_cut_37 ⟨Nat.le_of_ble_eq_true rfl, Nat.le_of_ble_eq_true rfl⟩) hP hD hS hA [1, 2] [0] (wr := [(h2, .inl (ty 1, 256, .inl (upd (upd (upd (upd f0 0 0) 1 1000000) 16 1000000) 17 0)))]) rfl rfl (by decide) (by decide) (fun r u H locs w8 hP hD hS => ?_)
    obtain ⟨rfl, rfl⟩ := w8
    have hP : va_P D vwCl [(h2, .inl (ty 1, 256, .inl (upd (upd (upd (upd f0 0 0) 1 1000000) 16 1000000) 17 0))), (h0, .inr (12, [v0, .ref h1, v1, v2, v3, v4, v5, v6, v7, v8, v9, v10, v11, v12, v13, v14, v15, .ref h2, v16, v17, v18, v19, v20, v21, v22, v23, v24, v25, v26, v27, v28, v29, v30, v31, v32, v33, v34, v35])), (h1, .inl (ty 1, 304, .inl (upd (upd (kf 0) 1 2) 4 (-1))))] H := hP
    have hD : va_D A [(h2, .inl (ty 1, 256, .inl (upd (upd (upd (upd f0 0 0) 1 1000000) 16 1000000) 17 0))), (h0, .inr (12, [v0, .ref h1, v1, v2, v3, v4, v5, v6, v7, v8, v9, v10, v11, v12, v13, v14, v15, .ref h2, v16, v17, v18, v19, v20, v21, v22, v23, v24, v25, v26, v27, v28, v29, v30, v31, v32, v33, v34, v35])), (h1, .inl (ty 1, 304, .inl (upd (upd (kf 0) 1 2) 4 (-1))))] := hD
    refine lv_icmp_ge (tgt := 77) hx hb dX12_cut_40 (by decide) (fun h9 => absurd h9 (by decide)) (fun _ => ?_)
    refine lv_iload_n hx hb dX12_cut_43 rfl (lv_at hl 1 rfl) ?_
    refine lv_aload_n hx hb dX12_cut_44 rfl (lv_at hl 3 rfl) ?_
    refine va_get (D := D) (ci := 12) (v := .ref h2) (C := RX12) (T := TX12) (N := 38) hx hb hB inB_X12 hown hK.1 hP 1 rfl rfl 17 (by decide) (hB _ mw_192) (fun _ h9 => h9) rfl dX12_cut_45 ?_
    refine lv_bipush (v := 16) hx hb dX12_cut_48 (by decide) ?_
    refine lv_iload_n hx hb dX12_cut_50 rfl (lv_at hl 2 rfl) ?_
    refine lv_imul hx hb dX12_cut_51 ?_
    refine tp_i (v := 0) (by decide) ?_
    refine lv_iload hx hb dX12_cut_52 (lv_at hl 0 rfl) ?_
    refine lv_iadd hx hb dX12_cut_54 ?_
    refine tp_i (v := 1) (by decide) ?_
    refine va_iald hx hb hK.1 hP 0 1 rfl rfl (by unfold vp_in; decide) dX12_cut_55 ?_
    refine tp_i (v := 1000000) rfl ?_
    refine lv_ldc hx hb hown (hB _ mw_487) dX12_cut_56 ?_
    refine lv_icmp_ge (tgt := 68) hx hb dX12_cut_58 (by decide) (fun _ => ?_) (fun h9 => absurd (by decide) h9)
    refine lv_iconst (v := 0) hx hb dX12_cut_68 (by decide) ?_
    refine lv_ior hx hb dX12_cut_69 ?_
    refine tp_i (v := 1) (by decide) ?_
    refine lv_istore_n (lv' := [(3, .int 1), (4, .int 1), (2, .int 0), (0, .ref h0), (1, .int p0)]) hx hb dX12_cut_70 rfl hl (by decide) rfl (fun ls hl => ?_)
    refine lv_iinc (v := 2) (lv' := [(4, .int 2), (3, .int 1), (2, .int 0), (0, .ref h0), (1, .int p0)]) hx hb dX12_cut_71 hl (k := 1) rfl (by decide) (by decide) rfl (fun ls hl => ?_)
    refine lv_goto (tgt := 34) hx hb dX12_cut_74 (by decide) ?_
    refine lv_iload hx hb dX12_cut_34 (lv_at hl 0 rfl) ?_
    refine lv_aload_n hx hb dX12_cut_36 rfl (lv_at hl 3 rfl) ?_
    refine kc_i (va_runV (As := []) (rest := [.int 2]) ⟨hx, hb, hml, hown, hB⟩ (c160_X12_corners l D ty H.size h0 h1 v0 v1 v2 v3 v4 v5 v6 v7 v8 v9 v10 v11 v12 v13 v14 v15 (.ref h2) v16 v17 v18 v19 v20 v21 v22 v23 v24 v25 v26 v27 v28 v29 v30 v31 v32 v33 v34 v35) (cwV 0 hB (bw_V mw_484 mw_485 mw_486 mw_211 mw_483) rfl rfl rfl (by decide +kernel) ⟨Nat.le_of_ble_eq_true rfl, Nat.le_of_ble_eq_true rfl⟩) (kp_V hK hP hD [1, 2] (by decide) rfl 1 rfl rfl rfl) rfl rfl hl.1 rfl (lv_room (Nat.le_of_ble_eq_true rfl)) dX12_cut_37 ⟨Nat.le_of_ble_eq_true rfl, Nat.le_of_ble_eq_true rfl⟩) hP hD hS hA [1, 2] [0] (wr := [(h2, .inl (ty 1, 256, .inl (upd (upd (upd (upd f0 0 0) 1 1000000) 16 1000000) 17 0)))]) rfl rfl (by decide) (by decide) (fun r u H locs w9 hP hD hS => ?_)
    obtain ⟨rfl, rfl⟩ := w9
    have hP : va_P D vwCl [(h2, .inl (ty 1, 256, .inl (upd (upd (upd (upd f0 0 0) 1 1000000) 16 1000000) 17 0))), (h0, .inr (12, [v0, .ref h1, v1, v2, v3, v4, v5, v6, v7, v8, v9, v10, v11, v12, v13, v14, v15, .ref h2, v16, v17, v18, v19, v20, v21, v22, v23, v24, v25, v26, v27, v28, v29, v30, v31, v32, v33, v34, v35])), (h1, .inl (ty 1, 304, .inl (upd (upd (kf 0) 1 2) 4 (-1))))] H := hP
    have hD : va_D A [(h2, .inl (ty 1, 256, .inl (upd (upd (upd (upd f0 0 0) 1 1000000) 16 1000000) 17 0))), (h0, .inr (12, [v0, .ref h1, v1, v2, v3, v4, v5, v6, v7, v8, v9, v10, v11, v12, v13, v14, v15, .ref h2, v16, v17, v18, v19, v20, v21, v22, v23, v24, v25, v26, v27, v28, v29, v30, v31, v32, v33, v34, v35])), (h1, .inl (ty 1, 304, .inl (upd (upd (kf 0) 1 2) 4 (-1))))] := hD
    refine lv_icmp_ge (tgt := 77) hx hb dX12_cut_40 (by decide) (fun _ => ?_) (fun h9 => absurd (by decide) h9)
    refine lv_iload_n hx hb dX12_cut_77 rfl (lv_at hl 1 rfl) ?_
    refine lv_iconst (v := 1) hx hb dX12_cut_78 (by decide) ?_
    refine lv_aload_n hx hb dX12_cut_79 rfl (lv_at hl 3 rfl) ?_
    refine kc_i (va_runV (As := []) (rest := [.int 1, .int 1]) ⟨hx, hb, hml, hown, hB⟩ (c160_X12_corners l D ty H.size h0 h1 v0 v1 v2 v3 v4 v5 v6 v7 v8 v9 v10 v11 v12 v13 v14 v15 (.ref h2) v16 v17 v18 v19 v20 v21 v22 v23 v24 v25 v26 v27 v28 v29 v30 v31 v32 v33 v34 v35) (cwV 0 hB (bw_V mw_484 mw_485 mw_486 mw_211 mw_483) rfl rfl rfl (by decide +kernel) ⟨Nat.le_of_ble_eq_true rfl, Nat.le_of_ble_eq_true rfl⟩) (kp_V hK hP hD [1, 2] (by decide) rfl 1 rfl rfl rfl) rfl rfl hl.1 rfl (lv_room (Nat.le_of_ble_eq_true rfl)) dX12_cut_80 ⟨Nat.le_of_ble_eq_true rfl, Nat.le_of_ble_eq_true rfl⟩) hP hD hS hA [1, 2] [0] (wr := [(h2, .inl (ty 1, 256, .inl (upd (upd (upd (upd f0 0 0) 1 1000000) 16 1000000) 17 0)))]) rfl rfl (by decide) (by decide) (fun r u H locs w10 hP hD hS => ?_)
    obtain ⟨rfl, rfl⟩ := w10
    have hP : va_P D vwCl [(h2, .inl (ty 1, 256, .inl (upd (upd (upd (upd f0 0 0) 1 1000000) 16 1000000) 17 0))), (h0, .inr (12, [v0, .ref h1, v1, v2, v3, v4, v5, v6, v7, v8, v9, v10, v11, v12, v13, v14, v15, .ref h2, v16, v17, v18, v19, v20, v21, v22, v23, v24, v25, v26, v27, v28, v29, v30, v31, v32, v33, v34, v35])), (h1, .inl (ty 1, 304, .inl (upd (upd (kf 0) 1 2) 4 (-1))))] H := hP
    have hD : va_D A [(h2, .inl (ty 1, 256, .inl (upd (upd (upd (upd f0 0 0) 1 1000000) 16 1000000) 17 0))), (h0, .inr (12, [v0, .ref h1, v1, v2, v3, v4, v5, v6, v7, v8, v9, v10, v11, v12, v13, v14, v15, .ref h2, v16, v17, v18, v19, v20, v21, v22, v23, v24, v25, v26, v27, v28, v29, v30, v31, v32, v33, v34, v35])), (h1, .inl (ty 1, 304, .inl (upd (upd (kf 0) 1 2) 4 (-1))))] := hD
    refine lv_ishl hx hb dX12_cut_83 ?_
    refine tp_i (v := 4) (by decide) ?_
    refine lv_iconst (v := 1) hx hb dX12_cut_84 (by decide) ?_
    refine lv_isub hx hb dX12_cut_85 ?_
    refine tp_i (v := 3) (by decide) ?_
    refine lv_icmp_eq (tgt := 91) hx hb dX12_cut_86 (by decide) (fun h9 => absurd h9 (by decide)) (fun _ => ?_)
    refine lv_iload_n hx hb dX12_cut_89 rfl (lv_at hl 1 rfl) ?_
    exact kr_z hx hb hr rfl hlocks hP hD hS [] [] (by decide) rfl (Or.inl ⟨c2, rfl, rfl⟩) (by decide) (by decide) dX12_cut_90
  · have hP : va_P D vwCl [(h0, .inr (12, [v0, .ref h1, v1, v2, v3, v4, v5, v6, v7, v8, v9, v10, v11, v12, v13, v14, v15, .ref h2, v16, v17, v18, v19, v20, v21, v22, v23, v24, v25, v26, v27, v28, v29, v30, v31, v32, v33, v34, v35])), (h1, .inl (ty 1, 304, .inl (upd (upd (kf 0) 1 2) 4 (-1)))), (h2, .inl (ty 1, 256, .inl f0))] H := hP
    have hD : va_D A [(h0, .inr (12, [v0, .ref h1, v1, v2, v3, v4, v5, v6, v7, v8, v9, v10, v11, v12, v13, v14, v15, .ref h2, v16, v17, v18, v19, v20, v21, v22, v23, v24, v25, v26, v27, v28, v29, v30, v31, v32, v33, v34, v35])), (h1, .inl (ty 1, 304, .inl (upd (upd (kf 0) 1 2) 4 (-1)))), (h2, .inl (ty 1, 256, .inl f0))] := hD
    refine lv_if_ne (tgt := 10) hx hb dX12_cut_4 (by decide) (fun h9 => absurd (by decide) h9) (fun _ => ?_)
    refine lv_bipush (v := (-2)) hx hb dX12_cut_7 (by decide) ?_
    exact kr_z hx hb hr rfl hlocks hP hD hS [] [] (by decide) rfl (Or.inr ⟨c3, rfl, rfl⟩) (by decide) (by decide) dX12_cut_9
set_option maxHeartbeats 4000000 in
set_option maxRecDepth 100000 in
theorem c172_X12_show (l : Launch) (D : va_G) (ty : Nat → ClassId) (sz : Nat) (h0 : Nat) (h1 : Nat) (h2 : Nat) (p0 : Int32) (v0 : Value) (v1 : Value) (v2 : Value) (v3 : Value) (v4 : Value) (v5 : Value) (v6 : Value) (v7 : Value) (v8 : Value) (v9 : Value) (v10 : Value) (v11 : Value) (v12 : Value) (v13 : Value) (v14 : Value) (v15 : Value) (v16 : Value) (v17 : Value) (v18 : Value) (v19 : Value) (v20 : Value) (v21 : Value) (v22 : Value) (v23 : Value) (v24 : Value) (v25 : Value) (v26 : Value) (v27 : Value) (v28 : Value) (v29 : Value) (v30 : Value) (v31 : Value) (v32 : Value) (v33 : Value) (v34 : Value) (v35 : Value) (f0 : Nat → Int32) : cQ l yX12_show cX12_show 4 (some .int) 5 109 [.ref h0, .int p0] D ty [(h0, .inr (12, [v0, .ref h1, v1, v2, v3, v4, v5, v6, v7, v8, v9, v10, v11, v12, v13, v14, v15, .ref h2, v16, v17, v18, v19, v20, v21, v22, v23, v24, v25, v26, v27, v28, v29, v30, v31, v32, v33, v34, v35])), (h1, .inl (ty 1, 304, .inl (upd (upd (kf 0) 1 2) 4 (-1)))), (h2, .inl (ty 1, 256, .inl f0))] sz (qI (fun (r : Int32) (u : va_W) => (((((0 ≤ (Int32.toInt64 p0)) ∧ ((Int32.toInt64 p0) ≤ 1)))) ∧ (-1) = r ∧ [] = u) ∨ (((((¬ (0 ≤ (Int32.toInt64 p0))) ∨ (¬ ((Int32.toInt64 p0) ≤ 1))))) ∧ (-2) = r ∧ [] = u))) 0 0 := by
  refine cQ.of (by decide) (Nat.le_of_ble_eq_true rfl) (fun p e s m below meth c A ls C hsz hP hK hD hA hl => ?_)
  obtain ⟨hx, hb, hml, hown, hB, hr, hlocks, hin⟩ := C
  have hown : s.vm.findClass RX12 = some m.cls := hown
  have hS : va_S A s.heap s.heap [] := va_S.rf
  have hl : lv_has ls 4 [(0, .ref h0), (1, .int p0)] := hl
  refine lv_iload_n hx hb dX12_show_0 rfl (lv_at hl 1 rfl) ?_
  refine kc_i (va_runS (As := [.int p0]) (rest := []) ⟨hx, hb, hml, hown, hB⟩ (c149_X12_isGiving l D ty s.heap.size p0) (va_cwS 1 hB (bw_S mw_469 mw_470 mw_211 mw_468) rfl rfl rfl (by decide +kernel) ⟨Nat.le_of_ble_eq_true rfl, Nat.le_of_ble_eq_true rfl⟩) (kp_S hK hP hD [] (by decide) rfl) rfl rfl hl.1 rfl (lv_room (Nat.le_of_ble_eq_true rfl)) dX12_show_1 ⟨Nat.le_of_ble_eq_true rfl, Nat.le_of_ble_eq_true rfl⟩) hP hD hS hA [] [0, 1, 2] (wr := [(h0, .inr (12, [v0, .ref h1, v1, v2, v3, v4, v5, v6, v7, v8, v9, v10, v11, v12, v13, v14, v15, .ref h2, v16, v17, v18, v19, v20, v21, v22, v23, v24, v25, v26, v27, v28, v29, v30, v31, v32, v33, v34, v35])), (h1, .inl (ty 1, 304, .inl (upd (upd (kf 0) 1 2) 4 (-1)))), (h2, .inl (ty 1, 256, .inl f0))]) rfl rfl (by decide) (by decide) (fun r u H locs w1 hP hD hS => ?_)
  rcases w1 with ⟨c2, rfl, rfl⟩ | ⟨c3, rfl, rfl⟩
  · have hP : va_P D vwCl [(h0, .inr (12, [v0, .ref h1, v1, v2, v3, v4, v5, v6, v7, v8, v9, v10, v11, v12, v13, v14, v15, .ref h2, v16, v17, v18, v19, v20, v21, v22, v23, v24, v25, v26, v27, v28, v29, v30, v31, v32, v33, v34, v35])), (h1, .inl (ty 1, 304, .inl (upd (upd (kf 0) 1 2) 4 (-1)))), (h2, .inl (ty 1, 256, .inl f0))] H := hP
    have hD : va_D A [(h0, .inr (12, [v0, .ref h1, v1, v2, v3, v4, v5, v6, v7, v8, v9, v10, v11, v12, v13, v14, v15, .ref h2, v16, v17, v18, v19, v20, v21, v22, v23, v24, v25, v26, v27, v28, v29, v30, v31, v32, v33, v34, v35])), (h1, .inl (ty 1, 304, .inl (upd (upd (kf 0) 1 2) 4 (-1)))), (h2, .inl (ty 1, 256, .inl f0))] := hD
    refine lv_if_ne (tgt := 10) hx hb dX12_show_4 (by decide) (fun _ => ?_) (fun h9 => absurd h9 (by decide))
    refine lv_aload_n hx hb dX12_show_10 rfl (lv_at hl 0 rfl) ?_
    refine lv_iload_n hx hb dX12_show_11 rfl (lv_at hl 1 rfl) ?_
    refine kc_v (va_runV (As := [.int p0]) (rest := []) ⟨hx, hb, hml, hown, hB⟩ (c156_X12_tries l D ty H.size h0 h1 p0 v0 v1 v2 v3 v4 v5 v6 v7 v8 v9 v10 v11 v12 v13 v14 v15 (.ref h2) v16 v17 v18 v19 v20 v21 v22 v23 v24 v25 v26 v27 v28 v29 v30 v31 v32 v33 v34 v35) (cwV 1 hB (bw_V mw_480 mw_481 mw_482 mw_211 mw_479) rfl rfl rfl (by decide +kernel) ⟨Nat.le_of_ble_eq_true rfl, Nat.le_of_ble_eq_true rfl⟩) (kp_V hK hP hD [0, 1] (by decide) rfl 0 rfl rfl rfl) rfl rfl hl.1 rfl (lv_room (Nat.le_of_ble_eq_true rfl)) dX12_show_12 ⟨Nat.le_of_ble_eq_true rfl, Nat.le_of_ble_eq_true rfl⟩) hP hD hS hA [0, 1] [2] (wr := [(h2, .inl (ty 1, 256, .inl f0))]) rfl rfl (by decide) (by decide) (fun u H locs w4 hP hD hS => ?_)
    subst w4
    have hP : va_P D vwCl [(h2, .inl (ty 1, 256, .inl f0)), (h0, .inr (12, [v0, .ref h1, v1, v2, v3, v4, v5, v6, v7, v8, v9, v10, v11, v12, v13, v14, v15, .ref h2, v16, v17, v18, v19, v20, v21, v22, v23, v24, v25, v26, v27, v28, v29, v30, v31, v32, v33, v34, v35])), (h1, .inl (ty 1, 304, .inl (upd (upd (kf 0) 1 2) 4 (-1))))] H := hP
    have hD : va_D A [(h2, .inl (ty 1, 256, .inl f0)), (h0, .inr (12, [v0, .ref h1, v1, v2, v3, v4, v5, v6, v7, v8, v9, v10, v11, v12, v13, v14, v15, .ref h2, v16, v17, v18, v19, v20, v21, v22, v23, v24, v25, v26, v27, v28, v29, v30, v31, v32, v33, v34, v35])), (h1, .inl (ty 1, 304, .inl (upd (upd (kf 0) 1 2) 4 (-1))))] := hD
    refine lv_aload_n hx hb dX12_show_15 rfl (lv_at hl 0 rfl) ?_
    refine kc_i (va_runV (As := []) (rest := []) ⟨hx, hb, hml, hown, hB⟩ (c169_X12_canEnd l D ty H.size h0 h1 h2 v0 v1 v2 v3 v4 v5 v6 v7 v8 v9 v10 v11 v12 v13 v14 v15 v16 v17 v18 v19 v20 v21 v22 v23 v24 v25 v26 v27 v28 v29 v30 v31 v32 v33 v34 v35 f0) (cwV 0 hB (bw_V mw_508 mw_509 mw_510 mw_211 mw_507) rfl rfl rfl (by decide +kernel) ⟨Nat.le_of_ble_eq_true rfl, Nat.le_of_ble_eq_true rfl⟩) (kp_V hK hP hD [1, 2, 0] (by decide) rfl 1 rfl rfl rfl) rfl rfl hl.1 rfl (lv_room (Nat.le_of_ble_eq_true rfl)) dX12_show_16 ⟨Nat.le_of_ble_eq_true rfl, Nat.le_of_ble_eq_true rfl⟩) hP hD hS hA [1, 2, 0] [] (wr := []) rfl rfl (by decide) (by decide) (fun r u H locs w5 hP hD hS => ?_)
    obtain ⟨rfl, rfl⟩ := w5
    have hP : va_P D vwCl [(h2, .inl (ty 1, 256, .inl (upd (upd (upd (upd f0 0 0) 1 1000000) 16 1000000) 17 0))), (h0, .inr (12, [v0, .ref h1, v1, v2, v3, v4, v5, v6, v7, v8, v9, v10, v11, v12, v13, v14, v15, .ref h2, v16, v17, v18, v19, v20, v21, v22, v23, v24, v25, v26, v27, v28, v29, v30, v31, v32, v33, v34, v35])), (h1, .inl (ty 1, 304, .inl (upd (upd (kf 0) 1 2) 4 (-1))))] H := hP
    have hD : va_D A [(h2, .inl (ty 1, 256, .inl (upd (upd (upd (upd f0 0 0) 1 1000000) 16 1000000) 17 0))), (h0, .inr (12, [v0, .ref h1, v1, v2, v3, v4, v5, v6, v7, v8, v9, v10, v11, v12, v13, v14, v15, .ref h2, v16, v17, v18, v19, v20, v21, v22, v23, v24, v25, v26, v27, v28, v29, v30, v31, v32, v33, v34, v35])), (h1, .inl (ty 1, 304, .inl (upd (upd (kf 0) 1 2) 4 (-1))))] := hD
    refine lv_if_ne (tgt := 24) hx hb dX12_show_19 (by decide) (fun h9 => absurd (by decide) h9) (fun _ => ?_)
    refine lv_iconst (v := (-1)) hx hb dX12_show_22 (by decide) ?_
    exact kr_z hx hb hr rfl hlocks hP hD hS [] [] (by decide) rfl (Or.inl ⟨c2, rfl, rfl⟩) (by decide) (by decide) dX12_show_23
  · have hP : va_P D vwCl [(h0, .inr (12, [v0, .ref h1, v1, v2, v3, v4, v5, v6, v7, v8, v9, v10, v11, v12, v13, v14, v15, .ref h2, v16, v17, v18, v19, v20, v21, v22, v23, v24, v25, v26, v27, v28, v29, v30, v31, v32, v33, v34, v35])), (h1, .inl (ty 1, 304, .inl (upd (upd (kf 0) 1 2) 4 (-1)))), (h2, .inl (ty 1, 256, .inl f0))] H := hP
    have hD : va_D A [(h0, .inr (12, [v0, .ref h1, v1, v2, v3, v4, v5, v6, v7, v8, v9, v10, v11, v12, v13, v14, v15, .ref h2, v16, v17, v18, v19, v20, v21, v22, v23, v24, v25, v26, v27, v28, v29, v30, v31, v32, v33, v34, v35])), (h1, .inl (ty 1, 304, .inl (upd (upd (kf 0) 1 2) 4 (-1)))), (h2, .inl (ty 1, 256, .inl f0))] := hD
    refine lv_if_ne (tgt := 10) hx hb dX12_show_4 (by decide) (fun h9 => absurd (by decide) h9) (fun _ => ?_)
    refine lv_bipush (v := (-2)) hx hb dX12_show_7 (by decide) ?_
    exact kr_z hx hb hr rfl hlocks hP hD hS [] [] (by decide) rfl (Or.inr ⟨c3, rfl, rfl⟩) (by decide) (by decide) dX12_show_9
set_option maxHeartbeats 4000000 in
set_option maxRecDepth 100000 in
theorem c173_X12_forced (l : Launch) (D : va_G) (ty : Nat → ClassId) (sz : Nat) (h0 : Nat) (h1 : Nat) (h2 : Nat) (p0 : Int32) (v0 : Value) (v1 : Value) (v2 : Value) (v3 : Value) (v4 : Value) (v5 : Value) (v6 : Value) (v7 : Value) (v8 : Value) (v9 : Value) (v10 : Value) (v11 : Value) (v12 : Value) (v13 : Value) (v14 : Value) (v15 : Value) (v16 : Value) (v17 : Value) (v18 : Value) (v19 : Value) (v20 : Value) (v21 : Value) (v22 : Value) (v23 : Value) (v24 : Value) (v25 : Value) (v26 : Value) (v27 : Value) (v28 : Value) (v29 : Value) (v30 : Value) (v31 : Value) (v32 : Value) (v33 : Value) (v34 : Value) (v35 : Value) (f0 : Nat → Int32) : cQ l yX12_forced cX12_forced 4 (some .int) 5 109 [.ref h0, .int p0] D ty [(h0, .inr (12, [v0, .ref h1, v1, v2, v3, v4, v5, v6, v7, v8, v9, v10, v11, v12, v13, v14, v15, .ref h2, v16, v17, v18, v19, v20, v21, v22, v23, v24, v25, v26, v27, v28, v29, v30, v31, v32, v33, v34, v35])), (h1, .inl (ty 1, 304, .inl (upd (upd (kf 0) 1 2) 4 (-1)))), (h2, .inl (ty 1, 256, .inl f0))] sz (qI (fun (r : Int32) (u : va_W) => (((((0 ≤ (Int32.toInt64 p0)) ∧ ((Int32.toInt64 p0) ≤ 1)))) ∧ (-1) = r ∧ [] = u) ∨ (((((¬ (0 ≤ (Int32.toInt64 p0))) ∨ (¬ ((Int32.toInt64 p0) ≤ 1))))) ∧ (-2) = r ∧ [] = u))) 0 0 := by
  refine cQ.of (by decide) (Nat.le_of_ble_eq_true rfl) (fun p e s m below meth c A ls C hsz hP hK hD hA hl => ?_)
  obtain ⟨hx, hb, hml, hown, hB, hr, hlocks, hin⟩ := C
  have hown : s.vm.findClass RX12 = some m.cls := hown
  have hS : va_S A s.heap s.heap [] := va_S.rf
  have hl : lv_has ls 4 [(0, .ref h0), (1, .int p0)] := hl
  refine lv_iload_n hx hb dX12_forced_0 rfl (lv_at hl 1 rfl) ?_
  refine kc_i (va_runS (As := [.int p0]) (rest := []) ⟨hx, hb, hml, hown, hB⟩ (c149_X12_isGiving l D ty s.heap.size p0) (va_cwS 1 hB (bw_S mw_469 mw_470 mw_211 mw_468) rfl rfl rfl (by decide +kernel) ⟨Nat.le_of_ble_eq_true rfl, Nat.le_of_ble_eq_true rfl⟩) (kp_S hK hP hD [] (by decide) rfl) rfl rfl hl.1 rfl (lv_room (Nat.le_of_ble_eq_true rfl)) dX12_forced_1 ⟨Nat.le_of_ble_eq_true rfl, Nat.le_of_ble_eq_true rfl⟩) hP hD hS hA [] [0, 1, 2] (wr := [(h0, .inr (12, [v0, .ref h1, v1, v2, v3, v4, v5, v6, v7, v8, v9, v10, v11, v12, v13, v14, v15, .ref h2, v16, v17, v18, v19, v20, v21, v22, v23, v24, v25, v26, v27, v28, v29, v30, v31, v32, v33, v34, v35])), (h1, .inl (ty 1, 304, .inl (upd (upd (kf 0) 1 2) 4 (-1)))), (h2, .inl (ty 1, 256, .inl f0))]) rfl rfl (by decide) (by decide) (fun r u H locs w1 hP hD hS => ?_)
  rcases w1 with ⟨c2, rfl, rfl⟩ | ⟨c3, rfl, rfl⟩
  · have hP : va_P D vwCl [(h0, .inr (12, [v0, .ref h1, v1, v2, v3, v4, v5, v6, v7, v8, v9, v10, v11, v12, v13, v14, v15, .ref h2, v16, v17, v18, v19, v20, v21, v22, v23, v24, v25, v26, v27, v28, v29, v30, v31, v32, v33, v34, v35])), (h1, .inl (ty 1, 304, .inl (upd (upd (kf 0) 1 2) 4 (-1)))), (h2, .inl (ty 1, 256, .inl f0))] H := hP
    have hD : va_D A [(h0, .inr (12, [v0, .ref h1, v1, v2, v3, v4, v5, v6, v7, v8, v9, v10, v11, v12, v13, v14, v15, .ref h2, v16, v17, v18, v19, v20, v21, v22, v23, v24, v25, v26, v27, v28, v29, v30, v31, v32, v33, v34, v35])), (h1, .inl (ty 1, 304, .inl (upd (upd (kf 0) 1 2) 4 (-1)))), (h2, .inl (ty 1, 256, .inl f0))] := hD
    refine lv_if_ne (tgt := 10) hx hb dX12_forced_4 (by decide) (fun _ => ?_) (fun h9 => absurd h9 (by decide))
    refine lv_aload_n hx hb dX12_forced_10 rfl (lv_at hl 0 rfl) ?_
    refine lv_iload_n hx hb dX12_forced_11 rfl (lv_at hl 1 rfl) ?_
    refine kc_v (va_runV (As := [.int p0]) (rest := []) ⟨hx, hb, hml, hown, hB⟩ (c156_X12_tries l D ty H.size h0 h1 p0 v0 v1 v2 v3 v4 v5 v6 v7 v8 v9 v10 v11 v12 v13 v14 v15 (.ref h2) v16 v17 v18 v19 v20 v21 v22 v23 v24 v25 v26 v27 v28 v29 v30 v31 v32 v33 v34 v35) (cwV 1 hB (bw_V mw_480 mw_481 mw_482 mw_211 mw_479) rfl rfl rfl (by decide +kernel) ⟨Nat.le_of_ble_eq_true rfl, Nat.le_of_ble_eq_true rfl⟩) (kp_V hK hP hD [0, 1] (by decide) rfl 0 rfl rfl rfl) rfl rfl hl.1 rfl (lv_room (Nat.le_of_ble_eq_true rfl)) dX12_forced_12 ⟨Nat.le_of_ble_eq_true rfl, Nat.le_of_ble_eq_true rfl⟩) hP hD hS hA [0, 1] [2] (wr := [(h2, .inl (ty 1, 256, .inl f0))]) rfl rfl (by decide) (by decide) (fun u H locs w4 hP hD hS => ?_)
    subst w4
    have hP : va_P D vwCl [(h2, .inl (ty 1, 256, .inl f0)), (h0, .inr (12, [v0, .ref h1, v1, v2, v3, v4, v5, v6, v7, v8, v9, v10, v11, v12, v13, v14, v15, .ref h2, v16, v17, v18, v19, v20, v21, v22, v23, v24, v25, v26, v27, v28, v29, v30, v31, v32, v33, v34, v35])), (h1, .inl (ty 1, 304, .inl (upd (upd (kf 0) 1 2) 4 (-1))))] H := hP
    have hD : va_D A [(h2, .inl (ty 1, 256, .inl f0)), (h0, .inr (12, [v0, .ref h1, v1, v2, v3, v4, v5, v6, v7, v8, v9, v10, v11, v12, v13, v14, v15, .ref h2, v16, v17, v18, v19, v20, v21, v22, v23, v24, v25, v26, v27, v28, v29, v30, v31, v32, v33, v34, v35])), (h1, .inl (ty 1, 304, .inl (upd (upd (kf 0) 1 2) 4 (-1))))] := hD
    refine lv_aload_n hx hb dX12_forced_15 rfl (lv_at hl 0 rfl) ?_
    refine kc_i (va_runV (As := []) (rest := []) ⟨hx, hb, hml, hown, hB⟩ (c169_X12_canEnd l D ty H.size h0 h1 h2 v0 v1 v2 v3 v4 v5 v6 v7 v8 v9 v10 v11 v12 v13 v14 v15 v16 v17 v18 v19 v20 v21 v22 v23 v24 v25 v26 v27 v28 v29 v30 v31 v32 v33 v34 v35 f0) (cwV 0 hB (bw_V mw_508 mw_509 mw_510 mw_211 mw_507) rfl rfl rfl (by decide +kernel) ⟨Nat.le_of_ble_eq_true rfl, Nat.le_of_ble_eq_true rfl⟩) (kp_V hK hP hD [1, 2, 0] (by decide) rfl 1 rfl rfl rfl) rfl rfl hl.1 rfl (lv_room (Nat.le_of_ble_eq_true rfl)) dX12_forced_16 ⟨Nat.le_of_ble_eq_true rfl, Nat.le_of_ble_eq_true rfl⟩) hP hD hS hA [1, 2, 0] [] (wr := []) rfl rfl (by decide) (by decide) (fun r u H locs w5 hP hD hS => ?_)
    obtain ⟨rfl, rfl⟩ := w5
    have hP : va_P D vwCl [(h2, .inl (ty 1, 256, .inl (upd (upd (upd (upd f0 0 0) 1 1000000) 16 1000000) 17 0))), (h0, .inr (12, [v0, .ref h1, v1, v2, v3, v4, v5, v6, v7, v8, v9, v10, v11, v12, v13, v14, v15, .ref h2, v16, v17, v18, v19, v20, v21, v22, v23, v24, v25, v26, v27, v28, v29, v30, v31, v32, v33, v34, v35])), (h1, .inl (ty 1, 304, .inl (upd (upd (kf 0) 1 2) 4 (-1))))] H := hP
    have hD : va_D A [(h2, .inl (ty 1, 256, .inl (upd (upd (upd (upd f0 0 0) 1 1000000) 16 1000000) 17 0))), (h0, .inr (12, [v0, .ref h1, v1, v2, v3, v4, v5, v6, v7, v8, v9, v10, v11, v12, v13, v14, v15, .ref h2, v16, v17, v18, v19, v20, v21, v22, v23, v24, v25, v26, v27, v28, v29, v30, v31, v32, v33, v34, v35])), (h1, .inl (ty 1, 304, .inl (upd (upd (kf 0) 1 2) 4 (-1))))] := hD
    refine lv_if_ne (tgt := 24) hx hb dX12_forced_19 (by decide) (fun h9 => absurd (by decide) h9) (fun _ => ?_)
    refine lv_iconst (v := (-1)) hx hb dX12_forced_22 (by decide) ?_
    exact kr_z hx hb hr rfl hlocks hP hD hS [] [] (by decide) rfl (Or.inl ⟨c2, rfl, rfl⟩) (by decide) (by decide) dX12_forced_23
  · have hP : va_P D vwCl [(h0, .inr (12, [v0, .ref h1, v1, v2, v3, v4, v5, v6, v7, v8, v9, v10, v11, v12, v13, v14, v15, .ref h2, v16, v17, v18, v19, v20, v21, v22, v23, v24, v25, v26, v27, v28, v29, v30, v31, v32, v33, v34, v35])), (h1, .inl (ty 1, 304, .inl (upd (upd (kf 0) 1 2) 4 (-1)))), (h2, .inl (ty 1, 256, .inl f0))] H := hP
    have hD : va_D A [(h0, .inr (12, [v0, .ref h1, v1, v2, v3, v4, v5, v6, v7, v8, v9, v10, v11, v12, v13, v14, v15, .ref h2, v16, v17, v18, v19, v20, v21, v22, v23, v24, v25, v26, v27, v28, v29, v30, v31, v32, v33, v34, v35])), (h1, .inl (ty 1, 304, .inl (upd (upd (kf 0) 1 2) 4 (-1)))), (h2, .inl (ty 1, 256, .inl f0))] := hD
    refine lv_if_ne (tgt := 10) hx hb dX12_forced_4 (by decide) (fun h9 => absurd (by decide) h9) (fun _ => ?_)
    refine lv_bipush (v := (-2)) hx hb dX12_forced_7 (by decide) ?_
    exact kr_z hx hb hr rfl hlocks hP hD hS [] [] (by decide) rfl (Or.inr ⟨c3, rfl, rfl⟩) (by decide) (by decide) dX12_forced_9
set_option maxHeartbeats 4000000 in
set_option maxRecDepth 100000 in
theorem c174_X12_forcedWay (l : Launch) (D : va_G) (ty : Nat → ClassId) (sz : Nat) (h0 : Nat) (h1 : Nat) (p0 : Int32) (p1 : Int32) (v0 : Value) (v1 : Value) (v2 : Value) (v3 : Value) (v4 : Value) (v5 : Value) (v6 : Value) (v7 : Value) (v8 : Value) (v9 : Value) (v10 : Value) (v11 : Value) (v12 : Value) (v13 : Value) (v14 : Value) (v15 : Value) (v16 : Value) (v17 : Value) (v18 : Value) (v19 : Value) (v20 : Value) (v21 : Value) (v22 : Value) (v23 : Value) (v24 : Value) (v25 : Value) (v26 : Value) (v27 : Value) (v28 : Value) (v29 : Value) (v30 : Value) (v31 : Value) (v32 : Value) (v33 : Value) (v34 : Value) (v35 : Value) (v36 : Value) : cQ l yX12_forcedWay cX12_forcedWay 3 (some .int) 2 46 [.ref h0, .int p0, .int p1] D ty [(h0, .inr (12, [v0, .ref h1, v1, v2, v3, v4, v5, v6, v7, v8, v9, v10, v11, v12, v13, v14, v15, v16, v17, v18, v19, v20, v21, v22, v23, v24, v25, v26, v27, v28, v29, v30, v31, v32, v33, v34, v35, v36])), (h1, .inl (ty 1, 304, .inl (upd (upd (kf 0) 1 2) 4 (-1))))] sz (qI (fun (r : Int32) (u : va_W) => (-1) = r ∧ [] = u)) 0 0 := by
  refine cQ.of (by decide) (Nat.le_of_ble_eq_true rfl) (fun p e s m below meth c A ls C hsz hP hK hD hA hl => ?_)
  obtain ⟨hx, hb, hml, hown, hB, hr, hlocks, hin⟩ := C
  have hown : s.vm.findClass RX12 = some m.cls := hown
  have hS : va_S A s.heap s.heap [] := va_S.rf
  have hl : lv_has ls 3 [(0, .ref h0), (1, .int p0), (2, .int p1)] := hl
  refine lv_iload_n hx hb dX12_forcedWay_0 rfl (lv_at hl 1 rfl) ?_
  refine kc_i (va_runS (As := [.int p0]) (rest := []) ⟨hx, hb, hml, hown, hB⟩ (c149_X12_isGiving l D ty s.heap.size p0) (va_cwS 1 hB (bw_S mw_469 mw_470 mw_211 mw_468) rfl rfl rfl (by decide +kernel) ⟨Nat.le_of_ble_eq_true rfl, Nat.le_of_ble_eq_true rfl⟩) (kp_S hK hP hD [] (by decide) rfl) rfl rfl hl.1 rfl (lv_room (Nat.le_of_ble_eq_true rfl)) dX12_forcedWay_1 ⟨Nat.le_of_ble_eq_true rfl, Nat.le_of_ble_eq_true rfl⟩) hP hD hS hA [] [0, 1] (wr := [(h0, .inr (12, [v0, .ref h1, v1, v2, v3, v4, v5, v6, v7, v8, v9, v10, v11, v12, v13, v14, v15, v16, v17, v18, v19, v20, v21, v22, v23, v24, v25, v26, v27, v28, v29, v30, v31, v32, v33, v34, v35, v36])), (h1, .inl (ty 1, 304, .inl (upd (upd (kf 0) 1 2) 4 (-1))))]) rfl rfl (by decide) (by decide) (fun r u H locs w1 hP hD hS => ?_)
  rcases w1 with ⟨c2, rfl, rfl⟩ | ⟨c3, rfl, rfl⟩
  · have hP : va_P D vwCl [(h0, .inr (12, [v0, .ref h1, v1, v2, v3, v4, v5, v6, v7, v8, v9, v10, v11, v12, v13, v14, v15, v16, v17, v18, v19, v20, v21, v22, v23, v24, v25, v26, v27, v28, v29, v30, v31, v32, v33, v34, v35, v36])), (h1, .inl (ty 1, 304, .inl (upd (upd (kf 0) 1 2) 4 (-1))))] H := hP
    have hD : va_D A [(h0, .inr (12, [v0, .ref h1, v1, v2, v3, v4, v5, v6, v7, v8, v9, v10, v11, v12, v13, v14, v15, v16, v17, v18, v19, v20, v21, v22, v23, v24, v25, v26, v27, v28, v29, v30, v31, v32, v33, v34, v35, v36])), (h1, .inl (ty 1, 304, .inl (upd (upd (kf 0) 1 2) 4 (-1))))] := hD
    refine lv_if_eq (tgt := 15) hx hb dX12_forcedWay_4 (by decide) (fun h9 => absurd h9 (by decide)) (fun _ => ?_)
    refine lv_aload_n hx hb dX12_forcedWay_7 rfl (lv_at hl 0 rfl) ?_
    refine lv_iload_n hx hb dX12_forcedWay_8 rfl (lv_at hl 2 rfl) ?_
    refine kc_i (va_runV (As := [.int p1]) (rest := []) ⟨hx, hb, hml, hown, hB⟩ (c150_X12_isAlley l D ty H.size h0 h1 p1 v0 v1 v2 v3 v4 v5 v6 v7 v8 v9 v10 v11 v12 v13 v14 v15 v16 v17 v18 v19 v20 v21 v22 v23 v24 v25 v26 v27 v28 v29 v30 v31 v32 v33 v34 v35 v36) (cwV 1 hB (bw_V mw_472 mw_473 mw_474 mw_211 mw_471) rfl rfl rfl (by decide +kernel) ⟨Nat.le_of_ble_eq_true rfl, Nat.le_of_ble_eq_true rfl⟩) (kp_V hK hP hD [0, 1] (by decide) rfl 0 rfl rfl rfl) rfl rfl hl.1 rfl (lv_room (Nat.le_of_ble_eq_true rfl)) dX12_forcedWay_9 ⟨Nat.le_of_ble_eq_true rfl, Nat.le_of_ble_eq_true rfl⟩) hP hD hS hA [0, 1] [] (wr := []) rfl rfl (by decide) (by decide) (fun r u H locs w4 hP hD hS => ?_)
    obtain ⟨rfl, rfl⟩ := w4
    have hP : va_P D vwCl [(h0, .inr (12, [v0, .ref h1, v1, v2, v3, v4, v5, v6, v7, v8, v9, v10, v11, v12, v13, v14, v15, v16, v17, v18, v19, v20, v21, v22, v23, v24, v25, v26, v27, v28, v29, v30, v31, v32, v33, v34, v35, v36])), (h1, .inl (ty 1, 304, .inl (upd (upd (kf 0) 1 2) 4 (-1))))] H := hP
    have hD : va_D A [(h0, .inr (12, [v0, .ref h1, v1, v2, v3, v4, v5, v6, v7, v8, v9, v10, v11, v12, v13, v14, v15, v16, v17, v18, v19, v20, v21, v22, v23, v24, v25, v26, v27, v28, v29, v30, v31, v32, v33, v34, v35, v36])), (h1, .inl (ty 1, 304, .inl (upd (upd (kf 0) 1 2) 4 (-1))))] := hD
    refine lv_if_ne (tgt := 17) hx hb dX12_forcedWay_12 (by decide) (fun h9 => absurd (by decide) h9) (fun _ => ?_)
    refine lv_iconst (v := (-1)) hx hb dX12_forcedWay_15 (by decide) ?_
    exact kr_z hx hb hr rfl hlocks hP hD hS [] [] (by decide) rfl ⟨rfl, rfl⟩ (by decide) (by decide) dX12_forcedWay_16
  · have hP : va_P D vwCl [(h0, .inr (12, [v0, .ref h1, v1, v2, v3, v4, v5, v6, v7, v8, v9, v10, v11, v12, v13, v14, v15, v16, v17, v18, v19, v20, v21, v22, v23, v24, v25, v26, v27, v28, v29, v30, v31, v32, v33, v34, v35, v36])), (h1, .inl (ty 1, 304, .inl (upd (upd (kf 0) 1 2) 4 (-1))))] H := hP
    have hD : va_D A [(h0, .inr (12, [v0, .ref h1, v1, v2, v3, v4, v5, v6, v7, v8, v9, v10, v11, v12, v13, v14, v15, v16, v17, v18, v19, v20, v21, v22, v23, v24, v25, v26, v27, v28, v29, v30, v31, v32, v33, v34, v35, v36])), (h1, .inl (ty 1, 304, .inl (upd (upd (kf 0) 1 2) 4 (-1))))] := hD
    refine lv_if_eq (tgt := 15) hx hb dX12_forcedWay_4 (by decide) (fun _ => ?_) (fun h9 => absurd (by decide) h9)
    refine lv_iconst (v := (-1)) hx hb dX12_forcedWay_15 (by decide) ?_
    exact kr_z hx hb hr rfl hlocks hP hD hS [] [] (by decide) rfl ⟨rfl, rfl⟩ (by decide) (by decide) dX12_forcedWay_16
set_option maxHeartbeats 4000000 in
set_option maxRecDepth 100000 in
theorem c176_X12_isCorner (l : Launch) (D : va_G) (ty : Nat → ClassId) (sz : Nat) (h0 : Nat) (h1 : Nat) (p0 : Int32) (v0 : Value) (v1 : Value) (v2 : Value) (v3 : Value) (v4 : Value) (v5 : Value) (v6 : Value) (v7 : Value) (v8 : Value) (v9 : Value) (v10 : Value) (v11 : Value) (v12 : Value) (v13 : Value) (v14 : Value) (v15 : Value) (v16 : Value) (v17 : Value) (v18 : Value) (v19 : Value) (v20 : Value) (v21 : Value) (v22 : Value) (v23 : Value) (v24 : Value) (v25 : Value) (v26 : Value) (v27 : Value) (v28 : Value) (v29 : Value) (v30 : Value) (v31 : Value) (v32 : Value) (v33 : Value) (v34 : Value) (v35 : Value) (v36 : Value) : cQ l yX12_isCorner cX12_isCorner 2 (some .boolean) 1 25 [.ref h0, .int p0] D ty [(h0, .inr (12, [v0, .ref h1, v1, v2, v3, v4, v5, v6, v7, v8, v9, v10, v11, v12, v13, v14, v15, v16, v17, v18, v19, v20, v21, v22, v23, v24, v25, v26, v27, v28, v29, v30, v31, v32, v33, v34, v35, v36])), (h1, .inl (ty 1, 304, .inl (upd (upd (kf 0) 1 2) 4 (-1))))] sz (qI (fun (r : Int32) (u : va_W) => ((((0 ≤ (Int32.toInt64 p0)) ∧ ((Int32.toInt64 p0) ≤ 1))) ∧ 1 = r ∧ [(h0, .inr (12, [v0, .ref h1, v1, v2, v3, v4, v5, v6, v7, v8, v9, v10, v11, v12, v13, v14, v15, v16, v17, v18, v19, v20, v21, v22, v23, v24, v25, v26, v27, v28, v29, v30, v31, v32, v33, v34, v35, v36])), (h1, .inl (ty 1, 304, .inl (upd (upd (kf 0) 1 2) 4 (-1))))] = u) ∨ ((((¬ (0 ≤ (Int32.toInt64 p0))) ∨ (¬ ((Int32.toInt64 p0) ≤ 1)))) ∧ 0 = r ∧ [(h0, .inr (12, [v0, .ref h1, v1, v2, v3, v4, v5, v6, v7, v8, v9, v10, v11, v12, v13, v14, v15, v16, v17, v18, v19, v20, v21, v22, v23, v24, v25, v26, v27, v28, v29, v30, v31, v32, v33, v34, v35, v36])), (h1, .inl (ty 1, 304, .inl (upd (upd (kf 0) 1 2) 4 (-1))))] = u))) 0 0 := by
  refine cQ.of (by decide) (Nat.le_of_ble_eq_true rfl) (fun p e s m below meth c A ls C hsz hP hK hD hA hl => ?_)
  obtain ⟨hx, hb, hml, hown, hB, hr, hlocks, hin⟩ := C
  have hown : s.vm.findClass RX12 = some m.cls := hown
  have hS : va_S A s.heap s.heap [] := va_S.rf
  have hl : lv_has ls 2 [(0, .ref h0), (1, .int p0)] := hl
  refine lv_iload_n hx hb dX12_isCorner_0 rfl (lv_at hl 1 rfl) ?_
  refine lv_i2l (v := (Int32.toInt64 p0)) hx hb dX12_isCorner_1 rfl ?_
  refine lv_lconst (v := 0) hx hb dX12_isCorner_2 (by decide) ?_
  refine lv_aload_n hx hb dX12_isCorner_3 rfl (lv_at hl 0 rfl) ?_
  refine kc_i (va_runV (As := []) (rest := [.long 0, .long (Int32.toInt64 p0)]) ⟨hx, hb, hml, hown, hB⟩ (c160_X12_corners l D ty s.heap.size h0 h1 v0 v1 v2 v3 v4 v5 v6 v7 v8 v9 v10 v11 v12 v13 v14 v15 v16 v17 v18 v19 v20 v21 v22 v23 v24 v25 v26 v27 v28 v29 v30 v31 v32 v33 v34 v35 v36) (cwV 0 hB (bw_V mw_484 mw_485 mw_486 mw_211 mw_483) rfl rfl rfl (by decide +kernel) ⟨Nat.le_of_ble_eq_true rfl, Nat.le_of_ble_eq_true rfl⟩) (kp_V hK hP hD [0, 1] (by decide) rfl 0 rfl rfl rfl) rfl rfl hl.1 rfl (lv_room (Nat.le_of_ble_eq_true rfl)) dX12_isCorner_4 ⟨Nat.le_of_ble_eq_true rfl, Nat.le_of_ble_eq_true rfl⟩) hP hD hS hA [0, 1] [] (wr := []) rfl rfl (by decide) (by decide) (fun r u H locs w1 hP hD hS => ?_)
  obtain ⟨rfl, rfl⟩ := w1
  have hP : va_P D vwCl [(h0, .inr (12, [v0, .ref h1, v1, v2, v3, v4, v5, v6, v7, v8, v9, v10, v11, v12, v13, v14, v15, v16, v17, v18, v19, v20, v21, v22, v23, v24, v25, v26, v27, v28, v29, v30, v31, v32, v33, v34, v35, v36])), (h1, .inl (ty 1, 304, .inl (upd (upd (kf 0) 1 2) 4 (-1))))] H := hP
  have hD : va_D A [(h0, .inr (12, [v0, .ref h1, v1, v2, v3, v4, v5, v6, v7, v8, v9, v10, v11, v12, v13, v14, v15, v16, v17, v18, v19, v20, v21, v22, v23, v24, v25, v26, v27, v28, v29, v30, v31, v32, v33, v34, v35, v36])), (h1, .inl (ty 1, 304, .inl (upd (upd (kf 0) 1 2) 4 (-1))))] := hD
  refine lv_iconst (v := 1) hx hb dX12_isCorner_7 (by decide) ?_
  refine lv_isub hx hb dX12_isCorner_8 ?_
  refine tp_i (v := 1) (by decide) ?_
  refine lv_i2l (v := 1) hx hb dX12_isCorner_9 (by decide) ?_
  refine kc_i (va_runS (As := [.long (Int32.toInt64 p0), .long 0, .long 1]) (rest := []) ⟨hx, hb, hml, hown, hB⟩ (c_in l D ty H.size (Int32.toInt64 p0) 0 1) (va_cwS 3 hB (bw_S mw_445 mw_446 mw_211 mw_444) rfl rfl rfl (by decide +kernel) ⟨Nat.le_of_ble_eq_true rfl, Nat.le_of_ble_eq_true rfl⟩) (kp_S hK hP hD [] (by decide) rfl) rfl rfl hl.1 rfl (lv_room (Nat.le_of_ble_eq_true rfl)) dX12_isCorner_10 ⟨Nat.le_of_ble_eq_true rfl, Nat.le_of_ble_eq_true rfl⟩) hP hD hS hA [] [0, 1] (wr := [(h0, .inr (12, [v0, .ref h1, v1, v2, v3, v4, v5, v6, v7, v8, v9, v10, v11, v12, v13, v14, v15, v16, v17, v18, v19, v20, v21, v22, v23, v24, v25, v26, v27, v28, v29, v30, v31, v32, v33, v34, v35, v36])), (h1, .inl (ty 1, 304, .inl (upd (upd (kf 0) 1 2) 4 (-1))))]) rfl rfl (by decide) (by decide) (fun r u H locs w2 hP hD hS => ?_)
  rcases w2 with ⟨c3, rfl, rfl⟩ | ⟨c4, rfl, rfl⟩
  · have hP : va_P D vwCl [(h0, .inr (12, [v0, .ref h1, v1, v2, v3, v4, v5, v6, v7, v8, v9, v10, v11, v12, v13, v14, v15, v16, v17, v18, v19, v20, v21, v22, v23, v24, v25, v26, v27, v28, v29, v30, v31, v32, v33, v34, v35, v36])), (h1, .inl (ty 1, 304, .inl (upd (upd (kf 0) 1 2) 4 (-1))))] H := hP
    have hD : va_D A [(h0, .inr (12, [v0, .ref h1, v1, v2, v3, v4, v5, v6, v7, v8, v9, v10, v11, v12, v13, v14, v15, v16, v17, v18, v19, v20, v21, v22, v23, v24, v25, v26, v27, v28, v29, v30, v31, v32, v33, v34, v35, v36])), (h1, .inl (ty 1, 304, .inl (upd (upd (kf 0) 1 2) 4 (-1))))] := hD
    exact kr_z hx hb hr rfl hlocks hP hD hS [(h0, .inr (12, [v0, .ref h1, v1, v2, v3, v4, v5, v6, v7, v8, v9, v10, v11, v12, v13, v14, v15, v16, v17, v18, v19, v20, v21, v22, v23, v24, v25, v26, v27, v28, v29, v30, v31, v32, v33, v34, v35, v36])), (h1, .inl (ty 1, 304, .inl (upd (upd (kf 0) 1 2) 4 (-1))))] [0, 1] (by decide) rfl (Or.inl ⟨c3, rfl, rfl⟩) (by decide) (by decide) dX12_isCorner_13
  · have hP : va_P D vwCl [(h0, .inr (12, [v0, .ref h1, v1, v2, v3, v4, v5, v6, v7, v8, v9, v10, v11, v12, v13, v14, v15, v16, v17, v18, v19, v20, v21, v22, v23, v24, v25, v26, v27, v28, v29, v30, v31, v32, v33, v34, v35, v36])), (h1, .inl (ty 1, 304, .inl (upd (upd (kf 0) 1 2) 4 (-1))))] H := hP
    have hD : va_D A [(h0, .inr (12, [v0, .ref h1, v1, v2, v3, v4, v5, v6, v7, v8, v9, v10, v11, v12, v13, v14, v15, v16, v17, v18, v19, v20, v21, v22, v23, v24, v25, v26, v27, v28, v29, v30, v31, v32, v33, v34, v35, v36])), (h1, .inl (ty 1, 304, .inl (upd (upd (kf 0) 1 2) 4 (-1))))] := hD
    exact kr_z hx hb hr rfl hlocks hP hD hS [(h0, .inr (12, [v0, .ref h1, v1, v2, v3, v4, v5, v6, v7, v8, v9, v10, v11, v12, v13, v14, v15, v16, v17, v18, v19, v20, v21, v22, v23, v24, v25, v26, v27, v28, v29, v30, v31, v32, v33, v34, v35, v36])), (h1, .inl (ty 1, 304, .inl (upd (upd (kf 0) 1 2) 4 (-1))))] [0, 1] (by decide) rfl (Or.inr ⟨c4, rfl, rfl⟩) (by decide) (by decide) dX12_isCorner_13
set_option maxHeartbeats 4000000 in
set_option maxRecDepth 100000 in
theorem c175_X12_minutes (l : Launch) (D : va_G) (ty : Nat → ClassId) (sz : Nat) (h0 : Nat) (h1 : Nat) (h2 : Nat) (p0 : Int32) (p1 : Int32) (p2 : Int32) (v0 : Value) (v1 : Value) (v2 : Value) (v3 : Value) (v4 : Value) (v5 : Value) (v6 : Value) (v7 : Value) (v8 : Value) (v9 : Value) (v10 : Value) (v11 : Value) (v12 : Value) (v13 : Value) (v14 : Value) (v15 : Value) (v16 : Value) (v17 : Value) (v18 : Value) (v19 : Value) (v20 : Value) (v21 : Value) (v22 : Value) (v23 : Value) (v24 : Value) (v25 : Value) (v26 : Value) (v27 : Value) (v28 : Value) (v29 : Value) (v30 : Value) (v31 : Value) (v32 : Value) (v33 : Value) (v34 : Value) (v35 : Value) (f0 : Nat → Int32) : cQ l yX12_minutes cX12_minutes 5 (some .int) 3 69 [.ref h0, .int p0, .int p1, .int p2] D ty [(h0, .inr (12, [v0, .ref h1, v1, v2, v3, v4, v5, v6, v7, v8, v9, v10, v11, v12, v13, v14, v15, .ref h2, v16, v17, v18, v19, v20, v21, v22, v23, v24, v25, v26, v27, v28, v29, v30, v31, v32, v33, v34, v35])), (h1, .inl (ty 1, 304, .inl (upd (upd (kf 0) 1 2) 4 (-1)))), (h2, .inl (ty 1, 256, .inl f0))] sz (qI (fun (r : Int32) (u : va_W) => ((((((0 ≤ (Int32.toInt64 p0)) ∧ ((Int32.toInt64 p0) ≤ 1))) ∧ (((0 ≤ (Int32.toInt64 p1)) ∧ ((Int32.toInt64 p1) ≤ 1))) ∧ (((0 ≤ (Int32.toInt64 p2)) ∧ ((Int32.toInt64 p2) ≤ 1))) ∧ (p1 = 0) ∧ (p2 = 0)) ∨ ((((0 ≤ (Int32.toInt64 p0)) ∧ ((Int32.toInt64 p0) ≤ 1))) ∧ (((0 ≤ (Int32.toInt64 p1)) ∧ ((Int32.toInt64 p1) ≤ 1))) ∧ (((0 ≤ (Int32.toInt64 p2)) ∧ ((Int32.toInt64 p2) ≤ 1))) ∧ (p1 = 1) ∧ (p2 = 1))) ∧ 0 = r ∧ [] = u) ∨ ((((((0 ≤ (Int32.toInt64 p0)) ∧ ((Int32.toInt64 p0) ≤ 1))) ∧ (((0 ≤ (Int32.toInt64 p1)) ∧ ((Int32.toInt64 p1) ≤ 1))) ∧ (((0 ≤ (Int32.toInt64 p2)) ∧ ((Int32.toInt64 p2) ≤ 1))) ∧ (p1 = 0) ∧ (p2 = 1)) ∨ ((((0 ≤ (Int32.toInt64 p0)) ∧ ((Int32.toInt64 p0) ≤ 1))) ∧ (((0 ≤ (Int32.toInt64 p1)) ∧ ((Int32.toInt64 p1) ≤ 1))) ∧ (((0 ≤ (Int32.toInt64 p2)) ∧ ((Int32.toInt64 p2) ≤ 1))) ∧ (p1 = 1) ∧ (p2 = 0))) ∧ (-1) = r ∧ [] = u) ∨ ((((((0 ≤ (Int32.toInt64 p0)) ∧ ((Int32.toInt64 p0) ≤ 1))) ∧ (((0 ≤ (Int32.toInt64 p1)) ∧ ((Int32.toInt64 p1) ≤ 1))) ∧ (((¬ (0 ≤ (Int32.toInt64 p2))) ∨ (¬ ((Int32.toInt64 p2) ≤ 1))))) ∨ ((((0 ≤ (Int32.toInt64 p0)) ∧ ((Int32.toInt64 p0) ≤ 1))) ∧ (((¬ (0 ≤ (Int32.toInt64 p1))) ∨ (¬ ((Int32.toInt64 p1) ≤ 1))))) ∨ ((((¬ (0 ≤ (Int32.toInt64 p0))) ∨ (¬ ((Int32.toInt64 p0) ≤ 1)))))) ∧ (-2) = r ∧ [] = u))) 0 0 := by
  refine cQ.of (by decide) (Nat.le_of_ble_eq_true rfl) (fun p e s m below meth c A ls C hsz hP hK hD hA hl => ?_)
  obtain ⟨hx, hb, hml, hown, hB, hr, hlocks, hin⟩ := C
  have hown : s.vm.findClass RX12 = some m.cls := hown
  have hS : va_S A s.heap s.heap [] := va_S.rf
  have hl : lv_has ls 5 [(0, .ref h0), (1, .int p0), (2, .int p1), (3, .int p2)] := hl
  refine lv_iload_n hx hb dX12_minutes_0 rfl (lv_at hl 1 rfl) ?_
  refine kc_i (va_runS (As := [.int p0]) (rest := []) ⟨hx, hb, hml, hown, hB⟩ (c149_X12_isGiving l D ty s.heap.size p0) (va_cwS 1 hB (bw_S mw_469 mw_470 mw_211 mw_468) rfl rfl rfl (by decide +kernel) ⟨Nat.le_of_ble_eq_true rfl, Nat.le_of_ble_eq_true rfl⟩) (kp_S hK hP hD [] (by decide) rfl) rfl rfl hl.1 rfl (lv_room (Nat.le_of_ble_eq_true rfl)) dX12_minutes_1 ⟨Nat.le_of_ble_eq_true rfl, Nat.le_of_ble_eq_true rfl⟩) hP hD hS hA [] [0, 1, 2] (wr := [(h0, .inr (12, [v0, .ref h1, v1, v2, v3, v4, v5, v6, v7, v8, v9, v10, v11, v12, v13, v14, v15, .ref h2, v16, v17, v18, v19, v20, v21, v22, v23, v24, v25, v26, v27, v28, v29, v30, v31, v32, v33, v34, v35])), (h1, .inl (ty 1, 304, .inl (upd (upd (kf 0) 1 2) 4 (-1)))), (h2, .inl (ty 1, 256, .inl f0))]) rfl rfl (by decide) (by decide) (fun r u H locs w1 hP hD hS => ?_)
  rcases w1 with ⟨c2, rfl, rfl⟩ | ⟨c3, rfl, rfl⟩
  · have hP : va_P D vwCl [(h0, .inr (12, [v0, .ref h1, v1, v2, v3, v4, v5, v6, v7, v8, v9, v10, v11, v12, v13, v14, v15, .ref h2, v16, v17, v18, v19, v20, v21, v22, v23, v24, v25, v26, v27, v28, v29, v30, v31, v32, v33, v34, v35])), (h1, .inl (ty 1, 304, .inl (upd (upd (kf 0) 1 2) 4 (-1)))), (h2, .inl (ty 1, 256, .inl f0))] H := hP
    have hD : va_D A [(h0, .inr (12, [v0, .ref h1, v1, v2, v3, v4, v5, v6, v7, v8, v9, v10, v11, v12, v13, v14, v15, .ref h2, v16, v17, v18, v19, v20, v21, v22, v23, v24, v25, v26, v27, v28, v29, v30, v31, v32, v33, v34, v35])), (h1, .inl (ty 1, 304, .inl (upd (upd (kf 0) 1 2) 4 (-1)))), (h2, .inl (ty 1, 256, .inl f0))] := hD
    refine lv_if_eq (tgt := 23) hx hb dX12_minutes_4 (by decide) (fun h9 => absurd h9 (by decide)) (fun _ => ?_)
    refine lv_aload_n hx hb dX12_minutes_7 rfl (lv_at hl 0 rfl) ?_
    refine lv_iload_n hx hb dX12_minutes_8 rfl (lv_at hl 2 rfl) ?_
    refine kc_i (va_runV (As := [.int p1]) (rest := []) ⟨hx, hb, hml, hown, hB⟩ (c176_X12_isCorner l D ty H.size h0 h1 p1 v0 v1 v2 v3 v4 v5 v6 v7 v8 v9 v10 v11 v12 v13 v14 v15 (.ref h2) v16 v17 v18 v19 v20 v21 v22 v23 v24 v25 v26 v27 v28 v29 v30 v31 v32 v33 v34 v35) (cwV 1 hB (bw_V mw_512 mw_513 mw_514 mw_211 mw_511) rfl rfl rfl (by decide +kernel) ⟨Nat.le_of_ble_eq_true rfl, Nat.le_of_ble_eq_true rfl⟩) (kp_V hK hP hD [0, 1] (by decide) rfl 0 rfl rfl rfl) rfl rfl hl.1 rfl (lv_room (Nat.le_of_ble_eq_true rfl)) dX12_minutes_9 ⟨Nat.le_of_ble_eq_true rfl, Nat.le_of_ble_eq_true rfl⟩) hP hD hS hA [0, 1] [2] (wr := [(h2, .inl (ty 1, 256, .inl f0))]) rfl rfl (by decide) (by decide) (fun r u H locs w4 hP hD hS => ?_)
    rcases w4 with ⟨c5, rfl, rfl⟩ | ⟨c6, rfl, rfl⟩
    · have hP : va_P D vwCl [(h2, .inl (ty 1, 256, .inl f0)), (h0, .inr (12, [v0, .ref h1, v1, v2, v3, v4, v5, v6, v7, v8, v9, v10, v11, v12, v13, v14, v15, .ref h2, v16, v17, v18, v19, v20, v21, v22, v23, v24, v25, v26, v27, v28, v29, v30, v31, v32, v33, v34, v35])), (h1, .inl (ty 1, 304, .inl (upd (upd (kf 0) 1 2) 4 (-1))))] H := hP
      have hD : va_D A [(h2, .inl (ty 1, 256, .inl f0)), (h0, .inr (12, [v0, .ref h1, v1, v2, v3, v4, v5, v6, v7, v8, v9, v10, v11, v12, v13, v14, v15, .ref h2, v16, v17, v18, v19, v20, v21, v22, v23, v24, v25, v26, v27, v28, v29, v30, v31, v32, v33, v34, v35])), (h1, .inl (ty 1, 304, .inl (upd (upd (kf 0) 1 2) 4 (-1))))] := hD
      refine lv_if_eq (tgt := 23) hx hb dX12_minutes_12 (by decide) (fun h9 => absurd h9 (by decide)) (fun _ => ?_)
      refine lv_aload_n hx hb dX12_minutes_15 rfl (lv_at hl 0 rfl) ?_
      refine lv_iload_n hx hb dX12_minutes_16 rfl (lv_at hl 3 rfl) ?_
      refine kc_i (va_runV (As := [.int p2]) (rest := []) ⟨hx, hb, hml, hown, hB⟩ (c176_X12_isCorner l D ty H.size h0 h1 p2 v0 v1 v2 v3 v4 v5 v6 v7 v8 v9 v10 v11 v12 v13 v14 v15 (.ref h2) v16 v17 v18 v19 v20 v21 v22 v23 v24 v25 v26 v27 v28 v29 v30 v31 v32 v33 v34 v35) (cwV 1 hB (bw_V mw_512 mw_513 mw_514 mw_211 mw_511) rfl rfl rfl (by decide +kernel) ⟨Nat.le_of_ble_eq_true rfl, Nat.le_of_ble_eq_true rfl⟩) (kp_V hK hP hD [1, 2] (by decide) rfl 1 rfl rfl rfl) rfl rfl hl.1 rfl (lv_room (Nat.le_of_ble_eq_true rfl)) dX12_minutes_17 ⟨Nat.le_of_ble_eq_true rfl, Nat.le_of_ble_eq_true rfl⟩) hP hD hS hA [1, 2] [0] (wr := [(h2, .inl (ty 1, 256, .inl f0))]) rfl rfl (by decide) (by decide) (fun r u H locs w7 hP hD hS => ?_)
      rcases w7 with ⟨c8, rfl, rfl⟩ | ⟨c9, rfl, rfl⟩
      · have hP : va_P D vwCl [(h2, .inl (ty 1, 256, .inl f0)), (h0, .inr (12, [v0, .ref h1, v1, v2, v3, v4, v5, v6, v7, v8, v9, v10, v11, v12, v13, v14, v15, .ref h2, v16, v17, v18, v19, v20, v21, v22, v23, v24, v25, v26, v27, v28, v29, v30, v31, v32, v33, v34, v35])), (h1, .inl (ty 1, 304, .inl (upd (upd (kf 0) 1 2) 4 (-1))))] H := hP
        have hD : va_D A [(h2, .inl (ty 1, 256, .inl f0)), (h0, .inr (12, [v0, .ref h1, v1, v2, v3, v4, v5, v6, v7, v8, v9, v10, v11, v12, v13, v14, v15, .ref h2, v16, v17, v18, v19, v20, v21, v22, v23, v24, v25, v26, v27, v28, v29, v30, v31, v32, v33, v34, v35])), (h1, .inl (ty 1, 304, .inl (upd (upd (kf 0) 1 2) 4 (-1))))] := hD
        refine lv_if_ne (tgt := 26) hx hb dX12_minutes_20 (by decide) (fun _ => ?_) (fun h9 => absurd h9 (by decide))
        refine lv_aload_n hx hb dX12_minutes_26 rfl (lv_at hl 0 rfl) ?_
        refine lv_iload_n hx hb dX12_minutes_27 rfl (lv_at hl 1 rfl) ?_
        refine kc_v (va_runV (As := [.int p0]) (rest := []) ⟨hx, hb, hml, hown, hB⟩ (c156_X12_tries l D ty H.size h0 h1 p0 v0 v1 v2 v3 v4 v5 v6 v7 v8 v9 v10 v11 v12 v13 v14 v15 (.ref h2) v16 v17 v18 v19 v20 v21 v22 v23 v24 v25 v26 v27 v28 v29 v30 v31 v32 v33 v34 v35) (cwV 1 hB (bw_V mw_480 mw_481 mw_482 mw_211 mw_479) rfl rfl rfl (by decide +kernel) ⟨Nat.le_of_ble_eq_true rfl, Nat.le_of_ble_eq_true rfl⟩) (kp_V hK hP hD [1, 2] (by decide) rfl 1 rfl rfl rfl) rfl rfl hl.1 rfl (lv_room (Nat.le_of_ble_eq_true rfl)) dX12_minutes_28 ⟨Nat.le_of_ble_eq_true rfl, Nat.le_of_ble_eq_true rfl⟩) hP hD hS hA [1, 2] [0] (wr := [(h2, .inl (ty 1, 256, .inl f0))]) rfl rfl (by decide) (by decide) (fun u H locs w10 hP hD hS => ?_)
        subst w10
        have hP : va_P D vwCl [(h2, .inl (ty 1, 256, .inl f0)), (h0, .inr (12, [v0, .ref h1, v1, v2, v3, v4, v5, v6, v7, v8, v9, v10, v11, v12, v13, v14, v15, .ref h2, v16, v17, v18, v19, v20, v21, v22, v23, v24, v25, v26, v27, v28, v29, v30, v31, v32, v33, v34, v35])), (h1, .inl (ty 1, 304, .inl (upd (upd (kf 0) 1 2) 4 (-1))))] H := hP
        have hD : va_D A [(h2, .inl (ty 1, 256, .inl f0)), (h0, .inr (12, [v0, .ref h1, v1, v2, v3, v4, v5, v6, v7, v8, v9, v10, v11, v12, v13, v14, v15, .ref h2, v16, v17, v18, v19, v20, v21, v22, v23, v24, v25, v26, v27, v28, v29, v30, v31, v32, v33, v34, v35])), (h1, .inl (ty 1, 304, .inl (upd (upd (kf 0) 1 2) 4 (-1))))] := hD
        refine lv_aload_n hx hb dX12_minutes_31 rfl (lv_at hl 0 rfl) ?_
        refine kc_v (va_runV (As := []) (rest := []) ⟨hx, hb, hml, hown, hB⟩ (c158_X12_measure l D ty H.size h0 h1 h2 v0 v1 v2 v3 v4 v5 v6 v7 v8 v9 v10 v11 v12 v13 v14 v15 v16 v17 v18 v19 v20 v21 v22 v23 v24 v25 v26 v27 v28 v29 v30 v31 v32 v33 v34 v35 f0) (cwV 0 hB (bw_V mw_496 mw_497 mw_498 mw_211 mw_495) rfl rfl rfl (by decide +kernel) ⟨Nat.le_of_ble_eq_true rfl, Nat.le_of_ble_eq_true rfl⟩) (kp_V hK hP hD [1, 2, 0] (by decide) rfl 1 rfl rfl rfl) rfl rfl hl.1 rfl (lv_room (Nat.le_of_ble_eq_true rfl)) dX12_minutes_32 ⟨Nat.le_of_ble_eq_true rfl, Nat.le_of_ble_eq_true rfl⟩) hP hD hS hA [1, 2, 0] [] (wr := []) rfl rfl (by decide) (by decide) (fun u H locs w11 hP hD hS => ?_)
        subst w11
        have hP : va_P D vwCl [(h0, .inr (12, [v0, .ref h1, v1, v2, v3, v4, v5, v6, v7, v8, v9, v10, v11, v12, v13, v14, v15, .ref h2, v16, v17, v18, v19, v20, v21, v22, v23, v24, v25, v26, v27, v28, v29, v30, v31, v32, v33, v34, v35])), (h1, .inl (ty 1, 304, .inl (upd (upd (kf 0) 1 2) 4 (-1)))), (h2, .inl (ty 1, 256, .inl (upd (upd (upd (upd f0 0 0) 1 1000000) 16 1000000) 17 0)))] H := hP
        have hD : va_D A [(h0, .inr (12, [v0, .ref h1, v1, v2, v3, v4, v5, v6, v7, v8, v9, v10, v11, v12, v13, v14, v15, .ref h2, v16, v17, v18, v19, v20, v21, v22, v23, v24, v25, v26, v27, v28, v29, v30, v31, v32, v33, v34, v35])), (h1, .inl (ty 1, 304, .inl (upd (upd (kf 0) 1 2) 4 (-1)))), (h2, .inl (ty 1, 256, .inl (upd (upd (upd (upd f0 0 0) 1 1000000) 16 1000000) 17 0)))] := hD
        refine lv_aload_n hx hb dX12_minutes_35 rfl (lv_at hl 0 rfl) ?_
        refine va_get (D := D) (ci := 12) (v := .ref h2) (C := RX12) (T := TX12) (N := 38) hx hb hB inB_X12 hown hK.1 hP 0 rfl rfl 17 (by decide) (hB _ mw_192) (fun _ h9 => h9) rfl dX12_minutes_36 ?_
        refine lv_bipush (v := 16) hx hb dX12_minutes_39 (by decide) ?_
        refine lv_iload_n hx hb dX12_minutes_41 rfl (lv_at hl 2 rfl) ?_
        refine lv_imul hx hb dX12_minutes_42 ?_
        refine lv_iload_n hx hb dX12_minutes_43 rfl (lv_at hl 3 rfl) ?_
        refine lv_iadd hx hb dX12_minutes_44 ?_
        rcases ps_7 p1 c5 with rfl | rfl
        · rcases ps_7 p2 c8 with rfl | rfl
          · refine va_iald hx hb hK.1 hP 2 1 rfl rfl (by unfold vp_in; decide) dX12_minutes_45 ?_
            refine tp_i (v := 0) rfl ?_
            refine lv_istore (lv' := [(4, .int 0), (0, .ref h0), (1, .int p0), (2, .int 0), (3, .int 0)]) hx hb dX12_minutes_46 hl (by decide) rfl (fun ls hl => ?_)
            refine lv_iload hx hb dX12_minutes_48 (lv_at hl 0 rfl) ?_
            refine lv_ldc hx hb hown (hB _ mw_487) dX12_minutes_50 ?_
            refine lv_icmp_lt (tgt := 59) hx hb dX12_minutes_52 (by decide) (fun _ => ?_) (fun h9 => absurd (by decide) h9)
            refine lv_iload hx hb dX12_minutes_59 (lv_at hl 0 rfl) ?_
            exact kr_z hx hb hr rfl hlocks hP hD hS [] [] (by decide) rfl (Or.inl ⟨(Or.inl ⟨c2, c5, c8, rfl, rfl⟩), rfl, rfl⟩) (by decide) (by decide) dX12_minutes_61
          · refine va_iald hx hb hK.1 hP 2 1 rfl rfl (by unfold vp_in; decide) dX12_minutes_45 ?_
            refine tp_i (v := 1000000) rfl ?_
            refine lv_istore (lv' := [(4, .int 1000000), (0, .ref h0), (1, .int p0), (2, .int 0), (3, .int 1)]) hx hb dX12_minutes_46 hl (by decide) rfl (fun ls hl => ?_)
            refine lv_iload hx hb dX12_minutes_48 (lv_at hl 0 rfl) ?_
            refine lv_ldc hx hb hown (hB _ mw_487) dX12_minutes_50 ?_
            refine lv_icmp_lt (tgt := 59) hx hb dX12_minutes_52 (by decide) (fun h9 => absurd h9 (by decide)) (fun _ => ?_)
            refine lv_iconst (v := (-1)) hx hb dX12_minutes_55 (by decide) ?_
            refine lv_goto (tgt := 61) hx hb dX12_minutes_56 (by decide) ?_
            exact kr_z hx hb hr rfl hlocks hP hD hS [] [] (by decide) rfl (Or.inr (Or.inl ⟨(Or.inl ⟨c2, c5, c8, rfl, rfl⟩), rfl, rfl⟩)) (by decide) (by decide) dX12_minutes_61
        · rcases ps_7 p2 c8 with rfl | rfl
          · refine va_iald hx hb hK.1 hP 2 1 rfl rfl (by unfold vp_in; decide) dX12_minutes_45 ?_
            refine tp_i (v := 1000000) rfl ?_
            refine lv_istore (lv' := [(4, .int 1000000), (0, .ref h0), (1, .int p0), (2, .int 1), (3, .int 0)]) hx hb dX12_minutes_46 hl (by decide) rfl (fun ls hl => ?_)
            refine lv_iload hx hb dX12_minutes_48 (lv_at hl 0 rfl) ?_
            refine lv_ldc hx hb hown (hB _ mw_487) dX12_minutes_50 ?_
            refine lv_icmp_lt (tgt := 59) hx hb dX12_minutes_52 (by decide) (fun h9 => absurd h9 (by decide)) (fun _ => ?_)
            refine lv_iconst (v := (-1)) hx hb dX12_minutes_55 (by decide) ?_
            refine lv_goto (tgt := 61) hx hb dX12_minutes_56 (by decide) ?_
            exact kr_z hx hb hr rfl hlocks hP hD hS [] [] (by decide) rfl (Or.inr (Or.inl ⟨(Or.inr ⟨c2, c5, c8, rfl, rfl⟩), rfl, rfl⟩)) (by decide) (by decide) dX12_minutes_61
          · refine va_iald hx hb hK.1 hP 2 1 rfl rfl (by unfold vp_in; decide) dX12_minutes_45 ?_
            refine tp_i (v := 0) rfl ?_
            refine lv_istore (lv' := [(4, .int 0), (0, .ref h0), (1, .int p0), (2, .int 1), (3, .int 1)]) hx hb dX12_minutes_46 hl (by decide) rfl (fun ls hl => ?_)
            refine lv_iload hx hb dX12_minutes_48 (lv_at hl 0 rfl) ?_
            refine lv_ldc hx hb hown (hB _ mw_487) dX12_minutes_50 ?_
            refine lv_icmp_lt (tgt := 59) hx hb dX12_minutes_52 (by decide) (fun _ => ?_) (fun h9 => absurd (by decide) h9)
            refine lv_iload hx hb dX12_minutes_59 (lv_at hl 0 rfl) ?_
            exact kr_z hx hb hr rfl hlocks hP hD hS [] [] (by decide) rfl (Or.inl ⟨(Or.inr ⟨c2, c5, c8, rfl, rfl⟩), rfl, rfl⟩) (by decide) (by decide) dX12_minutes_61
      · have hP : va_P D vwCl [(h2, .inl (ty 1, 256, .inl f0)), (h0, .inr (12, [v0, .ref h1, v1, v2, v3, v4, v5, v6, v7, v8, v9, v10, v11, v12, v13, v14, v15, .ref h2, v16, v17, v18, v19, v20, v21, v22, v23, v24, v25, v26, v27, v28, v29, v30, v31, v32, v33, v34, v35])), (h1, .inl (ty 1, 304, .inl (upd (upd (kf 0) 1 2) 4 (-1))))] H := hP
        have hD : va_D A [(h2, .inl (ty 1, 256, .inl f0)), (h0, .inr (12, [v0, .ref h1, v1, v2, v3, v4, v5, v6, v7, v8, v9, v10, v11, v12, v13, v14, v15, .ref h2, v16, v17, v18, v19, v20, v21, v22, v23, v24, v25, v26, v27, v28, v29, v30, v31, v32, v33, v34, v35])), (h1, .inl (ty 1, 304, .inl (upd (upd (kf 0) 1 2) 4 (-1))))] := hD
        refine lv_if_ne (tgt := 26) hx hb dX12_minutes_20 (by decide) (fun h9 => absurd (by decide) h9) (fun _ => ?_)
        refine lv_bipush (v := (-2)) hx hb dX12_minutes_23 (by decide) ?_
        exact kr_z hx hb hr rfl hlocks hP hD hS [] [] (by decide) rfl (Or.inr (Or.inr ⟨(Or.inl ⟨c2, c5, c9⟩), rfl, rfl⟩)) (by decide) (by decide) dX12_minutes_25
    · have hP : va_P D vwCl [(h2, .inl (ty 1, 256, .inl f0)), (h0, .inr (12, [v0, .ref h1, v1, v2, v3, v4, v5, v6, v7, v8, v9, v10, v11, v12, v13, v14, v15, .ref h2, v16, v17, v18, v19, v20, v21, v22, v23, v24, v25, v26, v27, v28, v29, v30, v31, v32, v33, v34, v35])), (h1, .inl (ty 1, 304, .inl (upd (upd (kf 0) 1 2) 4 (-1))))] H := hP
      have hD : va_D A [(h2, .inl (ty 1, 256, .inl f0)), (h0, .inr (12, [v0, .ref h1, v1, v2, v3, v4, v5, v6, v7, v8, v9, v10, v11, v12, v13, v14, v15, .ref h2, v16, v17, v18, v19, v20, v21, v22, v23, v24, v25, v26, v27, v28, v29, v30, v31, v32, v33, v34, v35])), (h1, .inl (ty 1, 304, .inl (upd (upd (kf 0) 1 2) 4 (-1))))] := hD
      refine lv_if_eq (tgt := 23) hx hb dX12_minutes_12 (by decide) (fun _ => ?_) (fun h9 => absurd (by decide) h9)
      refine lv_bipush (v := (-2)) hx hb dX12_minutes_23 (by decide) ?_
      exact kr_z hx hb hr rfl hlocks hP hD hS [] [] (by decide) rfl (Or.inr (Or.inr ⟨(Or.inr (Or.inl ⟨c2, c6⟩)), rfl, rfl⟩)) (by decide) (by decide) dX12_minutes_25
  · have hP : va_P D vwCl [(h0, .inr (12, [v0, .ref h1, v1, v2, v3, v4, v5, v6, v7, v8, v9, v10, v11, v12, v13, v14, v15, .ref h2, v16, v17, v18, v19, v20, v21, v22, v23, v24, v25, v26, v27, v28, v29, v30, v31, v32, v33, v34, v35])), (h1, .inl (ty 1, 304, .inl (upd (upd (kf 0) 1 2) 4 (-1)))), (h2, .inl (ty 1, 256, .inl f0))] H := hP
    have hD : va_D A [(h0, .inr (12, [v0, .ref h1, v1, v2, v3, v4, v5, v6, v7, v8, v9, v10, v11, v12, v13, v14, v15, .ref h2, v16, v17, v18, v19, v20, v21, v22, v23, v24, v25, v26, v27, v28, v29, v30, v31, v32, v33, v34, v35])), (h1, .inl (ty 1, 304, .inl (upd (upd (kf 0) 1 2) 4 (-1)))), (h2, .inl (ty 1, 256, .inl f0))] := hD
    refine lv_if_eq (tgt := 23) hx hb dX12_minutes_4 (by decide) (fun _ => ?_) (fun h9 => absurd (by decide) h9)
    refine lv_bipush (v := (-2)) hx hb dX12_minutes_23 (by decide) ?_
    exact kr_z hx hb hr rfl hlocks hP hD hS [] [] (by decide) rfl (Or.inr (Or.inr ⟨(Or.inr (Or.inr c3)), rfl, rfl⟩)) (by decide) (by decide) dX12_minutes_25
set_option maxHeartbeats 4000000 in
set_option maxRecDepth 100000 in
theorem c179_X12_journeys (l : Launch) (D : va_G) (ty : Nat → ClassId) (sz : Nat) (h0 : Nat) (h1 : Nat) (v0 : Value) (v1 : Value) (v2 : Value) (v3 : Value) (v4 : Value) (v5 : Value) (v6 : Value) (v7 : Value) (v8 : Value) (v9 : Value) (v10 : Value) (v11 : Value) (v12 : Value) (v13 : Value) (v14 : Value) (v15 : Value) (v16 : Value) (v17 : Value) (v18 : Value) (v19 : Value) (v20 : Value) (v21 : Value) (v22 : Value) (v23 : Value) (v24 : Value) (v25 : Value) (v26 : Value) (v27 : Value) (v28 : Value) (v29 : Value) (v30 : Value) (v31 : Value) (v32 : Value) (v33 : Value) (v34 : Value) (v35 : Value) (v36 : Value) : cQ l yX12_journeys cX12_journeys 1 (some .int) 0 0 [.ref h0] D ty [(h0, .inr (12, [v0, .ref h1, v1, v2, v3, v4, v5, v6, v7, v8, v9, v10, v11, v12, v13, v14, v15, v16, v17, v18, v19, v20, v21, v22, v23, v24, v25, v26, v27, v28, v29, v30, v31, v32, v33, v34, v35, v36])), (h1, .inl (ty 1, 304, .inl (upd (upd (kf 0) 1 2) 4 (-1))))] sz (qI (fun (r : Int32) (u : va_W) => 0 = r ∧ [(h0, .inr (12, [v0, .ref h1, v1, v2, v3, v4, v5, v6, v7, v8, v9, v10, v11, v12, v13, v14, v15, v16, v17, v18, v19, v20, v21, v22, v23, v24, v25, v26, v27, v28, v29, v30, v31, v32, v33, v34, v35, v36])), (h1, .inl (ty 1, 304, .inl (upd (upd (kf 0) 1 2) 4 (-1))))] = u)) 0 0 := by
  refine cQ.of (by decide) (Nat.le_of_ble_eq_true rfl) (fun p e s m below meth c A ls C hsz hP hK hD hA hl => ?_)
  obtain ⟨hx, hb, hml, hown, hB, hr, hlocks, hin⟩ := C
  have hown : s.vm.findClass RX12 = some m.cls := hown
  have hS : va_S A s.heap s.heap [] := va_S.rf
  have hl : lv_has ls 1 [(0, .ref h0)] := hl
  refine lv_aload_n hx hb dX12_journeys_0 rfl (lv_at hl 0 rfl) ?_
  refine va_get (D := D) (ci := 12) (v := .ref h1) (C := RX12) (T := TX12) (N := 38) hx hb hB inB_X12 hown hK.1 hP 0 rfl rfl 1 (by decide) (hB _ mw_182) (fun _ h9 => h9) rfl dX12_journeys_1 ?_
  refine lv_iconst (v := 3) hx hb dX12_journeys_4 (by decide) ?_
  refine va_iald hx hb hK.1 hP 1 1 rfl rfl (by unfold vp_in; decide) dX12_journeys_5 ?_
  refine tp_i (v := 0) rfl ?_
  exact kr_z hx hb hr rfl hlocks hP hD hS [(h0, .inr (12, [v0, .ref h1, v1, v2, v3, v4, v5, v6, v7, v8, v9, v10, v11, v12, v13, v14, v15, v16, v17, v18, v19, v20, v21, v22, v23, v24, v25, v26, v27, v28, v29, v30, v31, v32, v33, v34, v35, v36])), (h1, .inl (ty 1, 304, .inl (upd (upd (kf 0) 1 2) 4 (-1))))] [0, 1] (by decide) rfl ⟨rfl, rfl⟩ (by decide) (by decide) dX12_journeys_6
set_option maxHeartbeats 4000000 in
set_option maxRecDepth 100000 in
theorem c178_X12_isJourney (l : Launch) (D : va_G) (ty : Nat → ClassId) (sz : Nat) (h0 : Nat) (h1 : Nat) (p0 : Int32) (v0 : Value) (v1 : Value) (v2 : Value) (v3 : Value) (v4 : Value) (v5 : Value) (v6 : Value) (v7 : Value) (v8 : Value) (v9 : Value) (v10 : Value) (v11 : Value) (v12 : Value) (v13 : Value) (v14 : Value) (v15 : Value) (v16 : Value) (v17 : Value) (v18 : Value) (v19 : Value) (v20 : Value) (v21 : Value) (v22 : Value) (v23 : Value) (v24 : Value) (v25 : Value) (v26 : Value) (v27 : Value) (v28 : Value) (v29 : Value) (v30 : Value) (v31 : Value) (v32 : Value) (v33 : Value) (v34 : Value) (v35 : Value) (v36 : Value) : cQ l yX12_isJourney cX12_isJourney 2 (some .boolean) 1 25 [.ref h0, .int p0] D ty [(h0, .inr (12, [v0, .ref h1, v1, v2, v3, v4, v5, v6, v7, v8, v9, v10, v11, v12, v13, v14, v15, v16, v17, v18, v19, v20, v21, v22, v23, v24, v25, v26, v27, v28, v29, v30, v31, v32, v33, v34, v35, v36])), (h1, .inl (ty 1, 304, .inl (upd (upd (kf 0) 1 2) 4 (-1))))] sz (qI (fun (r : Int32) (u : va_W) => 0 = r ∧ [(h0, .inr (12, [v0, .ref h1, v1, v2, v3, v4, v5, v6, v7, v8, v9, v10, v11, v12, v13, v14, v15, v16, v17, v18, v19, v20, v21, v22, v23, v24, v25, v26, v27, v28, v29, v30, v31, v32, v33, v34, v35, v36])), (h1, .inl (ty 1, 304, .inl (upd (upd (kf 0) 1 2) 4 (-1))))] = u)) 0 0 := by
  refine cQ.of (by decide) (Nat.le_of_ble_eq_true rfl) (fun p e s m below meth c A ls C hsz hP hK hD hA hl => ?_)
  obtain ⟨hx, hb, hml, hown, hB, hr, hlocks, hin⟩ := C
  have hown : s.vm.findClass RX12 = some m.cls := hown
  have hS : va_S A s.heap s.heap [] := va_S.rf
  have hl : lv_has ls 2 [(0, .ref h0), (1, .int p0)] := hl
  refine lv_iload_n hx hb dX12_isJourney_0 rfl (lv_at hl 1 rfl) ?_
  refine lv_i2l (v := (Int32.toInt64 p0)) hx hb dX12_isJourney_1 rfl ?_
  refine lv_lconst (v := 0) hx hb dX12_isJourney_2 (by decide) ?_
  refine lv_aload_n hx hb dX12_isJourney_3 rfl (lv_at hl 0 rfl) ?_
  refine kc_i (va_runV (As := []) (rest := [.long 0, .long (Int32.toInt64 p0)]) ⟨hx, hb, hml, hown, hB⟩ (c179_X12_journeys l D ty s.heap.size h0 h1 v0 v1 v2 v3 v4 v5 v6 v7 v8 v9 v10 v11 v12 v13 v14 v15 v16 v17 v18 v19 v20 v21 v22 v23 v24 v25 v26 v27 v28 v29 v30 v31 v32 v33 v34 v35 v36) (cwV 0 hB (bw_V mw_516 mw_517 mw_518 mw_211 mw_515) rfl rfl rfl (by decide +kernel) ⟨Nat.le_of_ble_eq_true rfl, Nat.le_of_ble_eq_true rfl⟩) (kp_V hK hP hD [0, 1] (by decide) rfl 0 rfl rfl rfl) rfl rfl hl.1 rfl (lv_room (Nat.le_of_ble_eq_true rfl)) dX12_isJourney_4 ⟨Nat.le_of_ble_eq_true rfl, Nat.le_of_ble_eq_true rfl⟩) hP hD hS hA [0, 1] [] (wr := []) rfl rfl (by decide) (by decide) (fun r u H locs w1 hP hD hS => ?_)
  obtain ⟨rfl, rfl⟩ := w1
  have hP : va_P D vwCl [(h0, .inr (12, [v0, .ref h1, v1, v2, v3, v4, v5, v6, v7, v8, v9, v10, v11, v12, v13, v14, v15, v16, v17, v18, v19, v20, v21, v22, v23, v24, v25, v26, v27, v28, v29, v30, v31, v32, v33, v34, v35, v36])), (h1, .inl (ty 1, 304, .inl (upd (upd (kf 0) 1 2) 4 (-1))))] H := hP
  have hD : va_D A [(h0, .inr (12, [v0, .ref h1, v1, v2, v3, v4, v5, v6, v7, v8, v9, v10, v11, v12, v13, v14, v15, v16, v17, v18, v19, v20, v21, v22, v23, v24, v25, v26, v27, v28, v29, v30, v31, v32, v33, v34, v35, v36])), (h1, .inl (ty 1, 304, .inl (upd (upd (kf 0) 1 2) 4 (-1))))] := hD
  refine lv_iconst (v := 1) hx hb dX12_isJourney_7 (by decide) ?_
  refine lv_isub hx hb dX12_isJourney_8 ?_
  refine tp_i (v := (-1)) (by decide) ?_
  refine lv_i2l (v := (-1)) hx hb dX12_isJourney_9 (by decide) ?_
  refine kc_i (va_runS (As := [.long (Int32.toInt64 p0), .long 0, .long (-1)]) (rest := []) ⟨hx, hb, hml, hown, hB⟩ (c_in l D ty H.size (Int32.toInt64 p0) 0 (-1)) (va_cwS 3 hB (bw_S mw_445 mw_446 mw_211 mw_444) rfl rfl rfl (by decide +kernel) ⟨Nat.le_of_ble_eq_true rfl, Nat.le_of_ble_eq_true rfl⟩) (kp_S hK hP hD [] (by decide) rfl) rfl rfl hl.1 rfl (lv_room (Nat.le_of_ble_eq_true rfl)) dX12_isJourney_10 ⟨Nat.le_of_ble_eq_true rfl, Nat.le_of_ble_eq_true rfl⟩) hP hD hS hA [] [0, 1] (wr := [(h0, .inr (12, [v0, .ref h1, v1, v2, v3, v4, v5, v6, v7, v8, v9, v10, v11, v12, v13, v14, v15, v16, v17, v18, v19, v20, v21, v22, v23, v24, v25, v26, v27, v28, v29, v30, v31, v32, v33, v34, v35, v36])), (h1, .inl (ty 1, 304, .inl (upd (upd (kf 0) 1 2) 4 (-1))))]) rfl rfl (by decide) (by decide) (fun r u H locs w2 hP hD hS => ?_)
  rcases w2 with ⟨c3, rfl, rfl⟩ | ⟨c4, rfl, rfl⟩
  · exact (ps_5 p0  c3).elim
  · have hP : va_P D vwCl [(h0, .inr (12, [v0, .ref h1, v1, v2, v3, v4, v5, v6, v7, v8, v9, v10, v11, v12, v13, v14, v15, v16, v17, v18, v19, v20, v21, v22, v23, v24, v25, v26, v27, v28, v29, v30, v31, v32, v33, v34, v35, v36])), (h1, .inl (ty 1, 304, .inl (upd (upd (kf 0) 1 2) 4 (-1))))] H := hP
    have hD : va_D A [(h0, .inr (12, [v0, .ref h1, v1, v2, v3, v4, v5, v6, v7, v8, v9, v10, v11, v12, v13, v14, v15, v16, v17, v18, v19, v20, v21, v22, v23, v24, v25, v26, v27, v28, v29, v30, v31, v32, v33, v34, v35, v36])), (h1, .inl (ty 1, 304, .inl (upd (upd (kf 0) 1 2) 4 (-1))))] := hD
    exact kr_z hx hb hr rfl hlocks hP hD hS [(h0, .inr (12, [v0, .ref h1, v1, v2, v3, v4, v5, v6, v7, v8, v9, v10, v11, v12, v13, v14, v15, v16, v17, v18, v19, v20, v21, v22, v23, v24, v25, v26, v27, v28, v29, v30, v31, v32, v33, v34, v35, v36])), (h1, .inl (ty 1, 304, .inl (upd (upd (kf 0) 1 2) 4 (-1))))] [0, 1] (by decide) rfl ⟨rfl, rfl⟩ (by decide) (by decide) dX12_isJourney_13
set_option maxHeartbeats 4000000 in
set_option maxRecDepth 100000 in
theorem c177_X12_round (l : Launch) (D : va_G) (ty : Nat → ClassId) (sz : Nat) (h0 : Nat) (h1 : Nat) (p0 : Int32) (p1 : Int32) (v0 : Value) (v1 : Value) (v2 : Value) (v3 : Value) (v4 : Value) (v5 : Value) (v6 : Value) (v7 : Value) (v8 : Value) (v9 : Value) (v10 : Value) (v11 : Value) (v12 : Value) (v13 : Value) (v14 : Value) (v15 : Value) (v16 : Value) (v17 : Value) (v18 : Value) (v19 : Value) (v20 : Value) (v21 : Value) (v22 : Value) (v23 : Value) (v24 : Value) (v25 : Value) (v26 : Value) (v27 : Value) (v28 : Value) (v29 : Value) (v30 : Value) (v31 : Value) (v32 : Value) (v33 : Value) (v34 : Value) (v35 : Value) (v36 : Value) : cQ l yX12_round cX12_round 4 (some .int) 2 46 [.ref h0, .int p0, .int p1] D ty [(h0, .inr (12, [v0, .ref h1, v1, v2, v3, v4, v5, v6, v7, v8, v9, v10, v11, v12, v13, v14, v15, v16, v17, v18, v19, v20, v21, v22, v23, v24, v25, v26, v27, v28, v29, v30, v31, v32, v33, v34, v35, v36])), (h1, .inl (ty 1, 304, .inl (upd (upd (kf 0) 1 2) 4 (-1))))] sz (qI (fun (r : Int32) (u : va_W) => (-2) = r ∧ [] = u)) 0 0 := by
  refine cQ.of (by decide) (Nat.le_of_ble_eq_true rfl) (fun p e s m below meth c A ls C hsz hP hK hD hA hl => ?_)
  obtain ⟨hx, hb, hml, hown, hB, hr, hlocks, hin⟩ := C
  have hown : s.vm.findClass RX12 = some m.cls := hown
  have hS : va_S A s.heap s.heap [] := va_S.rf
  have hl : lv_has ls 4 [(0, .ref h0), (1, .int p0), (2, .int p1)] := hl
  refine lv_iload_n hx hb dX12_round_0 rfl (lv_at hl 1 rfl) ?_
  refine kc_i (va_runS (As := [.int p0]) (rest := []) ⟨hx, hb, hml, hown, hB⟩ (c149_X12_isGiving l D ty s.heap.size p0) (va_cwS 1 hB (bw_S mw_469 mw_470 mw_211 mw_468) rfl rfl rfl (by decide +kernel) ⟨Nat.le_of_ble_eq_true rfl, Nat.le_of_ble_eq_true rfl⟩) (kp_S hK hP hD [] (by decide) rfl) rfl rfl hl.1 rfl (lv_room (Nat.le_of_ble_eq_true rfl)) dX12_round_1 ⟨Nat.le_of_ble_eq_true rfl, Nat.le_of_ble_eq_true rfl⟩) hP hD hS hA [] [0, 1] (wr := [(h0, .inr (12, [v0, .ref h1, v1, v2, v3, v4, v5, v6, v7, v8, v9, v10, v11, v12, v13, v14, v15, v16, v17, v18, v19, v20, v21, v22, v23, v24, v25, v26, v27, v28, v29, v30, v31, v32, v33, v34, v35, v36])), (h1, .inl (ty 1, 304, .inl (upd (upd (kf 0) 1 2) 4 (-1))))]) rfl rfl (by decide) (by decide) (fun r u H locs w1 hP hD hS => ?_)
  rcases w1 with ⟨c2, rfl, rfl⟩ | ⟨c3, rfl, rfl⟩
  · have hP : va_P D vwCl [(h0, .inr (12, [v0, .ref h1, v1, v2, v3, v4, v5, v6, v7, v8, v9, v10, v11, v12, v13, v14, v15, v16, v17, v18, v19, v20, v21, v22, v23, v24, v25, v26, v27, v28, v29, v30, v31, v32, v33, v34, v35, v36])), (h1, .inl (ty 1, 304, .inl (upd (upd (kf 0) 1 2) 4 (-1))))] H := hP
    have hD : va_D A [(h0, .inr (12, [v0, .ref h1, v1, v2, v3, v4, v5, v6, v7, v8, v9, v10, v11, v12, v13, v14, v15, v16, v17, v18, v19, v20, v21, v22, v23, v24, v25, v26, v27, v28, v29, v30, v31, v32, v33, v34, v35, v36])), (h1, .inl (ty 1, 304, .inl (upd (upd (kf 0) 1 2) 4 (-1))))] := hD
    refine lv_if_eq (tgt := 15) hx hb dX12_round_4 (by decide) (fun h9 => absurd h9 (by decide)) (fun _ => ?_)
    refine lv_aload_n hx hb dX12_round_7 rfl (lv_at hl 0 rfl) ?_
    refine lv_iload_n hx hb dX12_round_8 rfl (lv_at hl 2 rfl) ?_
    refine kc_i (va_runV (As := [.int p1]) (rest := []) ⟨hx, hb, hml, hown, hB⟩ (c178_X12_isJourney l D ty H.size h0 h1 p1 v0 v1 v2 v3 v4 v5 v6 v7 v8 v9 v10 v11 v12 v13 v14 v15 v16 v17 v18 v19 v20 v21 v22 v23 v24 v25 v26 v27 v28 v29 v30 v31 v32 v33 v34 v35 v36) (cwV 1 hB (bw_V mw_520 mw_521 mw_522 mw_211 mw_519) rfl rfl rfl (by decide +kernel) ⟨Nat.le_of_ble_eq_true rfl, Nat.le_of_ble_eq_true rfl⟩) (kp_V hK hP hD [0, 1] (by decide) rfl 0 rfl rfl rfl) rfl rfl hl.1 rfl (lv_room (Nat.le_of_ble_eq_true rfl)) dX12_round_9 ⟨Nat.le_of_ble_eq_true rfl, Nat.le_of_ble_eq_true rfl⟩) hP hD hS hA [0, 1] [] (wr := []) rfl rfl (by decide) (by decide) (fun r u H locs w4 hP hD hS => ?_)
    obtain ⟨rfl, rfl⟩ := w4
    have hP : va_P D vwCl [(h0, .inr (12, [v0, .ref h1, v1, v2, v3, v4, v5, v6, v7, v8, v9, v10, v11, v12, v13, v14, v15, v16, v17, v18, v19, v20, v21, v22, v23, v24, v25, v26, v27, v28, v29, v30, v31, v32, v33, v34, v35, v36])), (h1, .inl (ty 1, 304, .inl (upd (upd (kf 0) 1 2) 4 (-1))))] H := hP
    have hD : va_D A [(h0, .inr (12, [v0, .ref h1, v1, v2, v3, v4, v5, v6, v7, v8, v9, v10, v11, v12, v13, v14, v15, v16, v17, v18, v19, v20, v21, v22, v23, v24, v25, v26, v27, v28, v29, v30, v31, v32, v33, v34, v35, v36])), (h1, .inl (ty 1, 304, .inl (upd (upd (kf 0) 1 2) 4 (-1))))] := hD
    refine lv_if_ne (tgt := 18) hx hb dX12_round_12 (by decide) (fun h9 => absurd (by decide) h9) (fun _ => ?_)
    refine lv_bipush (v := (-2)) hx hb dX12_round_15 (by decide) ?_
    exact kr_z hx hb hr rfl hlocks hP hD hS [] [] (by decide) rfl ⟨rfl, rfl⟩ (by decide) (by decide) dX12_round_17
  · have hP : va_P D vwCl [(h0, .inr (12, [v0, .ref h1, v1, v2, v3, v4, v5, v6, v7, v8, v9, v10, v11, v12, v13, v14, v15, v16, v17, v18, v19, v20, v21, v22, v23, v24, v25, v26, v27, v28, v29, v30, v31, v32, v33, v34, v35, v36])), (h1, .inl (ty 1, 304, .inl (upd (upd (kf 0) 1 2) 4 (-1))))] H := hP
    have hD : va_D A [(h0, .inr (12, [v0, .ref h1, v1, v2, v3, v4, v5, v6, v7, v8, v9, v10, v11, v12, v13, v14, v15, v16, v17, v18, v19, v20, v21, v22, v23, v24, v25, v26, v27, v28, v29, v30, v31, v32, v33, v34, v35, v36])), (h1, .inl (ty 1, 304, .inl (upd (upd (kf 0) 1 2) 4 (-1))))] := hD
    refine lv_if_eq (tgt := 15) hx hb dX12_round_4 (by decide) (fun _ => ?_) (fun h9 => absurd (by decide) h9)
    refine lv_bipush (v := (-2)) hx hb dX12_round_15 (by decide) ?_
    exact kr_z hx hb hr rfl hlocks hP hD hS [] [] (by decide) rfl ⟨rfl, rfl⟩ (by decide) (by decide) dX12_round_17
set_option maxHeartbeats 4000000 in
set_option maxRecDepth 100000 in
theorem c181_X12_measures (l : Launch) (D : va_G) (ty : Nat → ClassId) (sz : Nat) (h0 : Nat) (h1 : Nat) (h2 : Nat) (v0 : Value) (v1 : Value) (v2 : Value) (v3 : Value) (v4 : Value) (v5 : Value) (v6 : Value) (v7 : Value) (v8 : Value) (v9 : Value) (v10 : Value) (v11 : Value) (v12 : Value) (v13 : Value) (v14 : Value) (v15 : Value) (v16 : Value) (v17 : Value) (v18 : Value) (v19 : Value) (v20 : Value) (v21 : Value) (v22 : Value) (v23 : Value) (v24 : Value) (v25 : Value) (v26 : Value) (v27 : Value) (v28 : Value) (v29 : Value) (v30 : Value) (v31 : Value) (v32 : Value) (v33 : Value) (v34 : Value) (v35 : Value) (v36 : Value) (f0 : Nat → Int32) : cQ l yX12_measures cX12_measures 7 none 1 23 [.ref h0, .ref h2, .int 1] D ty [(h0, .inr (12, [v0, .ref h1, v1, v2, v3, v4, v5, v6, v7, v8, v9, v10, v11, v12, v13, v14, v15, v16, v17, v18, v19, v20, v21, v22, v23, v24, v25, v26, v27, v28, v29, v30, v31, v32, v33, v34, v35, v36])), (h1, .inl (ty 1, 304, .inl (upd (upd (kf 0) 1 2) 4 (-1)))), (h2, .inl (ty 1, 256, .inl f0))] sz (qV (fun (u : va_W) => [(h0, .inr (12, [v0, .ref h1, v1, v2, v3, v4, v5, v6, v7, v8, v9, v10, v11, v12, v13, v14, v15, v16, v17, v18, v19, v20, v21, v22, v23, v24, v25, v26, v27, v28, v29, v30, v31, v32, v33, v34, v35, v36])), (h1, .inl (ty 1, 304, .inl (upd (upd (kf 0) 1 2) 4 (-1)))), (h2, .inl (ty 1, 256, .inl (upd (upd (upd (upd f0 0 0) 1 1000000) 16 1000000) 17 0)))] = u)) 0 0 := by
  refine cQ.of (by decide) (Nat.le_of_ble_eq_true rfl) (fun p e s m below meth c A ls C hsz hP hK hD hA hl => ?_)
  obtain ⟨hx, hb, hml, hown, hB, hr, hlocks, hin⟩ := C
  have hown : s.vm.findClass RX12 = some m.cls := hown
  have hS : va_S A s.heap s.heap [] := va_S.rf
  have hl : lv_has ls 7 [(0, .ref h0), (1, .ref h2), (2, .int 1)] := hl
  refine lv_aload_n hx hb dX12_measures_0 rfl (lv_at hl 0 rfl) ?_
  refine kc_i (va_runV (As := []) (rest := []) ⟨hx, hb, hml, hown, hB⟩ (c160_X12_corners l D ty s.heap.size h0 h1 v0 v1 v2 v3 v4 v5 v6 v7 v8 v9 v10 v11 v12 v13 v14 v15 v16 v17 v18 v19 v20 v21 v22 v23 v24 v25 v26 v27 v28 v29 v30 v31 v32 v33 v34 v35 v36) (cwV 0 hB (bw_V mw_484 mw_485 mw_486 mw_211 mw_483) rfl rfl rfl (by decide +kernel) ⟨Nat.le_of_ble_eq_true rfl, Nat.le_of_ble_eq_true rfl⟩) (kp_V hK hP hD [0, 1] (by decide) rfl 0 rfl rfl rfl) rfl rfl hl.1 rfl (lv_room (Nat.le_of_ble_eq_true rfl)) dX12_measures_1 ⟨Nat.le_of_ble_eq_true rfl, Nat.le_of_ble_eq_true rfl⟩) hP hD hS hA [0, 1] [2] (wr := [(h2, .inl (ty 1, 256, .inl f0))]) rfl rfl (by decide) (by decide) (fun r u H locs w1 hP hD hS => ?_)
  obtain ⟨rfl, rfl⟩ := w1
  have hP : va_P D vwCl [(h2, .inl (ty 1, 256, .inl f0)), (h0, .inr (12, [v0, .ref h1, v1, v2, v3, v4, v5, v6, v7, v8, v9, v10, v11, v12, v13, v14, v15, v16, v17, v18, v19, v20, v21, v22, v23, v24, v25, v26, v27, v28, v29, v30, v31, v32, v33, v34, v35, v36])), (h1, .inl (ty 1, 304, .inl (upd (upd (kf 0) 1 2) 4 (-1))))] H := hP
  have hD : va_D A [(h2, .inl (ty 1, 256, .inl f0)), (h0, .inr (12, [v0, .ref h1, v1, v2, v3, v4, v5, v6, v7, v8, v9, v10, v11, v12, v13, v14, v15, v16, v17, v18, v19, v20, v21, v22, v23, v24, v25, v26, v27, v28, v29, v30, v31, v32, v33, v34, v35, v36])), (h1, .inl (ty 1, 304, .inl (upd (upd (kf 0) 1 2) 4 (-1))))] := hD
  refine lv_istore_n (lv' := [(3, .int 2), (0, .ref h0), (1, .ref h2), (2, .int 1)]) hx hb dX12_measures_4 rfl hl (by decide) rfl (fun ls hl => ?_)
  refine lv_iconst (v := 0) hx hb dX12_measures_5 (by decide) ?_
  refine lv_istore (lv' := [(4, .int 0), (3, .int 2), (0, .ref h0), (1, .ref h2), (2, .int 1)]) hx hb dX12_measures_6 hl (by decide) rfl (fun ls hl => ?_)
  refine lv_iload hx hb dX12_measures_8 (lv_at hl 0 rfl) ?_
  refine lv_iload_n hx hb dX12_measures_10 rfl (lv_at hl 1 rfl) ?_
  refine lv_icmp_ge (tgt := 58) hx hb dX12_measures_11 (by decide) (fun h9 => absurd h9 (by decide)) (fun _ => ?_)
  refine lv_iconst (v := 0) hx hb dX12_measures_14 (by decide) ?_
  refine lv_istore (lv' := [(5, .int 0), (4, .int 0), (3, .int 2), (0, .ref h0), (1, .ref h2), (2, .int 1)]) hx hb dX12_measures_15 hl (by decide) rfl (fun ls hl => ?_)
  refine lv_iload hx hb dX12_measures_17 (lv_at hl 0 rfl) ?_
  refine lv_iload_n hx hb dX12_measures_19 rfl (lv_at hl 2 rfl) ?_
  refine lv_icmp_ge (tgt := 52) hx hb dX12_measures_20 (by decide) (fun h9 => absurd h9 (by decide)) (fun _ => ?_)
  refine lv_aload_n hx hb dX12_measures_23 rfl (lv_at hl 4 rfl) ?_
  refine lv_bipush (v := 16) hx hb dX12_measures_24 (by decide) ?_
  refine lv_iload hx hb dX12_measures_26 (lv_at hl 1 rfl) ?_
  refine lv_imul hx hb dX12_measures_28 ?_
  refine tp_i (v := 0) (by decide) ?_
  refine lv_iload hx hb dX12_measures_29 (lv_at hl 0 rfl) ?_
  refine lv_iadd hx hb dX12_measures_31 ?_
  refine tp_i (v := 0) (by decide) ?_
  refine lv_iload hx hb dX12_measures_32 (lv_at hl 1 rfl) ?_
  refine lv_iload hx hb dX12_measures_34 (lv_at hl 0 rfl) ?_
  refine lv_icmp_ne (tgt := 43) hx hb dX12_measures_36 (by decide) (fun h9 => absurd (by decide) h9) (fun _ => ?_)
  refine lv_iconst (v := 0) hx hb dX12_measures_39 (by decide) ?_
  refine lv_goto (tgt := 45) hx hb dX12_measures_40 (by decide) ?_
  refine wy_iast hx hb hK hP hD hS 0 1 rfl rfl (by unfold vp_in; decide) dX12_measures_45 (j := 0) (by decide) (ws' := [(h2, .inl (ty 1, 256, .inl (upd f0 0 0))), (h0, .inr (12, [v0, .ref h1, v1, v2, v3, v4, v5, v6, v7, v8, v9, v10, v11, v12, v13, v14, v15, v16, v17, v18, v19, v20, v21, v22, v23, v24, v25, v26, v27, v28, v29, v30, v31, v32, v33, v34, v35, v36])), (h1, .inl (ty 1, 304, .inl (upd (upd (kf 0) 1 2) 4 (-1))))]) rfl (fun H locs hP hD hS => ?_)
  refine lv_iinc (v := 1) (lv' := [(5, .int 1), (4, .int 0), (3, .int 2), (0, .ref h0), (1, .ref h2), (2, .int 1)]) hx hb dX12_measures_46 hl (k := 0) rfl (by decide) (by decide) rfl (fun ls hl => ?_)
  refine lv_goto (tgt := 17) hx hb dX12_measures_49 (by decide) ?_
  refine lv_iload hx hb dX12_measures_17 (lv_at hl 0 rfl) ?_
  refine lv_iload_n hx hb dX12_measures_19 rfl (lv_at hl 2 rfl) ?_
  refine lv_icmp_ge (tgt := 52) hx hb dX12_measures_20 (by decide) (fun h9 => absurd h9 (by decide)) (fun _ => ?_)
  refine lv_aload_n hx hb dX12_measures_23 rfl (lv_at hl 4 rfl) ?_
  refine lv_bipush (v := 16) hx hb dX12_measures_24 (by decide) ?_
  refine lv_iload hx hb dX12_measures_26 (lv_at hl 1 rfl) ?_
  refine lv_imul hx hb dX12_measures_28 ?_
  refine tp_i (v := 0) (by decide) ?_
  refine lv_iload hx hb dX12_measures_29 (lv_at hl 0 rfl) ?_
  refine lv_iadd hx hb dX12_measures_31 ?_
  refine tp_i (v := 1) (by decide) ?_
  refine lv_iload hx hb dX12_measures_32 (lv_at hl 1 rfl) ?_
  refine lv_iload hx hb dX12_measures_34 (lv_at hl 0 rfl) ?_
  refine lv_icmp_ne (tgt := 43) hx hb dX12_measures_36 (by decide) (fun _ => ?_) (fun h9 => absurd h9 (by decide))
  refine lv_ldc hx hb hown (hB _ mw_487) dX12_measures_43 ?_
  refine wy_iast hx hb hK hP hD hS 0 1 rfl rfl (by unfold vp_in; decide) dX12_measures_45 (j := 1) (by decide) (ws' := [(h2, .inl (ty 1, 256, .inl (upd (upd f0 0 0) 1 1000000))), (h0, .inr (12, [v0, .ref h1, v1, v2, v3, v4, v5, v6, v7, v8, v9, v10, v11, v12, v13, v14, v15, v16, v17, v18, v19, v20, v21, v22, v23, v24, v25, v26, v27, v28, v29, v30, v31, v32, v33, v34, v35, v36])), (h1, .inl (ty 1, 304, .inl (upd (upd (kf 0) 1 2) 4 (-1))))]) rfl (fun H locs hP hD hS => ?_)
  refine lv_iinc (v := 2) (lv' := [(5, .int 2), (4, .int 0), (3, .int 2), (0, .ref h0), (1, .ref h2), (2, .int 1)]) hx hb dX12_measures_46 hl (k := 0) rfl (by decide) (by decide) rfl (fun ls hl => ?_)
  refine lv_goto (tgt := 17) hx hb dX12_measures_49 (by decide) ?_
  refine lv_iload hx hb dX12_measures_17 (lv_at hl 0 rfl) ?_
  refine lv_iload_n hx hb dX12_measures_19 rfl (lv_at hl 2 rfl) ?_
  refine lv_icmp_ge (tgt := 52) hx hb dX12_measures_20 (by decide) (fun _ => ?_) (fun h9 => absurd (by decide) h9)
  refine lv_iinc (v := 1) (lv' := [(4, .int 1), (5, .int 2), (3, .int 2), (0, .ref h0), (1, .ref h2), (2, .int 1)]) hx hb dX12_measures_52 hl (k := 1) rfl (by decide) (by decide) rfl (fun ls hl => ?_)
  refine lv_goto (tgt := 8) hx hb dX12_measures_55 (by decide) ?_
  refine lv_iload hx hb dX12_measures_8 (lv_at hl 0 rfl) ?_
  refine lv_iload_n hx hb dX12_measures_10 rfl (lv_at hl 2 rfl) ?_
  refine lv_icmp_ge (tgt := 58) hx hb dX12_measures_11 (by decide) (fun h9 => absurd h9 (by decide)) (fun _ => ?_)
  refine lv_iconst (v := 0) hx hb dX12_measures_14 (by decide) ?_
  refine lv_istore (lv' := [(5, .int 0), (4, .int 1), (3, .int 2), (0, .ref h0), (1, .ref h2), (2, .int 1)]) hx hb dX12_measures_15 hl (by decide) rfl (fun ls hl => ?_)
  refine lv_iload hx hb dX12_measures_17 (lv_at hl 0 rfl) ?_
  refine lv_iload_n hx hb dX12_measures_19 rfl (lv_at hl 2 rfl) ?_
  refine lv_icmp_ge (tgt := 52) hx hb dX12_measures_20 (by decide) (fun h9 => absurd h9 (by decide)) (fun _ => ?_)
  refine lv_aload_n hx hb dX12_measures_23 rfl (lv_at hl 4 rfl) ?_
  refine lv_bipush (v := 16) hx hb dX12_measures_24 (by decide) ?_
  refine lv_iload hx hb dX12_measures_26 (lv_at hl 1 rfl) ?_
  refine lv_imul hx hb dX12_measures_28 ?_
  refine tp_i (v := 16) (by decide) ?_
  refine lv_iload hx hb dX12_measures_29 (lv_at hl 0 rfl) ?_
  refine lv_iadd hx hb dX12_measures_31 ?_
  refine tp_i (v := 16) (by decide) ?_
  refine lv_iload hx hb dX12_measures_32 (lv_at hl 1 rfl) ?_
  refine lv_iload hx hb dX12_measures_34 (lv_at hl 0 rfl) ?_
  refine lv_icmp_ne (tgt := 43) hx hb dX12_measures_36 (by decide) (fun _ => ?_) (fun h9 => absurd h9 (by decide))
  refine lv_ldc hx hb hown (hB _ mw_487) dX12_measures_43 ?_
  refine wy_iast hx hb hK hP hD hS 0 1 rfl rfl (by unfold vp_in; decide) dX12_measures_45 (j := 16) (by decide) (ws' := [(h2, .inl (ty 1, 256, .inl (upd (upd (upd f0 0 0) 1 1000000) 16 1000000))), (h0, .inr (12, [v0, .ref h1, v1, v2, v3, v4, v5, v6, v7, v8, v9, v10, v11, v12, v13, v14, v15, v16, v17, v18, v19, v20, v21, v22, v23, v24, v25, v26, v27, v28, v29, v30, v31, v32, v33, v34, v35, v36])), (h1, .inl (ty 1, 304, .inl (upd (upd (kf 0) 1 2) 4 (-1))))]) rfl (fun H locs hP hD hS => ?_)
  refine lv_iinc (v := 1) (lv' := [(5, .int 1), (4, .int 1), (3, .int 2), (0, .ref h0), (1, .ref h2), (2, .int 1)]) hx hb dX12_measures_46 hl (k := 0) rfl (by decide) (by decide) rfl (fun ls hl => ?_)
  refine lv_goto (tgt := 17) hx hb dX12_measures_49 (by decide) ?_
  refine lv_iload hx hb dX12_measures_17 (lv_at hl 0 rfl) ?_
  refine lv_iload_n hx hb dX12_measures_19 rfl (lv_at hl 2 rfl) ?_
  refine lv_icmp_ge (tgt := 52) hx hb dX12_measures_20 (by decide) (fun h9 => absurd h9 (by decide)) (fun _ => ?_)
  refine lv_aload_n hx hb dX12_measures_23 rfl (lv_at hl 4 rfl) ?_
  refine lv_bipush (v := 16) hx hb dX12_measures_24 (by decide) ?_
  refine lv_iload hx hb dX12_measures_26 (lv_at hl 1 rfl) ?_
  refine lv_imul hx hb dX12_measures_28 ?_
  refine tp_i (v := 16) (by decide) ?_
  refine lv_iload hx hb dX12_measures_29 (lv_at hl 0 rfl) ?_
  refine lv_iadd hx hb dX12_measures_31 ?_
  refine tp_i (v := 17) (by decide) ?_
  refine lv_iload hx hb dX12_measures_32 (lv_at hl 1 rfl) ?_
  refine lv_iload hx hb dX12_measures_34 (lv_at hl 0 rfl) ?_
  refine lv_icmp_ne (tgt := 43) hx hb dX12_measures_36 (by decide) (fun h9 => absurd (by decide) h9) (fun _ => ?_)
  refine lv_iconst (v := 0) hx hb dX12_measures_39 (by decide) ?_
  refine lv_goto (tgt := 45) hx hb dX12_measures_40 (by decide) ?_
  refine wy_iast hx hb hK hP hD hS 0 1 rfl rfl (by unfold vp_in; decide) dX12_measures_45 (j := 17) (by decide) (ws' := [(h2, .inl (ty 1, 256, .inl (upd (upd (upd (upd f0 0 0) 1 1000000) 16 1000000) 17 0))), (h0, .inr (12, [v0, .ref h1, v1, v2, v3, v4, v5, v6, v7, v8, v9, v10, v11, v12, v13, v14, v15, v16, v17, v18, v19, v20, v21, v22, v23, v24, v25, v26, v27, v28, v29, v30, v31, v32, v33, v34, v35, v36])), (h1, .inl (ty 1, 304, .inl (upd (upd (kf 0) 1 2) 4 (-1))))]) rfl (fun H locs hP hD hS => ?_)
  refine lv_iinc (v := 2) (lv' := [(5, .int 2), (4, .int 1), (3, .int 2), (0, .ref h0), (1, .ref h2), (2, .int 1)]) hx hb dX12_measures_46 hl (k := 0) rfl (by decide) (by decide) rfl (fun ls hl => ?_)
  refine lv_goto (tgt := 17) hx hb dX12_measures_49 (by decide) ?_
  refine lv_iload hx hb dX12_measures_17 (lv_at hl 0 rfl) ?_
  refine lv_iload_n hx hb dX12_measures_19 rfl (lv_at hl 2 rfl) ?_
  refine lv_icmp_ge (tgt := 52) hx hb dX12_measures_20 (by decide) (fun _ => ?_) (fun h9 => absurd (by decide) h9)
  refine lv_iinc (v := 2) (lv' := [(4, .int 2), (5, .int 2), (3, .int 2), (0, .ref h0), (1, .ref h2), (2, .int 1)]) hx hb dX12_measures_52 hl (k := 1) rfl (by decide) (by decide) rfl (fun ls hl => ?_)
  refine lv_goto (tgt := 8) hx hb dX12_measures_55 (by decide) ?_
  refine lv_iload hx hb dX12_measures_8 (lv_at hl 0 rfl) ?_
  refine lv_iload_n hx hb dX12_measures_10 rfl (lv_at hl 2 rfl) ?_
  refine lv_icmp_ge (tgt := 58) hx hb dX12_measures_11 (by decide) (fun _ => ?_) (fun h9 => absurd (by decide) h9)
  refine lv_iconst (v := 0) hx hb dX12_measures_58 (by decide) ?_
  refine lv_istore (lv' := [(4, .int 0), (5, .int 2), (3, .int 2), (0, .ref h0), (1, .ref h2), (2, .int 1)]) hx hb dX12_measures_59 hl (by decide) rfl (fun ls hl => ?_)
  refine lv_iload hx hb dX12_measures_61 (lv_at hl 0 rfl) ?_
  refine lv_aload_n hx hb dX12_measures_63 rfl (lv_at hl 3 rfl) ?_
  refine kc_i (va_runV (As := []) (rest := [.int 0]) ⟨hx, hb, hml, hown, hB⟩ (c146_X12_alleys l D ty H.size h0 h1 v0 v1 v2 v3 v4 v5 v6 v7 v8 v9 v10 v11 v12 v13 v14 v15 v16 v17 v18 v19 v20 v21 v22 v23 v24 v25 v26 v27 v28 v29 v30 v31 v32 v33 v34 v35 v36) (cwV 0 hB (bw_V mw_465 mw_466 mw_467 mw_211 mw_464) rfl rfl rfl (by decide +kernel) ⟨Nat.le_of_ble_eq_true rfl, Nat.le_of_ble_eq_true rfl⟩) (kp_V hK hP hD [1, 2] (by decide) rfl 1 rfl rfl rfl) rfl rfl hl.1 rfl (lv_room (Nat.le_of_ble_eq_true rfl)) dX12_measures_64 ⟨Nat.le_of_ble_eq_true rfl, Nat.le_of_ble_eq_true rfl⟩) hP hD hS hA [1, 2] [0] (wr := [(h2, .inl (ty 1, 256, .inl (upd (upd (upd (upd f0 0 0) 1 1000000) 16 1000000) 17 0)))]) rfl rfl (by decide) (by decide) (fun r u H locs w2 hP hD hS => ?_)
  obtain ⟨rfl, rfl⟩ := w2
  have hP : va_P D vwCl [(h2, .inl (ty 1, 256, .inl (upd (upd (upd (upd f0 0 0) 1 1000000) 16 1000000) 17 0))), (h0, .inr (12, [v0, .ref h1, v1, v2, v3, v4, v5, v6, v7, v8, v9, v10, v11, v12, v13, v14, v15, v16, v17, v18, v19, v20, v21, v22, v23, v24, v25, v26, v27, v28, v29, v30, v31, v32, v33, v34, v35, v36])), (h1, .inl (ty 1, 304, .inl (upd (upd (kf 0) 1 2) 4 (-1))))] H := hP
  have hD : va_D A [(h2, .inl (ty 1, 256, .inl (upd (upd (upd (upd f0 0 0) 1 1000000) 16 1000000) 17 0))), (h0, .inr (12, [v0, .ref h1, v1, v2, v3, v4, v5, v6, v7, v8, v9, v10, v11, v12, v13, v14, v15, v16, v17, v18, v19, v20, v21, v22, v23, v24, v25, v26, v27, v28, v29, v30, v31, v32, v33, v34, v35, v36])), (h1, .inl (ty 1, 304, .inl (upd (upd (kf 0) 1 2) 4 (-1))))] := hD
  refine lv_icmp_ge (tgt := 156) hx hb dX12_measures_67 (by decide) (fun _ => ?_) (fun h9 => absurd (by decide) h9)
  refine lv_iconst (v := 0) hx hb dX12_measures_156 (by decide) ?_
  refine lv_istore (lv' := [(4, .int 0), (5, .int 2), (3, .int 2), (0, .ref h0), (1, .ref h2), (2, .int 1)]) hx hb dX12_measures_157 hl (by decide) rfl (fun ls hl => ?_)
  refine lv_iload hx hb dX12_measures_159 (lv_at hl 0 rfl) ?_
  refine lv_iload_n hx hb dX12_measures_161 rfl (lv_at hl 2 rfl) ?_
  refine lv_icmp_ge (tgt := 230) hx hb dX12_measures_162 (by decide) (fun h9 => absurd h9 (by decide)) (fun _ => ?_)
  refine lv_iconst (v := 0) hx hb dX12_measures_165 (by decide) ?_
  refine lv_istore (lv' := [(5, .int 0), (4, .int 0), (3, .int 2), (0, .ref h0), (1, .ref h2), (2, .int 1)]) hx hb dX12_measures_166 hl (by decide) rfl (fun ls hl => ?_)
  refine lv_iload hx hb dX12_measures_168 (lv_at hl 0 rfl) ?_
  refine lv_iload_n hx hb dX12_measures_170 rfl (lv_at hl 2 rfl) ?_
  refine lv_icmp_ge (tgt := 224) hx hb dX12_measures_171 (by decide) (fun h9 => absurd h9 (by decide)) (fun _ => ?_)
  refine lv_iconst (v := 0) hx hb dX12_measures_174 (by decide) ?_
  refine lv_istore (lv' := [(6, .int 0), (5, .int 0), (4, .int 0), (3, .int 2), (0, .ref h0), (1, .ref h2), (2, .int 1)]) hx hb dX12_measures_175 hl (by decide) rfl (fun ls hl => ?_)
  refine lv_iload hx hb dX12_measures_177 (lv_at hl 0 rfl) ?_
  refine lv_iload_n hx hb dX12_measures_179 rfl (lv_at hl 3 rfl) ?_
  refine lv_icmp_ge (tgt := 218) hx hb dX12_measures_180 (by decide) (fun h9 => absurd h9 (by decide)) (fun _ => ?_)
  refine lv_aload_n hx hb dX12_measures_183 rfl (lv_at hl 5 rfl) ?_
  refine lv_iload hx hb dX12_measures_184 (lv_at hl 1 rfl) ?_
  refine lv_iload hx hb dX12_measures_186 (lv_at hl 0 rfl) ?_
  refine lv_aload_n hx hb dX12_measures_188 rfl (lv_at hl 5 rfl) ?_
  refine lv_bipush (v := 16) hx hb dX12_measures_189 (by decide) ?_
  refine lv_iload hx hb dX12_measures_191 (lv_at hl 1 rfl) ?_
  refine lv_imul hx hb dX12_measures_193 ?_
  refine tp_i (v := 0) (by decide) ?_
  refine lv_iload hx hb dX12_measures_194 (lv_at hl 2 rfl) ?_
  refine lv_iadd hx hb dX12_measures_196 ?_
  refine tp_i (v := 0) (by decide) ?_
  refine va_iald hx hb hK.1 hP 0 1 rfl rfl (by unfold vp_in; decide) dX12_measures_197 ?_
  refine tp_i (v := 0) rfl ?_
  refine lv_aload_n hx hb dX12_measures_198 rfl (lv_at hl 5 rfl) ?_
  refine lv_bipush (v := 16) hx hb dX12_measures_199 (by decide) ?_
  refine lv_iload hx hb dX12_measures_201 (lv_at hl 2 rfl) ?_
  refine lv_imul hx hb dX12_measures_203 ?_
  refine tp_i (v := 0) (by decide) ?_
  refine lv_iload hx hb dX12_measures_204 (lv_at hl 0 rfl) ?_
  refine lv_iadd hx hb dX12_measures_206 ?_
  refine tp_i (v := 0) (by decide) ?_
  refine va_iald hx hb hK.1 hP 0 1 rfl rfl (by unfold vp_in; decide) dX12_measures_207 ?_
  refine tp_i (v := 0) rfl ?_
  refine lv_iadd hx hb dX12_measures_208 ?_
  refine tp_i (v := 0) (by decide) ?_
  refine kc_v (va_runS (As := [.ref h2, .int 0, .int 0, .int 0]) (rest := []) ⟨hx, hb, hml, hown, hB⟩ (c161_X12_nearer l D ty H.size h2 f0) (va_cwS 4 hB (bw_S mw_489 mw_490 mw_211 mw_488) rfl rfl rfl (by decide +kernel) ⟨Nat.le_of_ble_eq_true rfl, Nat.le_of_ble_eq_true rfl⟩) (kp_S hK hP hD [0] (by decide) rfl) rfl rfl hl.1 rfl (lv_room (Nat.le_of_ble_eq_true rfl)) dX12_measures_209 ⟨Nat.le_of_ble_eq_true rfl, Nat.le_of_ble_eq_true rfl⟩) hP hD hS hA [0] [1, 2] (wr := [(h0, .inr (12, [v0, .ref h1, v1, v2, v3, v4, v5, v6, v7, v8, v9, v10, v11, v12, v13, v14, v15, v16, v17, v18, v19, v20, v21, v22, v23, v24, v25, v26, v27, v28, v29, v30, v31, v32, v33, v34, v35, v36])), (h1, .inl (ty 1, 304, .inl (upd (upd (kf 0) 1 2) 4 (-1))))]) rfl rfl (by decide) (by decide) (fun u H locs w3 hP hD hS => ?_)
  subst w3
  have hP : va_P D vwCl [(h0, .inr (12, [v0, .ref h1, v1, v2, v3, v4, v5, v6, v7, v8, v9, v10, v11, v12, v13, v14, v15, v16, v17, v18, v19, v20, v21, v22, v23, v24, v25, v26, v27, v28, v29, v30, v31, v32, v33, v34, v35, v36])), (h1, .inl (ty 1, 304, .inl (upd (upd (kf 0) 1 2) 4 (-1)))), (h2, .inl (ty 1, 256, .inl (upd (upd (upd (upd f0 0 0) 1 1000000) 16 1000000) 17 0)))] H := hP
  have hD : va_D A [(h0, .inr (12, [v0, .ref h1, v1, v2, v3, v4, v5, v6, v7, v8, v9, v10, v11, v12, v13, v14, v15, v16, v17, v18, v19, v20, v21, v22, v23, v24, v25, v26, v27, v28, v29, v30, v31, v32, v33, v34, v35, v36])), (h1, .inl (ty 1, 304, .inl (upd (upd (kf 0) 1 2) 4 (-1)))), (h2, .inl (ty 1, 256, .inl (upd (upd (upd (upd f0 0 0) 1 1000000) 16 1000000) 17 0)))] := hD
  refine lv_iinc (v := 1) (lv' := [(6, .int 1), (5, .int 0), (4, .int 0), (3, .int 2), (0, .ref h0), (1, .ref h2), (2, .int 1)]) hx hb dX12_measures_212 hl (k := 0) rfl (by decide) (by decide) rfl (fun ls hl => ?_)
  refine lv_goto (tgt := 177) hx hb dX12_measures_215 (by decide) ?_
  refine lv_iload hx hb dX12_measures_177 (lv_at hl 0 rfl) ?_
  refine lv_iload_n hx hb dX12_measures_179 rfl (lv_at hl 3 rfl) ?_
  refine lv_icmp_ge (tgt := 218) hx hb dX12_measures_180 (by decide) (fun h9 => absurd h9 (by decide)) (fun _ => ?_)
  refine lv_aload_n hx hb dX12_measures_183 rfl (lv_at hl 5 rfl) ?_
  refine lv_iload hx hb dX12_measures_184 (lv_at hl 1 rfl) ?_
  refine lv_iload hx hb dX12_measures_186 (lv_at hl 0 rfl) ?_
  refine lv_aload_n hx hb dX12_measures_188 rfl (lv_at hl 5 rfl) ?_
  refine lv_bipush (v := 16) hx hb dX12_measures_189 (by decide) ?_
  refine lv_iload hx hb dX12_measures_191 (lv_at hl 1 rfl) ?_
  refine lv_imul hx hb dX12_measures_193 ?_
  refine tp_i (v := 0) (by decide) ?_
  refine lv_iload hx hb dX12_measures_194 (lv_at hl 2 rfl) ?_
  refine lv_iadd hx hb dX12_measures_196 ?_
  refine tp_i (v := 0) (by decide) ?_
  refine va_iald hx hb hK.1 hP 2 1 rfl rfl (by unfold vp_in; decide) dX12_measures_197 ?_
  refine tp_i (v := 0) rfl ?_
  refine lv_aload_n hx hb dX12_measures_198 rfl (lv_at hl 5 rfl) ?_
  refine lv_bipush (v := 16) hx hb dX12_measures_199 (by decide) ?_
  refine lv_iload hx hb dX12_measures_201 (lv_at hl 2 rfl) ?_
  refine lv_imul hx hb dX12_measures_203 ?_
  refine tp_i (v := 0) (by decide) ?_
  refine lv_iload hx hb dX12_measures_204 (lv_at hl 0 rfl) ?_
  refine lv_iadd hx hb dX12_measures_206 ?_
  refine tp_i (v := 1) (by decide) ?_
  refine va_iald hx hb hK.1 hP 2 1 rfl rfl (by unfold vp_in; decide) dX12_measures_207 ?_
  refine tp_i (v := 1000000) rfl ?_
  refine lv_iadd hx hb dX12_measures_208 ?_
  refine tp_i (v := 1000000) (by decide) ?_
  refine kc_v (va_runS (As := [.ref h2, .int 0, .int 1, .int 1000000]) (rest := []) ⟨hx, hb, hml, hown, hB⟩ (c162_X12_nearer l D ty H.size h2 f0) (va_cwS 4 hB (bw_S mw_489 mw_490 mw_211 mw_488) rfl rfl rfl (by decide +kernel) ⟨Nat.le_of_ble_eq_true rfl, Nat.le_of_ble_eq_true rfl⟩) (kp_S hK hP hD [2] (by decide) rfl) rfl rfl hl.1 rfl (lv_room (Nat.le_of_ble_eq_true rfl)) dX12_measures_209 ⟨Nat.le_of_ble_eq_true rfl, Nat.le_of_ble_eq_true rfl⟩) hP hD hS hA [2] [0, 1] (wr := [(h0, .inr (12, [v0, .ref h1, v1, v2, v3, v4, v5, v6, v7, v8, v9, v10, v11, v12, v13, v14, v15, v16, v17, v18, v19, v20, v21, v22, v23, v24, v25, v26, v27, v28, v29, v30, v31, v32, v33, v34, v35, v36])), (h1, .inl (ty 1, 304, .inl (upd (upd (kf 0) 1 2) 4 (-1))))]) rfl rfl (by decide) (by decide) (fun u H locs w4 hP hD hS => ?_)
  subst w4
  have hP : va_P D vwCl [(h0, .inr (12, [v0, .ref h1, v1, v2, v3, v4, v5, v6, v7, v8, v9, v10, v11, v12, v13, v14, v15, v16, v17, v18, v19, v20, v21, v22, v23, v24, v25, v26, v27, v28, v29, v30, v31, v32, v33, v34, v35, v36])), (h1, .inl (ty 1, 304, .inl (upd (upd (kf 0) 1 2) 4 (-1)))), (h2, .inl (ty 1, 256, .inl (upd (upd (upd (upd f0 0 0) 1 1000000) 16 1000000) 17 0)))] H := hP
  have hD : va_D A [(h0, .inr (12, [v0, .ref h1, v1, v2, v3, v4, v5, v6, v7, v8, v9, v10, v11, v12, v13, v14, v15, v16, v17, v18, v19, v20, v21, v22, v23, v24, v25, v26, v27, v28, v29, v30, v31, v32, v33, v34, v35, v36])), (h1, .inl (ty 1, 304, .inl (upd (upd (kf 0) 1 2) 4 (-1)))), (h2, .inl (ty 1, 256, .inl (upd (upd (upd (upd f0 0 0) 1 1000000) 16 1000000) 17 0)))] := hD
  refine lv_iinc (v := 2) (lv' := [(6, .int 2), (5, .int 0), (4, .int 0), (3, .int 2), (0, .ref h0), (1, .ref h2), (2, .int 1)]) hx hb dX12_measures_212 hl (k := 0) rfl (by decide) (by decide) rfl (fun ls hl => ?_)
  refine lv_goto (tgt := 177) hx hb dX12_measures_215 (by decide) ?_
  refine lv_iload hx hb dX12_measures_177 (lv_at hl 0 rfl) ?_
  refine lv_iload_n hx hb dX12_measures_179 rfl (lv_at hl 3 rfl) ?_
  refine lv_icmp_ge (tgt := 218) hx hb dX12_measures_180 (by decide) (fun _ => ?_) (fun h9 => absurd (by decide) h9)
  refine lv_iinc (v := 1) (lv' := [(5, .int 1), (6, .int 2), (4, .int 0), (3, .int 2), (0, .ref h0), (1, .ref h2), (2, .int 1)]) hx hb dX12_measures_218 hl (k := 1) rfl (by decide) (by decide) rfl (fun ls hl => ?_)
  refine lv_goto (tgt := 168) hx hb dX12_measures_221 (by decide) ?_
  refine lv_iload hx hb dX12_measures_168 (lv_at hl 0 rfl) ?_
  refine lv_iload_n hx hb dX12_measures_170 rfl (lv_at hl 3 rfl) ?_
  refine lv_icmp_ge (tgt := 224) hx hb dX12_measures_171 (by decide) (fun h9 => absurd h9 (by decide)) (fun _ => ?_)
  refine lv_iconst (v := 0) hx hb dX12_measures_174 (by decide) ?_
  refine lv_istore (lv' := [(6, .int 0), (5, .int 1), (4, .int 0), (3, .int 2), (0, .ref h0), (1, .ref h2), (2, .int 1)]) hx hb dX12_measures_175 hl (by decide) rfl (fun ls hl => ?_)
  refine lv_iload hx hb dX12_measures_177 (lv_at hl 0 rfl) ?_
  refine lv_iload_n hx hb dX12_measures_179 rfl (lv_at hl 3 rfl) ?_
  refine lv_icmp_ge (tgt := 218) hx hb dX12_measures_180 (by decide) (fun h9 => absurd h9 (by decide)) (fun _ => ?_)
  refine lv_aload_n hx hb dX12_measures_183 rfl (lv_at hl 5 rfl) ?_
  refine lv_iload hx hb dX12_measures_184 (lv_at hl 1 rfl) ?_
  refine lv_iload hx hb dX12_measures_186 (lv_at hl 0 rfl) ?_
  refine lv_aload_n hx hb dX12_measures_188 rfl (lv_at hl 5 rfl) ?_
  refine lv_bipush (v := 16) hx hb dX12_measures_189 (by decide) ?_
  refine lv_iload hx hb dX12_measures_191 (lv_at hl 1 rfl) ?_
  refine lv_imul hx hb dX12_measures_193 ?_
  refine tp_i (v := 16) (by decide) ?_
  refine lv_iload hx hb dX12_measures_194 (lv_at hl 2 rfl) ?_
  refine lv_iadd hx hb dX12_measures_196 ?_
  refine tp_i (v := 16) (by decide) ?_
  refine va_iald hx hb hK.1 hP 2 1 rfl rfl (by unfold vp_in; decide) dX12_measures_197 ?_
  refine tp_i (v := 1000000) rfl ?_
  refine lv_aload_n hx hb dX12_measures_198 rfl (lv_at hl 5 rfl) ?_
  refine lv_bipush (v := 16) hx hb dX12_measures_199 (by decide) ?_
  refine lv_iload hx hb dX12_measures_201 (lv_at hl 2 rfl) ?_
  refine lv_imul hx hb dX12_measures_203 ?_
  refine tp_i (v := 0) (by decide) ?_
  refine lv_iload hx hb dX12_measures_204 (lv_at hl 0 rfl) ?_
  refine lv_iadd hx hb dX12_measures_206 ?_
  refine tp_i (v := 0) (by decide) ?_
  refine va_iald hx hb hK.1 hP 2 1 rfl rfl (by unfold vp_in; decide) dX12_measures_207 ?_
  refine tp_i (v := 0) rfl ?_
  refine lv_iadd hx hb dX12_measures_208 ?_
  refine tp_i (v := 1000000) (by decide) ?_
  refine kc_v (va_runS (As := [.ref h2, .int 1, .int 0, .int 1000000]) (rest := []) ⟨hx, hb, hml, hown, hB⟩ (c163_X12_nearer l D ty H.size h2 f0) (va_cwS 4 hB (bw_S mw_489 mw_490 mw_211 mw_488) rfl rfl rfl (by decide +kernel) ⟨Nat.le_of_ble_eq_true rfl, Nat.le_of_ble_eq_true rfl⟩) (kp_S hK hP hD [2] (by decide) rfl) rfl rfl hl.1 rfl (lv_room (Nat.le_of_ble_eq_true rfl)) dX12_measures_209 ⟨Nat.le_of_ble_eq_true rfl, Nat.le_of_ble_eq_true rfl⟩) hP hD hS hA [2] [0, 1] (wr := [(h0, .inr (12, [v0, .ref h1, v1, v2, v3, v4, v5, v6, v7, v8, v9, v10, v11, v12, v13, v14, v15, v16, v17, v18, v19, v20, v21, v22, v23, v24, v25, v26, v27, v28, v29, v30, v31, v32, v33, v34, v35, v36])), (h1, .inl (ty 1, 304, .inl (upd (upd (kf 0) 1 2) 4 (-1))))]) rfl rfl (by decide) (by decide) (fun u H locs w5 hP hD hS => ?_)
  subst w5
  have hP : va_P D vwCl [(h0, .inr (12, [v0, .ref h1, v1, v2, v3, v4, v5, v6, v7, v8, v9, v10, v11, v12, v13, v14, v15, v16, v17, v18, v19, v20, v21, v22, v23, v24, v25, v26, v27, v28, v29, v30, v31, v32, v33, v34, v35, v36])), (h1, .inl (ty 1, 304, .inl (upd (upd (kf 0) 1 2) 4 (-1)))), (h2, .inl (ty 1, 256, .inl (upd (upd (upd (upd f0 0 0) 1 1000000) 16 1000000) 17 0)))] H := hP
  have hD : va_D A [(h0, .inr (12, [v0, .ref h1, v1, v2, v3, v4, v5, v6, v7, v8, v9, v10, v11, v12, v13, v14, v15, v16, v17, v18, v19, v20, v21, v22, v23, v24, v25, v26, v27, v28, v29, v30, v31, v32, v33, v34, v35, v36])), (h1, .inl (ty 1, 304, .inl (upd (upd (kf 0) 1 2) 4 (-1)))), (h2, .inl (ty 1, 256, .inl (upd (upd (upd (upd f0 0 0) 1 1000000) 16 1000000) 17 0)))] := hD
  refine lv_iinc (v := 1) (lv' := [(6, .int 1), (5, .int 1), (4, .int 0), (3, .int 2), (0, .ref h0), (1, .ref h2), (2, .int 1)]) hx hb dX12_measures_212 hl (k := 0) rfl (by decide) (by decide) rfl (fun ls hl => ?_)
  refine lv_goto (tgt := 177) hx hb dX12_measures_215 (by decide) ?_
  refine lv_iload hx hb dX12_measures_177 (lv_at hl 0 rfl) ?_
  refine lv_iload_n hx hb dX12_measures_179 rfl (lv_at hl 3 rfl) ?_
  refine lv_icmp_ge (tgt := 218) hx hb dX12_measures_180 (by decide) (fun h9 => absurd h9 (by decide)) (fun _ => ?_)
  refine lv_aload_n hx hb dX12_measures_183 rfl (lv_at hl 5 rfl) ?_
  refine lv_iload hx hb dX12_measures_184 (lv_at hl 1 rfl) ?_
  refine lv_iload hx hb dX12_measures_186 (lv_at hl 0 rfl) ?_
  refine lv_aload_n hx hb dX12_measures_188 rfl (lv_at hl 5 rfl) ?_
  refine lv_bipush (v := 16) hx hb dX12_measures_189 (by decide) ?_
  refine lv_iload hx hb dX12_measures_191 (lv_at hl 1 rfl) ?_
  refine lv_imul hx hb dX12_measures_193 ?_
  refine tp_i (v := 16) (by decide) ?_
  refine lv_iload hx hb dX12_measures_194 (lv_at hl 2 rfl) ?_
  refine lv_iadd hx hb dX12_measures_196 ?_
  refine tp_i (v := 16) (by decide) ?_
  refine va_iald hx hb hK.1 hP 2 1 rfl rfl (by unfold vp_in; decide) dX12_measures_197 ?_
  refine tp_i (v := 1000000) rfl ?_
  refine lv_aload_n hx hb dX12_measures_198 rfl (lv_at hl 5 rfl) ?_
  refine lv_bipush (v := 16) hx hb dX12_measures_199 (by decide) ?_
  refine lv_iload hx hb dX12_measures_201 (lv_at hl 2 rfl) ?_
  refine lv_imul hx hb dX12_measures_203 ?_
  refine tp_i (v := 0) (by decide) ?_
  refine lv_iload hx hb dX12_measures_204 (lv_at hl 0 rfl) ?_
  refine lv_iadd hx hb dX12_measures_206 ?_
  refine tp_i (v := 1) (by decide) ?_
  refine va_iald hx hb hK.1 hP 2 1 rfl rfl (by unfold vp_in; decide) dX12_measures_207 ?_
  refine tp_i (v := 1000000) rfl ?_
  refine lv_iadd hx hb dX12_measures_208 ?_
  refine tp_i (v := 2000000) (by decide) ?_
  refine kc_v (va_runS (As := [.ref h2, .int 1, .int 1, .int 2000000]) (rest := []) ⟨hx, hb, hml, hown, hB⟩ (c164_X12_nearer l D ty H.size h2 f0) (va_cwS 4 hB (bw_S mw_489 mw_490 mw_211 mw_488) rfl rfl rfl (by decide +kernel) ⟨Nat.le_of_ble_eq_true rfl, Nat.le_of_ble_eq_true rfl⟩) (kp_S hK hP hD [2] (by decide) rfl) rfl rfl hl.1 rfl (lv_room (Nat.le_of_ble_eq_true rfl)) dX12_measures_209 ⟨Nat.le_of_ble_eq_true rfl, Nat.le_of_ble_eq_true rfl⟩) hP hD hS hA [2] [0, 1] (wr := [(h0, .inr (12, [v0, .ref h1, v1, v2, v3, v4, v5, v6, v7, v8, v9, v10, v11, v12, v13, v14, v15, v16, v17, v18, v19, v20, v21, v22, v23, v24, v25, v26, v27, v28, v29, v30, v31, v32, v33, v34, v35, v36])), (h1, .inl (ty 1, 304, .inl (upd (upd (kf 0) 1 2) 4 (-1))))]) rfl rfl (by decide) (by decide) (fun u H locs w6 hP hD hS => ?_)
  subst w6
  have hP : va_P D vwCl [(h0, .inr (12, [v0, .ref h1, v1, v2, v3, v4, v5, v6, v7, v8, v9, v10, v11, v12, v13, v14, v15, v16, v17, v18, v19, v20, v21, v22, v23, v24, v25, v26, v27, v28, v29, v30, v31, v32, v33, v34, v35, v36])), (h1, .inl (ty 1, 304, .inl (upd (upd (kf 0) 1 2) 4 (-1)))), (h2, .inl (ty 1, 256, .inl (upd (upd (upd (upd f0 0 0) 1 1000000) 16 1000000) 17 0)))] H := hP
  have hD : va_D A [(h0, .inr (12, [v0, .ref h1, v1, v2, v3, v4, v5, v6, v7, v8, v9, v10, v11, v12, v13, v14, v15, v16, v17, v18, v19, v20, v21, v22, v23, v24, v25, v26, v27, v28, v29, v30, v31, v32, v33, v34, v35, v36])), (h1, .inl (ty 1, 304, .inl (upd (upd (kf 0) 1 2) 4 (-1)))), (h2, .inl (ty 1, 256, .inl (upd (upd (upd (upd f0 0 0) 1 1000000) 16 1000000) 17 0)))] := hD
  refine lv_iinc (v := 2) (lv' := [(6, .int 2), (5, .int 1), (4, .int 0), (3, .int 2), (0, .ref h0), (1, .ref h2), (2, .int 1)]) hx hb dX12_measures_212 hl (k := 0) rfl (by decide) (by decide) rfl (fun ls hl => ?_)
  refine lv_goto (tgt := 177) hx hb dX12_measures_215 (by decide) ?_
  refine lv_iload hx hb dX12_measures_177 (lv_at hl 0 rfl) ?_
  refine lv_iload_n hx hb dX12_measures_179 rfl (lv_at hl 3 rfl) ?_
  refine lv_icmp_ge (tgt := 218) hx hb dX12_measures_180 (by decide) (fun _ => ?_) (fun h9 => absurd (by decide) h9)
  refine lv_iinc (v := 2) (lv' := [(5, .int 2), (6, .int 2), (4, .int 0), (3, .int 2), (0, .ref h0), (1, .ref h2), (2, .int 1)]) hx hb dX12_measures_218 hl (k := 1) rfl (by decide) (by decide) rfl (fun ls hl => ?_)
  refine lv_goto (tgt := 168) hx hb dX12_measures_221 (by decide) ?_
  refine lv_iload hx hb dX12_measures_168 (lv_at hl 0 rfl) ?_
  refine lv_iload_n hx hb dX12_measures_170 rfl (lv_at hl 3 rfl) ?_
  refine lv_icmp_ge (tgt := 224) hx hb dX12_measures_171 (by decide) (fun _ => ?_) (fun h9 => absurd (by decide) h9)
  refine lv_iinc (v := 1) (lv' := [(4, .int 1), (5, .int 2), (6, .int 2), (3, .int 2), (0, .ref h0), (1, .ref h2), (2, .int 1)]) hx hb dX12_measures_224 hl (k := 2) rfl (by decide) (by decide) rfl (fun ls hl => ?_)
  refine lv_goto (tgt := 159) hx hb dX12_measures_227 (by decide) ?_
  refine lv_iload hx hb dX12_measures_159 (lv_at hl 0 rfl) ?_
  refine lv_iload_n hx hb dX12_measures_161 rfl (lv_at hl 3 rfl) ?_
  refine lv_icmp_ge (tgt := 230) hx hb dX12_measures_162 (by decide) (fun h9 => absurd h9 (by decide)) (fun _ => ?_)
  refine lv_iconst (v := 0) hx hb dX12_measures_165 (by decide) ?_
  refine lv_istore (lv' := [(5, .int 0), (4, .int 1), (6, .int 2), (3, .int 2), (0, .ref h0), (1, .ref h2), (2, .int 1)]) hx hb dX12_measures_166 hl (by decide) rfl (fun ls hl => ?_)
  refine lv_iload hx hb dX12_measures_168 (lv_at hl 0 rfl) ?_
  refine lv_iload_n hx hb dX12_measures_170 rfl (lv_at hl 3 rfl) ?_
  refine lv_icmp_ge (tgt := 224) hx hb dX12_measures_171 (by decide) (fun h9 => absurd h9 (by decide)) (fun _ => ?_)
  refine lv_iconst (v := 0) hx hb dX12_measures_174 (by decide) ?_
  refine lv_istore (lv' := [(6, .int 0), (5, .int 0), (4, .int 1), (3, .int 2), (0, .ref h0), (1, .ref h2), (2, .int 1)]) hx hb dX12_measures_175 hl (by decide) rfl (fun ls hl => ?_)
  refine lv_iload hx hb dX12_measures_177 (lv_at hl 0 rfl) ?_
  refine lv_iload_n hx hb dX12_measures_179 rfl (lv_at hl 3 rfl) ?_
  refine lv_icmp_ge (tgt := 218) hx hb dX12_measures_180 (by decide) (fun h9 => absurd h9 (by decide)) (fun _ => ?_)
  refine lv_aload_n hx hb dX12_measures_183 rfl (lv_at hl 5 rfl) ?_
  refine lv_iload hx hb dX12_measures_184 (lv_at hl 1 rfl) ?_
  refine lv_iload hx hb dX12_measures_186 (lv_at hl 0 rfl) ?_
  refine lv_aload_n hx hb dX12_measures_188 rfl (lv_at hl 5 rfl) ?_
  refine lv_bipush (v := 16) hx hb dX12_measures_189 (by decide) ?_
  refine lv_iload hx hb dX12_measures_191 (lv_at hl 1 rfl) ?_
  refine lv_imul hx hb dX12_measures_193 ?_
  refine tp_i (v := 0) (by decide) ?_
  refine lv_iload hx hb dX12_measures_194 (lv_at hl 2 rfl) ?_
  refine lv_iadd hx hb dX12_measures_196 ?_
  refine tp_i (v := 1) (by decide) ?_
  refine va_iald hx hb hK.1 hP 2 1 rfl rfl (by unfold vp_in; decide) dX12_measures_197 ?_
  refine tp_i (v := 1000000) rfl ?_
  refine lv_aload_n hx hb dX12_measures_198 rfl (lv_at hl 5 rfl) ?_
  refine lv_bipush (v := 16) hx hb dX12_measures_199 (by decide) ?_
  refine lv_iload hx hb dX12_measures_201 (lv_at hl 2 rfl) ?_
  refine lv_imul hx hb dX12_measures_203 ?_
  refine tp_i (v := 16) (by decide) ?_
  refine lv_iload hx hb dX12_measures_204 (lv_at hl 0 rfl) ?_
  refine lv_iadd hx hb dX12_measures_206 ?_
  refine tp_i (v := 16) (by decide) ?_
  refine va_iald hx hb hK.1 hP 2 1 rfl rfl (by unfold vp_in; decide) dX12_measures_207 ?_
  refine tp_i (v := 1000000) rfl ?_
  refine lv_iadd hx hb dX12_measures_208 ?_
  refine tp_i (v := 2000000) (by decide) ?_
  refine kc_v (va_runS (As := [.ref h2, .int 0, .int 0, .int 2000000]) (rest := []) ⟨hx, hb, hml, hown, hB⟩ (c165_X12_nearer l D ty H.size h2 f0) (va_cwS 4 hB (bw_S mw_489 mw_490 mw_211 mw_488) rfl rfl rfl (by decide +kernel) ⟨Nat.le_of_ble_eq_true rfl, Nat.le_of_ble_eq_true rfl⟩) (kp_S hK hP hD [2] (by decide) rfl) rfl rfl hl.1 rfl (lv_room (Nat.le_of_ble_eq_true rfl)) dX12_measures_209 ⟨Nat.le_of_ble_eq_true rfl, Nat.le_of_ble_eq_true rfl⟩) hP hD hS hA [2] [0, 1] (wr := [(h0, .inr (12, [v0, .ref h1, v1, v2, v3, v4, v5, v6, v7, v8, v9, v10, v11, v12, v13, v14, v15, v16, v17, v18, v19, v20, v21, v22, v23, v24, v25, v26, v27, v28, v29, v30, v31, v32, v33, v34, v35, v36])), (h1, .inl (ty 1, 304, .inl (upd (upd (kf 0) 1 2) 4 (-1))))]) rfl rfl (by decide) (by decide) (fun u H locs w7 hP hD hS => ?_)
  subst w7
  have hP : va_P D vwCl [(h0, .inr (12, [v0, .ref h1, v1, v2, v3, v4, v5, v6, v7, v8, v9, v10, v11, v12, v13, v14, v15, v16, v17, v18, v19, v20, v21, v22, v23, v24, v25, v26, v27, v28, v29, v30, v31, v32, v33, v34, v35, v36])), (h1, .inl (ty 1, 304, .inl (upd (upd (kf 0) 1 2) 4 (-1)))), (h2, .inl (ty 1, 256, .inl (upd (upd (upd (upd f0 0 0) 1 1000000) 16 1000000) 17 0)))] H := hP
  have hD : va_D A [(h0, .inr (12, [v0, .ref h1, v1, v2, v3, v4, v5, v6, v7, v8, v9, v10, v11, v12, v13, v14, v15, v16, v17, v18, v19, v20, v21, v22, v23, v24, v25, v26, v27, v28, v29, v30, v31, v32, v33, v34, v35, v36])), (h1, .inl (ty 1, 304, .inl (upd (upd (kf 0) 1 2) 4 (-1)))), (h2, .inl (ty 1, 256, .inl (upd (upd (upd (upd f0 0 0) 1 1000000) 16 1000000) 17 0)))] := hD
  refine lv_iinc (v := 1) (lv' := [(6, .int 1), (5, .int 0), (4, .int 1), (3, .int 2), (0, .ref h0), (1, .ref h2), (2, .int 1)]) hx hb dX12_measures_212 hl (k := 0) rfl (by decide) (by decide) rfl (fun ls hl => ?_)
  refine lv_goto (tgt := 177) hx hb dX12_measures_215 (by decide) ?_
  refine lv_iload hx hb dX12_measures_177 (lv_at hl 0 rfl) ?_
  refine lv_iload_n hx hb dX12_measures_179 rfl (lv_at hl 3 rfl) ?_
  refine lv_icmp_ge (tgt := 218) hx hb dX12_measures_180 (by decide) (fun h9 => absurd h9 (by decide)) (fun _ => ?_)
  refine lv_aload_n hx hb dX12_measures_183 rfl (lv_at hl 5 rfl) ?_
  refine lv_iload hx hb dX12_measures_184 (lv_at hl 1 rfl) ?_
  refine lv_iload hx hb dX12_measures_186 (lv_at hl 0 rfl) ?_
  refine lv_aload_n hx hb dX12_measures_188 rfl (lv_at hl 5 rfl) ?_
  refine lv_bipush (v := 16) hx hb dX12_measures_189 (by decide) ?_
  refine lv_iload hx hb dX12_measures_191 (lv_at hl 1 rfl) ?_
  refine lv_imul hx hb dX12_measures_193 ?_
  refine tp_i (v := 0) (by decide) ?_
  refine lv_iload hx hb dX12_measures_194 (lv_at hl 2 rfl) ?_
  refine lv_iadd hx hb dX12_measures_196 ?_
  refine tp_i (v := 1) (by decide) ?_
  refine va_iald hx hb hK.1 hP 2 1 rfl rfl (by unfold vp_in; decide) dX12_measures_197 ?_
  refine tp_i (v := 1000000) rfl ?_
  refine lv_aload_n hx hb dX12_measures_198 rfl (lv_at hl 5 rfl) ?_
  refine lv_bipush (v := 16) hx hb dX12_measures_199 (by decide) ?_
  refine lv_iload hx hb dX12_measures_201 (lv_at hl 2 rfl) ?_
  refine lv_imul hx hb dX12_measures_203 ?_
  refine tp_i (v := 16) (by decide) ?_
  refine lv_iload hx hb dX12_measures_204 (lv_at hl 0 rfl) ?_
  refine lv_iadd hx hb dX12_measures_206 ?_
  refine tp_i (v := 17) (by decide) ?_
  refine va_iald hx hb hK.1 hP 2 1 rfl rfl (by unfold vp_in; decide) dX12_measures_207 ?_
  refine tp_i (v := 0) rfl ?_
  refine lv_iadd hx hb dX12_measures_208 ?_
  refine tp_i (v := 1000000) (by decide) ?_
  refine kc_v (va_runS (As := [.ref h2, .int 0, .int 1, .int 1000000]) (rest := []) ⟨hx, hb, hml, hown, hB⟩ (c162_X12_nearer l D ty H.size h2 f0) (va_cwS 4 hB (bw_S mw_489 mw_490 mw_211 mw_488) rfl rfl rfl (by decide +kernel) ⟨Nat.le_of_ble_eq_true rfl, Nat.le_of_ble_eq_true rfl⟩) (kp_S hK hP hD [2] (by decide) rfl) rfl rfl hl.1 rfl (lv_room (Nat.le_of_ble_eq_true rfl)) dX12_measures_209 ⟨Nat.le_of_ble_eq_true rfl, Nat.le_of_ble_eq_true rfl⟩) hP hD hS hA [2] [0, 1] (wr := [(h0, .inr (12, [v0, .ref h1, v1, v2, v3, v4, v5, v6, v7, v8, v9, v10, v11, v12, v13, v14, v15, v16, v17, v18, v19, v20, v21, v22, v23, v24, v25, v26, v27, v28, v29, v30, v31, v32, v33, v34, v35, v36])), (h1, .inl (ty 1, 304, .inl (upd (upd (kf 0) 1 2) 4 (-1))))]) rfl rfl (by decide) (by decide) (fun u H locs w8 hP hD hS => ?_)
  subst w8
  have hP : va_P D vwCl [(h0, .inr (12, [v0, .ref h1, v1, v2, v3, v4, v5, v6, v7, v8, v9, v10, v11, v12, v13, v14, v15, v16, v17, v18, v19, v20, v21, v22, v23, v24, v25, v26, v27, v28, v29, v30, v31, v32, v33, v34, v35, v36])), (h1, .inl (ty 1, 304, .inl (upd (upd (kf 0) 1 2) 4 (-1)))), (h2, .inl (ty 1, 256, .inl (upd (upd (upd (upd f0 0 0) 1 1000000) 16 1000000) 17 0)))] H := hP
  have hD : va_D A [(h0, .inr (12, [v0, .ref h1, v1, v2, v3, v4, v5, v6, v7, v8, v9, v10, v11, v12, v13, v14, v15, v16, v17, v18, v19, v20, v21, v22, v23, v24, v25, v26, v27, v28, v29, v30, v31, v32, v33, v34, v35, v36])), (h1, .inl (ty 1, 304, .inl (upd (upd (kf 0) 1 2) 4 (-1)))), (h2, .inl (ty 1, 256, .inl (upd (upd (upd (upd f0 0 0) 1 1000000) 16 1000000) 17 0)))] := hD
  refine lv_iinc (v := 2) (lv' := [(6, .int 2), (5, .int 0), (4, .int 1), (3, .int 2), (0, .ref h0), (1, .ref h2), (2, .int 1)]) hx hb dX12_measures_212 hl (k := 0) rfl (by decide) (by decide) rfl (fun ls hl => ?_)
  refine lv_goto (tgt := 177) hx hb dX12_measures_215 (by decide) ?_
  refine lv_iload hx hb dX12_measures_177 (lv_at hl 0 rfl) ?_
  refine lv_iload_n hx hb dX12_measures_179 rfl (lv_at hl 3 rfl) ?_
  refine lv_icmp_ge (tgt := 218) hx hb dX12_measures_180 (by decide) (fun _ => ?_) (fun h9 => absurd (by decide) h9)
  refine lv_iinc (v := 1) (lv' := [(5, .int 1), (6, .int 2), (4, .int 1), (3, .int 2), (0, .ref h0), (1, .ref h2), (2, .int 1)]) hx hb dX12_measures_218 hl (k := 1) rfl (by decide) (by decide) rfl (fun ls hl => ?_)
  refine lv_goto (tgt := 168) hx hb dX12_measures_221 (by decide) ?_
  refine lv_iload hx hb dX12_measures_168 (lv_at hl 0 rfl) ?_
  refine lv_iload_n hx hb dX12_measures_170 rfl (lv_at hl 3 rfl) ?_
  refine lv_icmp_ge (tgt := 224) hx hb dX12_measures_171 (by decide) (fun h9 => absurd h9 (by decide)) (fun _ => ?_)
  refine lv_iconst (v := 0) hx hb dX12_measures_174 (by decide) ?_
  refine lv_istore (lv' := [(6, .int 0), (5, .int 1), (4, .int 1), (3, .int 2), (0, .ref h0), (1, .ref h2), (2, .int 1)]) hx hb dX12_measures_175 hl (by decide) rfl (fun ls hl => ?_)
  refine lv_iload hx hb dX12_measures_177 (lv_at hl 0 rfl) ?_
  refine lv_iload_n hx hb dX12_measures_179 rfl (lv_at hl 3 rfl) ?_
  refine lv_icmp_ge (tgt := 218) hx hb dX12_measures_180 (by decide) (fun h9 => absurd h9 (by decide)) (fun _ => ?_)
  refine lv_aload_n hx hb dX12_measures_183 rfl (lv_at hl 5 rfl) ?_
  refine lv_iload hx hb dX12_measures_184 (lv_at hl 1 rfl) ?_
  refine lv_iload hx hb dX12_measures_186 (lv_at hl 0 rfl) ?_
  refine lv_aload_n hx hb dX12_measures_188 rfl (lv_at hl 5 rfl) ?_
  refine lv_bipush (v := 16) hx hb dX12_measures_189 (by decide) ?_
  refine lv_iload hx hb dX12_measures_191 (lv_at hl 1 rfl) ?_
  refine lv_imul hx hb dX12_measures_193 ?_
  refine tp_i (v := 16) (by decide) ?_
  refine lv_iload hx hb dX12_measures_194 (lv_at hl 2 rfl) ?_
  refine lv_iadd hx hb dX12_measures_196 ?_
  refine tp_i (v := 17) (by decide) ?_
  refine va_iald hx hb hK.1 hP 2 1 rfl rfl (by unfold vp_in; decide) dX12_measures_197 ?_
  refine tp_i (v := 0) rfl ?_
  refine lv_aload_n hx hb dX12_measures_198 rfl (lv_at hl 5 rfl) ?_
  refine lv_bipush (v := 16) hx hb dX12_measures_199 (by decide) ?_
  refine lv_iload hx hb dX12_measures_201 (lv_at hl 2 rfl) ?_
  refine lv_imul hx hb dX12_measures_203 ?_
  refine tp_i (v := 16) (by decide) ?_
  refine lv_iload hx hb dX12_measures_204 (lv_at hl 0 rfl) ?_
  refine lv_iadd hx hb dX12_measures_206 ?_
  refine tp_i (v := 16) (by decide) ?_
  refine va_iald hx hb hK.1 hP 2 1 rfl rfl (by unfold vp_in; decide) dX12_measures_207 ?_
  refine tp_i (v := 1000000) rfl ?_
  refine lv_iadd hx hb dX12_measures_208 ?_
  refine tp_i (v := 1000000) (by decide) ?_
  refine kc_v (va_runS (As := [.ref h2, .int 1, .int 0, .int 1000000]) (rest := []) ⟨hx, hb, hml, hown, hB⟩ (c163_X12_nearer l D ty H.size h2 f0) (va_cwS 4 hB (bw_S mw_489 mw_490 mw_211 mw_488) rfl rfl rfl (by decide +kernel) ⟨Nat.le_of_ble_eq_true rfl, Nat.le_of_ble_eq_true rfl⟩) (kp_S hK hP hD [2] (by decide) rfl) rfl rfl hl.1 rfl (lv_room (Nat.le_of_ble_eq_true rfl)) dX12_measures_209 ⟨Nat.le_of_ble_eq_true rfl, Nat.le_of_ble_eq_true rfl⟩) hP hD hS hA [2] [0, 1] (wr := [(h0, .inr (12, [v0, .ref h1, v1, v2, v3, v4, v5, v6, v7, v8, v9, v10, v11, v12, v13, v14, v15, v16, v17, v18, v19, v20, v21, v22, v23, v24, v25, v26, v27, v28, v29, v30, v31, v32, v33, v34, v35, v36])), (h1, .inl (ty 1, 304, .inl (upd (upd (kf 0) 1 2) 4 (-1))))]) rfl rfl (by decide) (by decide) (fun u H locs w9 hP hD hS => ?_)
  subst w9
  have hP : va_P D vwCl [(h0, .inr (12, [v0, .ref h1, v1, v2, v3, v4, v5, v6, v7, v8, v9, v10, v11, v12, v13, v14, v15, v16, v17, v18, v19, v20, v21, v22, v23, v24, v25, v26, v27, v28, v29, v30, v31, v32, v33, v34, v35, v36])), (h1, .inl (ty 1, 304, .inl (upd (upd (kf 0) 1 2) 4 (-1)))), (h2, .inl (ty 1, 256, .inl (upd (upd (upd (upd f0 0 0) 1 1000000) 16 1000000) 17 0)))] H := hP
  have hD : va_D A [(h0, .inr (12, [v0, .ref h1, v1, v2, v3, v4, v5, v6, v7, v8, v9, v10, v11, v12, v13, v14, v15, v16, v17, v18, v19, v20, v21, v22, v23, v24, v25, v26, v27, v28, v29, v30, v31, v32, v33, v34, v35, v36])), (h1, .inl (ty 1, 304, .inl (upd (upd (kf 0) 1 2) 4 (-1)))), (h2, .inl (ty 1, 256, .inl (upd (upd (upd (upd f0 0 0) 1 1000000) 16 1000000) 17 0)))] := hD
  refine lv_iinc (v := 1) (lv' := [(6, .int 1), (5, .int 1), (4, .int 1), (3, .int 2), (0, .ref h0), (1, .ref h2), (2, .int 1)]) hx hb dX12_measures_212 hl (k := 0) rfl (by decide) (by decide) rfl (fun ls hl => ?_)
  refine lv_goto (tgt := 177) hx hb dX12_measures_215 (by decide) ?_
  refine lv_iload hx hb dX12_measures_177 (lv_at hl 0 rfl) ?_
  refine lv_iload_n hx hb dX12_measures_179 rfl (lv_at hl 3 rfl) ?_
  refine lv_icmp_ge (tgt := 218) hx hb dX12_measures_180 (by decide) (fun h9 => absurd h9 (by decide)) (fun _ => ?_)
  refine lv_aload_n hx hb dX12_measures_183 rfl (lv_at hl 5 rfl) ?_
  refine lv_iload hx hb dX12_measures_184 (lv_at hl 1 rfl) ?_
  refine lv_iload hx hb dX12_measures_186 (lv_at hl 0 rfl) ?_
  refine lv_aload_n hx hb dX12_measures_188 rfl (lv_at hl 5 rfl) ?_
  refine lv_bipush (v := 16) hx hb dX12_measures_189 (by decide) ?_
  refine lv_iload hx hb dX12_measures_191 (lv_at hl 1 rfl) ?_
  refine lv_imul hx hb dX12_measures_193 ?_
  refine tp_i (v := 16) (by decide) ?_
  refine lv_iload hx hb dX12_measures_194 (lv_at hl 2 rfl) ?_
  refine lv_iadd hx hb dX12_measures_196 ?_
  refine tp_i (v := 17) (by decide) ?_
  refine va_iald hx hb hK.1 hP 2 1 rfl rfl (by unfold vp_in; decide) dX12_measures_197 ?_
  refine tp_i (v := 0) rfl ?_
  refine lv_aload_n hx hb dX12_measures_198 rfl (lv_at hl 5 rfl) ?_
  refine lv_bipush (v := 16) hx hb dX12_measures_199 (by decide) ?_
  refine lv_iload hx hb dX12_measures_201 (lv_at hl 2 rfl) ?_
  refine lv_imul hx hb dX12_measures_203 ?_
  refine tp_i (v := 16) (by decide) ?_
  refine lv_iload hx hb dX12_measures_204 (lv_at hl 0 rfl) ?_
  refine lv_iadd hx hb dX12_measures_206 ?_
  refine tp_i (v := 17) (by decide) ?_
  refine va_iald hx hb hK.1 hP 2 1 rfl rfl (by unfold vp_in; decide) dX12_measures_207 ?_
  refine tp_i (v := 0) rfl ?_
  refine lv_iadd hx hb dX12_measures_208 ?_
  refine tp_i (v := 0) (by decide) ?_
  refine kc_v (va_runS (As := [.ref h2, .int 1, .int 1, .int 0]) (rest := []) ⟨hx, hb, hml, hown, hB⟩ (c166_X12_nearer l D ty H.size h2 f0) (va_cwS 4 hB (bw_S mw_489 mw_490 mw_211 mw_488) rfl rfl rfl (by decide +kernel) ⟨Nat.le_of_ble_eq_true rfl, Nat.le_of_ble_eq_true rfl⟩) (kp_S hK hP hD [2] (by decide) rfl) rfl rfl hl.1 rfl (lv_room (Nat.le_of_ble_eq_true rfl)) dX12_measures_209 ⟨Nat.le_of_ble_eq_true rfl, Nat.le_of_ble_eq_true rfl⟩) hP hD hS hA [2] [0, 1] (wr := [(h0, .inr (12, [v0, .ref h1, v1, v2, v3, v4, v5, v6, v7, v8, v9, v10, v11, v12, v13, v14, v15, v16, v17, v18, v19, v20, v21, v22, v23, v24, v25, v26, v27, v28, v29, v30, v31, v32, v33, v34, v35, v36])), (h1, .inl (ty 1, 304, .inl (upd (upd (kf 0) 1 2) 4 (-1))))]) rfl rfl (by decide) (by decide) (fun u H locs w10 hP hD hS => ?_)
  subst w10
  have hP : va_P D vwCl [(h0, .inr (12, [v0, .ref h1, v1, v2, v3, v4, v5, v6, v7, v8, v9, v10, v11, v12, v13, v14, v15, v16, v17, v18, v19, v20, v21, v22, v23, v24, v25, v26, v27, v28, v29, v30, v31, v32, v33, v34, v35, v36])), (h1, .inl (ty 1, 304, .inl (upd (upd (kf 0) 1 2) 4 (-1)))), (h2, .inl (ty 1, 256, .inl (upd (upd (upd (upd f0 0 0) 1 1000000) 16 1000000) 17 0)))] H := hP
  have hD : va_D A [(h0, .inr (12, [v0, .ref h1, v1, v2, v3, v4, v5, v6, v7, v8, v9, v10, v11, v12, v13, v14, v15, v16, v17, v18, v19, v20, v21, v22, v23, v24, v25, v26, v27, v28, v29, v30, v31, v32, v33, v34, v35, v36])), (h1, .inl (ty 1, 304, .inl (upd (upd (kf 0) 1 2) 4 (-1)))), (h2, .inl (ty 1, 256, .inl (upd (upd (upd (upd f0 0 0) 1 1000000) 16 1000000) 17 0)))] := hD
  refine lv_iinc (v := 2) (lv' := [(6, .int 2), (5, .int 1), (4, .int 1), (3, .int 2), (0, .ref h0), (1, .ref h2), (2, .int 1)]) hx hb dX12_measures_212 hl (k := 0) rfl (by decide) (by decide) rfl (fun ls hl => ?_)
  refine lv_goto (tgt := 177) hx hb dX12_measures_215 (by decide) ?_
  refine lv_iload hx hb dX12_measures_177 (lv_at hl 0 rfl) ?_
  refine lv_iload_n hx hb dX12_measures_179 rfl (lv_at hl 3 rfl) ?_
  refine lv_icmp_ge (tgt := 218) hx hb dX12_measures_180 (by decide) (fun _ => ?_) (fun h9 => absurd (by decide) h9)
  refine lv_iinc (v := 2) (lv' := [(5, .int 2), (6, .int 2), (4, .int 1), (3, .int 2), (0, .ref h0), (1, .ref h2), (2, .int 1)]) hx hb dX12_measures_218 hl (k := 1) rfl (by decide) (by decide) rfl (fun ls hl => ?_)
  refine lv_goto (tgt := 168) hx hb dX12_measures_221 (by decide) ?_
  refine lv_iload hx hb dX12_measures_168 (lv_at hl 0 rfl) ?_
  refine lv_iload_n hx hb dX12_measures_170 rfl (lv_at hl 3 rfl) ?_
  refine lv_icmp_ge (tgt := 224) hx hb dX12_measures_171 (by decide) (fun _ => ?_) (fun h9 => absurd (by decide) h9)
  refine lv_iinc (v := 2) (lv' := [(4, .int 2), (5, .int 2), (6, .int 2), (3, .int 2), (0, .ref h0), (1, .ref h2), (2, .int 1)]) hx hb dX12_measures_224 hl (k := 2) rfl (by decide) (by decide) rfl (fun ls hl => ?_)
  refine lv_goto (tgt := 159) hx hb dX12_measures_227 (by decide) ?_
  refine lv_iload hx hb dX12_measures_159 (lv_at hl 0 rfl) ?_
  refine lv_iload_n hx hb dX12_measures_161 rfl (lv_at hl 3 rfl) ?_
  refine lv_icmp_ge (tgt := 230) hx hb dX12_measures_162 (by decide) (fun _ => ?_) (fun h9 => absurd (by decide) h9)
  exact kr_v hx hb hr hlocks hP hD hS [(h0, .inr (12, [v0, .ref h1, v1, v2, v3, v4, v5, v6, v7, v8, v9, v10, v11, v12, v13, v14, v15, v16, v17, v18, v19, v20, v21, v22, v23, v24, v25, v26, v27, v28, v29, v30, v31, v32, v33, v34, v35, v36])), (h1, .inl (ty 1, 304, .inl (upd (upd (kf 0) 1 2) 4 (-1)))), (h2, .inl (ty 1, 256, .inl (upd (upd (upd (upd f0 0 0) 1 1000000) 16 1000000) 17 0)))] [0, 1, 2] (by decide) rfl rfl (by decide) (by decide) dX12_measures_230
