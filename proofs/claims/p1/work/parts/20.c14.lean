set_option maxHeartbeats 4000000 in
set_option maxRecDepth 100000 in
theorem c153_X12_way (l : Launch) (D : va_G) (ty : Nat → ClassId) (sz : Nat) (h0 : Nat) (h1 : Nat) (p0 : Int32) (p1 : Int32) (v0 : Value) (v1 : Value) (v2 : Value) (v3 : Value) (v4 : Value) (v5 : Value) (v6 : Value) (v7 : Value) (v8 : Value) (v9 : Value) (v10 : Value) (v11 : Value) (v12 : Value) (v13 : Value) (v14 : Value) (v15 : Value) (v16 : Value) (v17 : Value) (v18 : Value) (v19 : Value) (v20 : Value) (v21 : Value) (v22 : Value) (v23 : Value) (v24 : Value) (v25 : Value) (v26 : Value) (v27 : Value) (v28 : Value) (v29 : Value) (v30 : Value) (v31 : Value) (v32 : Value) (v33 : Value) (v34 : Value) (v35 : Value) (v36 : Value) : cQ l yX12_way cX12_way 3 (some .int) 2 46 [.ref h0, .int p0, .int p1] D ty [(h0, .inr (12, [v0, .ref h1, v1, v2, v3, v4, v5, v6, v7, v8, v9, v10, v11, v12, v13, v14, v15, v16, v17, v18, v19, v20, v21, v22, v23, v24, v25, v26, v27, v28, v29, v30, v31, v32, v33, v34, v35, v36])), (h1, .inl (ty 1, 304, .inl (upd (upd (kf 0) 1 2) 4 (-1))))] sz (qI (fun (r : Int32) (u : va_W) => (-1) = r ∧ [] = u)) 0 0 := by
  refine cQ.of (by decide) (Nat.le_of_ble_eq_true rfl) (fun p e s m below meth c A ls C hsz hP hK hD hA hl => ?_)
  obtain ⟨hx, hb, hml, hown, hB, hr, hlocks, hin⟩ := C
  have hown : s.vm.findClass RX12 = some m.cls := hown
  have hS : va_S A s.heap s.heap [] := va_S.rf
  have hl : lv_has ls 3 [(0, .ref h0), (1, .int p0), (2, .int p1)] := hl
  refine lv_iload_n hx hb dX12_way_0 rfl (lv_at hl 1 rfl) ?_
  refine kc_i (va_runS (As := [.int p0]) (rest := []) ⟨hx, hb, hml, hown, hB⟩ (c149_X12_isGiving l D ty s.heap.size p0) (va_cwS 1 hB (bw_S mw_469 mw_470 mw_211 mw_468) rfl rfl rfl (by decide +kernel) ⟨Nat.le_of_ble_eq_true rfl, Nat.le_of_ble_eq_true rfl⟩) (kp_S hK hP hD [] (by decide) rfl) rfl rfl hl.1 rfl (lv_room (Nat.le_of_ble_eq_true rfl)) dX12_way_1 ⟨Nat.le_of_ble_eq_true rfl, Nat.le_of_ble_eq_true rfl⟩) hP hD hS hA [] [0, 1] (wr := [(h0, .inr (12, [v0, .ref h1, v1, v2, v3, v4, v5, v6, v7, v8, v9, v10, v11, v12, v13, v14, v15, v16, v17, v18, v19, v20, v21, v22, v23, v24, v25, v26, v27, v28, v29, v30, v31, v32, v33, v34, v35, v36])), (h1, .inl (ty 1, 304, .inl (upd (upd (kf 0) 1 2) 4 (-1))))]) rfl rfl (by decide) (by decide) (fun r u H locs w1 hP hD hS => ?_)
  rcases w1 with ⟨c2, rfl, rfl⟩ | ⟨c3, rfl, rfl⟩
  · have hP : va_P D vwCl [(h0, .inr (12, [v0, .ref h1, v1, v2, v3, v4, v5, v6, v7, v8, v9, v10, v11, v12, v13, v14, v15, v16, v17, v18, v19, v20, v21, v22, v23, v24, v25, v26, v27, v28, v29, v30, v31, v32, v33, v34, v35, v36])), (h1, .inl (ty 1, 304, .inl (upd (upd (kf 0) 1 2) 4 (-1))))] H := hP
    have hD : va_D A [(h0, .inr (12, [v0, .ref h1, v1, v2, v3, v4, v5, v6, v7, v8, v9, v10, v11, v12, v13, v14, v15, v16, v17, v18, v19, v20, v21, v22, v23, v24, v25, v26, v27, v28, v29, v30, v31, v32, v33, v34, v35, v36])), (h1, .inl (ty 1, 304, .inl (upd (upd (kf 0) 1 2) 4 (-1))))] := hD
    refine lv_if_eq (tgt := 24) hx hb dX12_way_4 (by decide) (fun h9 => absurd h9 (by decide)) (fun _ => ?_)
    refine lv_aload_n hx hb dX12_way_7 rfl (lv_at hl 0 rfl) ?_
    refine lv_iload_n hx hb dX12_way_8 rfl (lv_at hl 2 rfl) ?_
    refine kc_i (va_runV (As := [.int p1]) (rest := []) ⟨hx, hb, hml, hown, hB⟩ (c150_X12_isAlley l D ty H.size h0 h1 p1 v0 v1 v2 v3 v4 v5 v6 v7 v8 v9 v10 v11 v12 v13 v14 v15 v16 v17 v18 v19 v20 v21 v22 v23 v24 v25 v26 v27 v28 v29 v30 v31 v32 v33 v34 v35 v36) (cwV 1 hB (bw_V mw_472 mw_473 mw_474 mw_211 mw_471) rfl rfl rfl (by decide +kernel) ⟨Nat.le_of_ble_eq_true rfl, Nat.le_of_ble_eq_true rfl⟩) (kp_V hK hP hD [0, 1] (by decide) rfl 0 rfl rfl rfl) rfl rfl hl.1 rfl (lv_room (Nat.le_of_ble_eq_true rfl)) dX12_way_9 ⟨Nat.le_of_ble_eq_true rfl, Nat.le_of_ble_eq_true rfl⟩) hP hD hS hA [0, 1] [] (wr := []) rfl rfl (by decide) (by decide) (fun r u H locs w4 hP hD hS => ?_)
    obtain ⟨rfl, rfl⟩ := w4
    have hP : va_P D vwCl [(h0, .inr (12, [v0, .ref h1, v1, v2, v3, v4, v5, v6, v7, v8, v9, v10, v11, v12, v13, v14, v15, v16, v17, v18, v19, v20, v21, v22, v23, v24, v25, v26, v27, v28, v29, v30, v31, v32, v33, v34, v35, v36])), (h1, .inl (ty 1, 304, .inl (upd (upd (kf 0) 1 2) 4 (-1))))] H := hP
    have hD : va_D A [(h0, .inr (12, [v0, .ref h1, v1, v2, v3, v4, v5, v6, v7, v8, v9, v10, v11, v12, v13, v14, v15, v16, v17, v18, v19, v20, v21, v22, v23, v24, v25, v26, v27, v28, v29, v30, v31, v32, v33, v34, v35, v36])), (h1, .inl (ty 1, 304, .inl (upd (upd (kf 0) 1 2) 4 (-1))))] := hD
    refine lv_if_eq (tgt := 24) hx hb dX12_way_12 (by decide) (fun _ => ?_) (fun h9 => absurd (by decide) h9)
    refine lv_iconst (v := (-1)) hx hb dX12_way_24 (by decide) ?_
    exact kr_z hx hb hr rfl hlocks hP hD hS [] [] (by decide) rfl ⟨rfl, rfl⟩ (by decide) (by decide) dX12_way_25
  · have hP : va_P D vwCl [(h0, .inr (12, [v0, .ref h1, v1, v2, v3, v4, v5, v6, v7, v8, v9, v10, v11, v12, v13, v14, v15, v16, v17, v18, v19, v20, v21, v22, v23, v24, v25, v26, v27, v28, v29, v30, v31, v32, v33, v34, v35, v36])), (h1, .inl (ty 1, 304, .inl (upd (upd (kf 0) 1 2) 4 (-1))))] H := hP
    have hD : va_D A [(h0, .inr (12, [v0, .ref h1, v1, v2, v3, v4, v5, v6, v7, v8, v9, v10, v11, v12, v13, v14, v15, v16, v17, v18, v19, v20, v21, v22, v23, v24, v25, v26, v27, v28, v29, v30, v31, v32, v33, v34, v35, v36])), (h1, .inl (ty 1, 304, .inl (upd (upd (kf 0) 1 2) 4 (-1))))] := hD
    refine lv_if_eq (tgt := 24) hx hb dX12_way_4 (by decide) (fun _ => ?_) (fun h9 => absurd (by decide) h9)
    refine lv_iconst (v := (-1)) hx hb dX12_way_24 (by decide) ?_
    exact kr_z hx hb hr rfl hlocks hP hD hS [] [] (by decide) rfl ⟨rfl, rfl⟩ (by decide) (by decide) dX12_way_25
set_option maxHeartbeats 4000000 in
set_option maxRecDepth 100000 in
theorem c154_X12_clear (l : Launch) (D : va_G) (ty : Nat → ClassId) (sz : Nat) (h0 : Nat) (h1 : Nat) (p0 : Int32) (v0 : Value) (v1 : Value) (v2 : Value) (v3 : Value) (v4 : Value) (v5 : Value) (v6 : Value) (v7 : Value) (v8 : Value) (v9 : Value) (v10 : Value) (v11 : Value) (v12 : Value) (v13 : Value) (v14 : Value) (v15 : Value) (v16 : Value) (v17 : Value) (v18 : Value) (v19 : Value) (v20 : Value) (v21 : Value) (v22 : Value) (v23 : Value) (v24 : Value) (v25 : Value) (v26 : Value) (v27 : Value) (v28 : Value) (v29 : Value) (v30 : Value) (v31 : Value) (v32 : Value) (v33 : Value) (v34 : Value) (v35 : Value) (v36 : Value) : cQ l yX12_clear cX12_clear 4 (some .int) 2 45 [.ref h0, .int p0] D ty [(h0, .inr (12, [v0, .ref h1, v1, v2, v3, v4, v5, v6, v7, v8, v9, v10, v11, v12, v13, v14, v15, v16, v17, v18, v19, v20, v21, v22, v23, v24, v25, v26, v27, v28, v29, v30, v31, v32, v33, v34, v35, v36])), (h1, .inl (ty 1, 304, .inl (upd (upd (kf 0) 1 2) 4 (-1))))] sz (qI (fun (r : Int32) (u : va_W) => (((((0 ≤ (Int32.toInt64 p0)) ∧ ((Int32.toInt64 p0) ≤ 1)))) ∧ 0 = r ∧ [] = u) ∨ (((((¬ (0 ≤ (Int32.toInt64 p0))) ∨ (¬ ((Int32.toInt64 p0) ≤ 1))))) ∧ (-2) = r ∧ [] = u))) 0 0 := by
  refine cQ.of (by decide) (Nat.le_of_ble_eq_true rfl) (fun p e s m below meth c A ls C hsz hP hK hD hA hl => ?_)
  obtain ⟨hx, hb, hml, hown, hB, hr, hlocks, hin⟩ := C
  have hown : s.vm.findClass RX12 = some m.cls := hown
  have hS : va_S A s.heap s.heap [] := va_S.rf
  have hl : lv_has ls 4 [(0, .ref h0), (1, .int p0)] := hl
  refine lv_iload_n hx hb dX12_clear_0 rfl (lv_at hl 1 rfl) ?_
  refine kc_i (va_runS (As := [.int p0]) (rest := []) ⟨hx, hb, hml, hown, hB⟩ (c149_X12_isGiving l D ty s.heap.size p0) (va_cwS 1 hB (bw_S mw_469 mw_470 mw_211 mw_468) rfl rfl rfl (by decide +kernel) ⟨Nat.le_of_ble_eq_true rfl, Nat.le_of_ble_eq_true rfl⟩) (kp_S hK hP hD [] (by decide) rfl) rfl rfl hl.1 rfl (lv_room (Nat.le_of_ble_eq_true rfl)) dX12_clear_1 ⟨Nat.le_of_ble_eq_true rfl, Nat.le_of_ble_eq_true rfl⟩) hP hD hS hA [] [0, 1] (wr := [(h0, .inr (12, [v0, .ref h1, v1, v2, v3, v4, v5, v6, v7, v8, v9, v10, v11, v12, v13, v14, v15, v16, v17, v18, v19, v20, v21, v22, v23, v24, v25, v26, v27, v28, v29, v30, v31, v32, v33, v34, v35, v36])), (h1, .inl (ty 1, 304, .inl (upd (upd (kf 0) 1 2) 4 (-1))))]) rfl rfl (by decide) (by decide) (fun r u H locs w1 hP hD hS => ?_)
  rcases w1 with ⟨c2, rfl, rfl⟩ | ⟨c3, rfl, rfl⟩
  · have hP : va_P D vwCl [(h0, .inr (12, [v0, .ref h1, v1, v2, v3, v4, v5, v6, v7, v8, v9, v10, v11, v12, v13, v14, v15, v16, v17, v18, v19, v20, v21, v22, v23, v24, v25, v26, v27, v28, v29, v30, v31, v32, v33, v34, v35, v36])), (h1, .inl (ty 1, 304, .inl (upd (upd (kf 0) 1 2) 4 (-1))))] H := hP
    have hD : va_D A [(h0, .inr (12, [v0, .ref h1, v1, v2, v3, v4, v5, v6, v7, v8, v9, v10, v11, v12, v13, v14, v15, v16, v17, v18, v19, v20, v21, v22, v23, v24, v25, v26, v27, v28, v29, v30, v31, v32, v33, v34, v35, v36])), (h1, .inl (ty 1, 304, .inl (upd (upd (kf 0) 1 2) 4 (-1))))] := hD
    refine lv_if_ne (tgt := 10) hx hb dX12_clear_4 (by decide) (fun _ => ?_) (fun h9 => absurd h9 (by decide))
    refine lv_iconst (v := 0) hx hb dX12_clear_10 (by decide) ?_
    refine lv_istore_n (lv' := [(2, .int 0), (0, .ref h0), (1, .int p0)]) hx hb dX12_clear_11 rfl hl (by decide) rfl (fun ls hl => ?_)
    refine lv_iconst (v := 0) hx hb dX12_clear_12 (by decide) ?_
    refine lv_istore_n (lv' := [(3, .int 0), (2, .int 0), (0, .ref h0), (1, .int p0)]) hx hb dX12_clear_13 rfl hl (by decide) rfl (fun ls hl => ?_)
    refine lv_iload_n hx hb dX12_clear_14 rfl (lv_at hl 0 rfl) ?_
    refine lv_aload_n hx hb dX12_clear_15 rfl (lv_at hl 2 rfl) ?_
    refine kc_i (va_runV (As := []) (rest := [.int 0]) ⟨hx, hb, hml, hown, hB⟩ (c146_X12_alleys l D ty H.size h0 h1 v0 v1 v2 v3 v4 v5 v6 v7 v8 v9 v10 v11 v12 v13 v14 v15 v16 v17 v18 v19 v20 v21 v22 v23 v24 v25 v26 v27 v28 v29 v30 v31 v32 v33 v34 v35 v36) (cwV 0 hB (bw_V mw_465 mw_466 mw_467 mw_211 mw_464) rfl rfl rfl (by decide +kernel) ⟨Nat.le_of_ble_eq_true rfl, Nat.le_of_ble_eq_true rfl⟩) (kp_V hK hP hD [0, 1] (by decide) rfl 0 rfl rfl rfl) rfl rfl hl.1 rfl (lv_room (Nat.le_of_ble_eq_true rfl)) dX12_clear_16 ⟨Nat.le_of_ble_eq_true rfl, Nat.le_of_ble_eq_true rfl⟩) hP hD hS hA [0, 1] [] (wr := []) rfl rfl (by decide) (by decide) (fun r u H locs w4 hP hD hS => ?_)
    obtain ⟨rfl, rfl⟩ := w4
    have hP : va_P D vwCl [(h0, .inr (12, [v0, .ref h1, v1, v2, v3, v4, v5, v6, v7, v8, v9, v10, v11, v12, v13, v14, v15, v16, v17, v18, v19, v20, v21, v22, v23, v24, v25, v26, v27, v28, v29, v30, v31, v32, v33, v34, v35, v36])), (h1, .inl (ty 1, 304, .inl (upd (upd (kf 0) 1 2) 4 (-1))))] H := hP
    have hD : va_D A [(h0, .inr (12, [v0, .ref h1, v1, v2, v3, v4, v5, v6, v7, v8, v9, v10, v11, v12, v13, v14, v15, v16, v17, v18, v19, v20, v21, v22, v23, v24, v25, v26, v27, v28, v29, v30, v31, v32, v33, v34, v35, v36])), (h1, .inl (ty 1, 304, .inl (upd (upd (kf 0) 1 2) 4 (-1))))] := hD
    refine lv_icmp_ge (tgt := 69) hx hb dX12_clear_19 (by decide) (fun _ => ?_) (fun h9 => absurd (by decide) h9)
    refine lv_iload_n hx hb dX12_clear_69 rfl (lv_at hl 1 rfl) ?_
    exact kr_z hx hb hr rfl hlocks hP hD hS [] [] (by decide) rfl (Or.inl ⟨c2, rfl, rfl⟩) (by decide) (by decide) dX12_clear_70
  · have hP : va_P D vwCl [(h0, .inr (12, [v0, .ref h1, v1, v2, v3, v4, v5, v6, v7, v8, v9, v10, v11, v12, v13, v14, v15, v16, v17, v18, v19, v20, v21, v22, v23, v24, v25, v26, v27, v28, v29, v30, v31, v32, v33, v34, v35, v36])), (h1, .inl (ty 1, 304, .inl (upd (upd (kf 0) 1 2) 4 (-1))))] H := hP
    have hD : va_D A [(h0, .inr (12, [v0, .ref h1, v1, v2, v3, v4, v5, v6, v7, v8, v9, v10, v11, v12, v13, v14, v15, v16, v17, v18, v19, v20, v21, v22, v23, v24, v25, v26, v27, v28, v29, v30, v31, v32, v33, v34, v35, v36])), (h1, .inl (ty 1, 304, .inl (upd (upd (kf 0) 1 2) 4 (-1))))] := hD
    refine lv_if_ne (tgt := 10) hx hb dX12_clear_4 (by decide) (fun h9 => absurd (by decide) h9) (fun _ => ?_)
    refine lv_bipush (v := (-2)) hx hb dX12_clear_7 (by decide) ?_
    exact kr_z hx hb hr rfl hlocks hP hD hS [] [] (by decide) rfl (Or.inr ⟨c3, rfl, rfl⟩) (by decide) (by decide) dX12_clear_9
set_option maxHeartbeats 4000000 in
set_option maxRecDepth 100000 in
theorem c156_X12_tries (l : Launch) (D : va_G) (ty : Nat → ClassId) (sz : Nat) (h0 : Nat) (h1 : Nat) (p0 : Int32) (v0 : Value) (v1 : Value) (v2 : Value) (v3 : Value) (v4 : Value) (v5 : Value) (v6 : Value) (v7 : Value) (v8 : Value) (v9 : Value) (v10 : Value) (v11 : Value) (v12 : Value) (v13 : Value) (v14 : Value) (v15 : Value) (v16 : Value) (v17 : Value) (v18 : Value) (v19 : Value) (v20 : Value) (v21 : Value) (v22 : Value) (v23 : Value) (v24 : Value) (v25 : Value) (v26 : Value) (v27 : Value) (v28 : Value) (v29 : Value) (v30 : Value) (v31 : Value) (v32 : Value) (v33 : Value) (v34 : Value) (v35 : Value) (v36 : Value) : cQ l yX12_tries cX12_tries 3 none 1 20 [.ref h0, .int p0] D ty [(h0, .inr (12, [v0, .ref h1, v1, v2, v3, v4, v5, v6, v7, v8, v9, v10, v11, v12, v13, v14, v15, v16, v17, v18, v19, v20, v21, v22, v23, v24, v25, v26, v27, v28, v29, v30, v31, v32, v33, v34, v35, v36])), (h1, .inl (ty 1, 304, .inl (upd (upd (kf 0) 1 2) 4 (-1))))] sz (qV (fun (u : va_W) => [(h0, .inr (12, [v0, .ref h1, v1, v2, v3, v4, v5, v6, v7, v8, v9, v10, v11, v12, v13, v14, v15, v16, v17, v18, v19, v20, v21, v22, v23, v24, v25, v26, v27, v28, v29, v30, v31, v32, v33, v34, v35, v36])), (h1, .inl (ty 1, 304, .inl (upd (upd (kf 0) 1 2) 4 (-1))))] = u)) 0 0 := by
  refine cQ.of (by decide) (Nat.le_of_ble_eq_true rfl) (fun p e s m below meth c A ls C hsz hP hK hD hA hl => ?_)
  obtain ⟨hx, hb, hml, hown, hB, hr, hlocks, hin⟩ := C
  have hown : s.vm.findClass RX12 = some m.cls := hown
  have hS : va_S A s.heap s.heap [] := va_S.rf
  have hl : lv_has ls 3 [(0, .ref h0), (1, .int p0)] := hl
  refine lv_iconst (v := 0) hx hb dX12_tries_0 (by decide) ?_
  refine lv_istore_n (lv' := [(2, .int 0), (0, .ref h0), (1, .int p0)]) hx hb dX12_tries_1 rfl hl (by decide) rfl (fun ls hl => ?_)
  refine lv_iload_n hx hb dX12_tries_2 rfl (lv_at hl 0 rfl) ?_
  refine lv_aload_n hx hb dX12_tries_3 rfl (lv_at hl 1 rfl) ?_
  refine kc_i (va_runV (As := []) (rest := [.int 0]) ⟨hx, hb, hml, hown, hB⟩ (c146_X12_alleys l D ty s.heap.size h0 h1 v0 v1 v2 v3 v4 v5 v6 v7 v8 v9 v10 v11 v12 v13 v14 v15 v16 v17 v18 v19 v20 v21 v22 v23 v24 v25 v26 v27 v28 v29 v30 v31 v32 v33 v34 v35 v36) (cwV 0 hB (bw_V mw_465 mw_466 mw_467 mw_211 mw_464) rfl rfl rfl (by decide +kernel) ⟨Nat.le_of_ble_eq_true rfl, Nat.le_of_ble_eq_true rfl⟩) (kp_V hK hP hD [0, 1] (by decide) rfl 0 rfl rfl rfl) rfl rfl hl.1 rfl (lv_room (Nat.le_of_ble_eq_true rfl)) dX12_tries_4 ⟨Nat.le_of_ble_eq_true rfl, Nat.le_of_ble_eq_true rfl⟩) hP hD hS hA [0, 1] [] (wr := []) rfl rfl (by decide) (by decide) (fun r u H locs w1 hP hD hS => ?_)
  obtain ⟨rfl, rfl⟩ := w1
  have hP : va_P D vwCl [(h0, .inr (12, [v0, .ref h1, v1, v2, v3, v4, v5, v6, v7, v8, v9, v10, v11, v12, v13, v14, v15, v16, v17, v18, v19, v20, v21, v22, v23, v24, v25, v26, v27, v28, v29, v30, v31, v32, v33, v34, v35, v36])), (h1, .inl (ty 1, 304, .inl (upd (upd (kf 0) 1 2) 4 (-1))))] H := hP
  have hD : va_D A [(h0, .inr (12, [v0, .ref h1, v1, v2, v3, v4, v5, v6, v7, v8, v9, v10, v11, v12, v13, v14, v15, v16, v17, v18, v19, v20, v21, v22, v23, v24, v25, v26, v27, v28, v29, v30, v31, v32, v33, v34, v35, v36])), (h1, .inl (ty 1, 304, .inl (upd (upd (kf 0) 1 2) 4 (-1))))] := hD
  refine lv_icmp_ge (tgt := 28) hx hb dX12_tries_7 (by decide) (fun _ => ?_) (fun h9 => absurd (by decide) h9)
  exact kr_v hx hb hr hlocks hP hD hS [(h0, .inr (12, [v0, .ref h1, v1, v2, v3, v4, v5, v6, v7, v8, v9, v10, v11, v12, v13, v14, v15, v16, v17, v18, v19, v20, v21, v22, v23, v24, v25, v26, v27, v28, v29, v30, v31, v32, v33, v34, v35, v36])), (h1, .inl (ty 1, 304, .inl (upd (upd (kf 0) 1 2) 4 (-1))))] [0, 1] (by decide) rfl rfl (by decide) (by decide) dX12_tries_28
set_option maxHeartbeats 4000000 in
set_option maxRecDepth 100000 in
theorem c160_X12_corners (l : Launch) (D : va_G) (ty : Nat → ClassId) (sz : Nat) (h0 : Nat) (h1 : Nat) (v0 : Value) (v1 : Value) (v2 : Value) (v3 : Value) (v4 : Value) (v5 : Value) (v6 : Value) (v7 : Value) (v8 : Value) (v9 : Value) (v10 : Value) (v11 : Value) (v12 : Value) (v13 : Value) (v14 : Value) (v15 : Value) (v16 : Value) (v17 : Value) (v18 : Value) (v19 : Value) (v20 : Value) (v21 : Value) (v22 : Value) (v23 : Value) (v24 : Value) (v25 : Value) (v26 : Value) (v27 : Value) (v28 : Value) (v29 : Value) (v30 : Value) (v31 : Value) (v32 : Value) (v33 : Value) (v34 : Value) (v35 : Value) (v36 : Value) : cQ l yX12_corners cX12_corners 1 (some .int) 0 0 [.ref h0] D ty [(h0, .inr (12, [v0, .ref h1, v1, v2, v3, v4, v5, v6, v7, v8, v9, v10, v11, v12, v13, v14, v15, v16, v17, v18, v19, v20, v21, v22, v23, v24, v25, v26, v27, v28, v29, v30, v31, v32, v33, v34, v35, v36])), (h1, .inl (ty 1, 304, .inl (upd (upd (kf 0) 1 2) 4 (-1))))] sz (qI (fun (r : Int32) (u : va_W) => 2 = r ∧ [(h0, .inr (12, [v0, .ref h1, v1, v2, v3, v4, v5, v6, v7, v8, v9, v10, v11, v12, v13, v14, v15, v16, v17, v18, v19, v20, v21, v22, v23, v24, v25, v26, v27, v28, v29, v30, v31, v32, v33, v34, v35, v36])), (h1, .inl (ty 1, 304, .inl (upd (upd (kf 0) 1 2) 4 (-1))))] = u)) 0 0 := by
  refine cQ.of (by decide) (Nat.le_of_ble_eq_true rfl) (fun p e s m below meth c A ls C hsz hP hK hD hA hl => ?_)
  obtain ⟨hx, hb, hml, hown, hB, hr, hlocks, hin⟩ := C
  have hown : s.vm.findClass RX12 = some m.cls := hown
  have hS : va_S A s.heap s.heap [] := va_S.rf
  have hl : lv_has ls 1 [(0, .ref h0)] := hl
  refine lv_aload_n hx hb dX12_corners_0 rfl (lv_at hl 0 rfl) ?_
  refine va_get (D := D) (ci := 12) (v := .ref h1) (C := RX12) (T := TX12) (N := 38) hx hb hB inB_X12 hown hK.1 hP 0 rfl rfl 1 (by decide) (hB _ mw_182) (fun _ h9 => h9) rfl dX12_corners_1 ?_
  refine lv_iconst (v := 1) hx hb dX12_corners_4 (by decide) ?_
  refine va_iald hx hb hK.1 hP 1 1 rfl rfl (by unfold vp_in; decide) dX12_corners_5 ?_
  refine tp_i (v := 2) rfl ?_
  exact kr_z hx hb hr rfl hlocks hP hD hS [(h0, .inr (12, [v0, .ref h1, v1, v2, v3, v4, v5, v6, v7, v8, v9, v10, v11, v12, v13, v14, v15, v16, v17, v18, v19, v20, v21, v22, v23, v24, v25, v26, v27, v28, v29, v30, v31, v32, v33, v34, v35, v36])), (h1, .inl (ty 1, 304, .inl (upd (upd (kf 0) 1 2) 4 (-1))))] [0, 1] (by decide) rfl ⟨rfl, rfl⟩ (by decide) (by decide) dX12_corners_6
set_option maxHeartbeats 4000000 in
set_option maxRecDepth 100000 in
theorem c161_X12_nearer (l : Launch) (D : va_G) (ty : Nat → ClassId) (sz : Nat) (h0 : Nat) (f0 : Nat → Int32) : cQ l yX12_nearer cX12_nearer 4 none 0 0 [.ref h0, .int 0, .int 0, .int 0] D ty [(h0, .inl (ty 1, 256, .inl (upd (upd (upd (upd f0 0 0) 1 1000000) 16 1000000) 17 0)))] sz (qV (fun (u : va_W) => [(h0, .inl (ty 1, 256, .inl (upd (upd (upd (upd f0 0 0) 1 1000000) 16 1000000) 17 0)))] = u)) 0 0 := by
  refine cQ.of (by decide) (Nat.le_of_ble_eq_true rfl) (fun p e s m below meth c A ls C hsz hP hK hD hA hl => ?_)
  obtain ⟨hx, hb, hml, hown, hB, hr, hlocks, hin⟩ := C
  have hown : s.vm.findClass RX12 = some m.cls := hown
  have hS : va_S A s.heap s.heap [] := va_S.rf
  have hl : lv_has ls 4 [(0, .ref h0), (1, .int 0), (2, .int 0), (3, .int 0)] := hl
  refine lv_iload_n hx hb dX12_nearer_0 rfl (lv_at hl 3 rfl) ?_
  refine lv_aload_n hx hb dX12_nearer_1 rfl (lv_at hl 0 rfl) ?_
  refine lv_bipush (v := 16) hx hb dX12_nearer_2 (by decide) ?_
  refine lv_iload_n hx hb dX12_nearer_4 rfl (lv_at hl 1 rfl) ?_
  refine lv_imul hx hb dX12_nearer_5 ?_
  refine tp_i (v := 0) (by decide) ?_
  refine lv_iload_n hx hb dX12_nearer_6 rfl (lv_at hl 2 rfl) ?_
  refine lv_iadd hx hb dX12_nearer_7 ?_
  refine tp_i (v := 0) (by decide) ?_
  refine va_iald hx hb hK.1 hP 0 1 rfl rfl (by unfold vp_in; decide) dX12_nearer_8 ?_
  refine tp_i (v := 0) rfl ?_
  refine lv_icmp_ge (tgt := 21) hx hb dX12_nearer_9 (by decide) (fun _ => ?_) (fun h9 => absurd (by decide) h9)
  exact kr_v hx hb hr hlocks hP hD hS [(h0, .inl (ty 1, 256, .inl (upd (upd (upd (upd f0 0 0) 1 1000000) 16 1000000) 17 0)))] [0] (by decide) rfl rfl (by decide) (by decide) dX12_nearer_21
set_option maxHeartbeats 4000000 in
set_option maxRecDepth 100000 in
theorem c162_X12_nearer (l : Launch) (D : va_G) (ty : Nat → ClassId) (sz : Nat) (h0 : Nat) (f0 : Nat → Int32) : cQ l yX12_nearer cX12_nearer 4 none 0 0 [.ref h0, .int 0, .int 1, .int 1000000] D ty [(h0, .inl (ty 1, 256, .inl (upd (upd (upd (upd f0 0 0) 1 1000000) 16 1000000) 17 0)))] sz (qV (fun (u : va_W) => [(h0, .inl (ty 1, 256, .inl (upd (upd (upd (upd f0 0 0) 1 1000000) 16 1000000) 17 0)))] = u)) 0 0 := by
  refine cQ.of (by decide) (Nat.le_of_ble_eq_true rfl) (fun p e s m below meth c A ls C hsz hP hK hD hA hl => ?_)
  obtain ⟨hx, hb, hml, hown, hB, hr, hlocks, hin⟩ := C
  have hown : s.vm.findClass RX12 = some m.cls := hown
  have hS : va_S A s.heap s.heap [] := va_S.rf
  have hl : lv_has ls 4 [(0, .ref h0), (1, .int 0), (2, .int 1), (3, .int 1000000)] := hl
  refine lv_iload_n hx hb dX12_nearer_0 rfl (lv_at hl 3 rfl) ?_
  refine lv_aload_n hx hb dX12_nearer_1 rfl (lv_at hl 0 rfl) ?_
  refine lv_bipush (v := 16) hx hb dX12_nearer_2 (by decide) ?_
  refine lv_iload_n hx hb dX12_nearer_4 rfl (lv_at hl 1 rfl) ?_
  refine lv_imul hx hb dX12_nearer_5 ?_
  refine tp_i (v := 0) (by decide) ?_
  refine lv_iload_n hx hb dX12_nearer_6 rfl (lv_at hl 2 rfl) ?_
  refine lv_iadd hx hb dX12_nearer_7 ?_
  refine tp_i (v := 1) (by decide) ?_
  refine va_iald hx hb hK.1 hP 0 1 rfl rfl (by unfold vp_in; decide) dX12_nearer_8 ?_
  refine tp_i (v := 1000000) rfl ?_
  refine lv_icmp_ge (tgt := 21) hx hb dX12_nearer_9 (by decide) (fun _ => ?_) (fun h9 => absurd (by decide) h9)
  exact kr_v hx hb hr hlocks hP hD hS [(h0, .inl (ty 1, 256, .inl (upd (upd (upd (upd f0 0 0) 1 1000000) 16 1000000) 17 0)))] [0] (by decide) rfl rfl (by decide) (by decide) dX12_nearer_21
set_option maxHeartbeats 4000000 in
set_option maxRecDepth 100000 in
theorem c163_X12_nearer (l : Launch) (D : va_G) (ty : Nat → ClassId) (sz : Nat) (h0 : Nat) (f0 : Nat → Int32) : cQ l yX12_nearer cX12_nearer 4 none 0 0 [.ref h0, .int 1, .int 0, .int 1000000] D ty [(h0, .inl (ty 1, 256, .inl (upd (upd (upd (upd f0 0 0) 1 1000000) 16 1000000) 17 0)))] sz (qV (fun (u : va_W) => [(h0, .inl (ty 1, 256, .inl (upd (upd (upd (upd f0 0 0) 1 1000000) 16 1000000) 17 0)))] = u)) 0 0 := by
  refine cQ.of (by decide) (Nat.le_of_ble_eq_true rfl) (fun p e s m below meth c A ls C hsz hP hK hD hA hl => ?_)
  obtain ⟨hx, hb, hml, hown, hB, hr, hlocks, hin⟩ := C
  have hown : s.vm.findClass RX12 = some m.cls := hown
  have hS : va_S A s.heap s.heap [] := va_S.rf
  have hl : lv_has ls 4 [(0, .ref h0), (1, .int 1), (2, .int 0), (3, .int 1000000)] := hl
  refine lv_iload_n hx hb dX12_nearer_0 rfl (lv_at hl 3 rfl) ?_
  refine lv_aload_n hx hb dX12_nearer_1 rfl (lv_at hl 0 rfl) ?_
  refine lv_bipush (v := 16) hx hb dX12_nearer_2 (by decide) ?_
  refine lv_iload_n hx hb dX12_nearer_4 rfl (lv_at hl 1 rfl) ?_
  refine lv_imul hx hb dX12_nearer_5 ?_
  refine tp_i (v := 16) (by decide) ?_
  refine lv_iload_n hx hb dX12_nearer_6 rfl (lv_at hl 2 rfl) ?_
  refine lv_iadd hx hb dX12_nearer_7 ?_
  refine tp_i (v := 16) (by decide) ?_
  refine va_iald hx hb hK.1 hP 0 1 rfl rfl (by unfold vp_in; decide) dX12_nearer_8 ?_
  refine tp_i (v := 1000000) rfl ?_
  refine lv_icmp_ge (tgt := 21) hx hb dX12_nearer_9 (by decide) (fun _ => ?_) (fun h9 => absurd (by decide) h9)
  exact kr_v hx hb hr hlocks hP hD hS [(h0, .inl (ty 1, 256, .inl (upd (upd (upd (upd f0 0 0) 1 1000000) 16 1000000) 17 0)))] [0] (by decide) rfl rfl (by decide) (by decide) dX12_nearer_21
set_option maxHeartbeats 4000000 in
set_option maxRecDepth 100000 in
theorem c164_X12_nearer (l : Launch) (D : va_G) (ty : Nat → ClassId) (sz : Nat) (h0 : Nat) (f0 : Nat → Int32) : cQ l yX12_nearer cX12_nearer 4 none 0 0 [.ref h0, .int 1, .int 1, .int 2000000] D ty [(h0, .inl (ty 1, 256, .inl (upd (upd (upd (upd f0 0 0) 1 1000000) 16 1000000) 17 0)))] sz (qV (fun (u : va_W) => [(h0, .inl (ty 1, 256, .inl (upd (upd (upd (upd f0 0 0) 1 1000000) 16 1000000) 17 0)))] = u)) 0 0 := by
  refine cQ.of (by decide) (Nat.le_of_ble_eq_true rfl) (fun p e s m below meth c A ls C hsz hP hK hD hA hl => ?_)
  obtain ⟨hx, hb, hml, hown, hB, hr, hlocks, hin⟩ := C
  have hown : s.vm.findClass RX12 = some m.cls := hown
  have hS : va_S A s.heap s.heap [] := va_S.rf
  have hl : lv_has ls 4 [(0, .ref h0), (1, .int 1), (2, .int 1), (3, .int 2000000)] := hl
  refine lv_iload_n hx hb dX12_nearer_0 rfl (lv_at hl 3 rfl) ?_
  refine lv_aload_n hx hb dX12_nearer_1 rfl (lv_at hl 0 rfl) ?_
  refine lv_bipush (v := 16) hx hb dX12_nearer_2 (by decide) ?_
  refine lv_iload_n hx hb dX12_nearer_4 rfl (lv_at hl 1 rfl) ?_
  refine lv_imul hx hb dX12_nearer_5 ?_
  refine tp_i (v := 16) (by decide) ?_
  refine lv_iload_n hx hb dX12_nearer_6 rfl (lv_at hl 2 rfl) ?_
  refine lv_iadd hx hb dX12_nearer_7 ?_
  refine tp_i (v := 17) (by decide) ?_
  refine va_iald hx hb hK.1 hP 0 1 rfl rfl (by unfold vp_in; decide) dX12_nearer_8 ?_
  refine tp_i (v := 0) rfl ?_
  refine lv_icmp_ge (tgt := 21) hx hb dX12_nearer_9 (by decide) (fun _ => ?_) (fun h9 => absurd (by decide) h9)
  exact kr_v hx hb hr hlocks hP hD hS [(h0, .inl (ty 1, 256, .inl (upd (upd (upd (upd f0 0 0) 1 1000000) 16 1000000) 17 0)))] [0] (by decide) rfl rfl (by decide) (by decide) dX12_nearer_21
set_option maxHeartbeats 4000000 in
set_option maxRecDepth 100000 in
theorem c165_X12_nearer (l : Launch) (D : va_G) (ty : Nat → ClassId) (sz : Nat) (h0 : Nat) (f0 : Nat → Int32) : cQ l yX12_nearer cX12_nearer 4 none 0 0 [.ref h0, .int 0, .int 0, .int 2000000] D ty [(h0, .inl (ty 1, 256, .inl (upd (upd (upd (upd f0 0 0) 1 1000000) 16 1000000) 17 0)))] sz (qV (fun (u : va_W) => [(h0, .inl (ty 1, 256, .inl (upd (upd (upd (upd f0 0 0) 1 1000000) 16 1000000) 17 0)))] = u)) 0 0 := by
  refine cQ.of (by decide) (Nat.le_of_ble_eq_true rfl) (fun p e s m below meth c A ls C hsz hP hK hD hA hl => ?_)
  obtain ⟨hx, hb, hml, hown, hB, hr, hlocks, hin⟩ := C
  have hown : s.vm.findClass RX12 = some m.cls := hown
  have hS : va_S A s.heap s.heap [] := va_S.rf
  have hl : lv_has ls 4 [(0, .ref h0), (1, .int 0), (2, .int 0), (3, .int 2000000)] := hl
  refine lv_iload_n hx hb dX12_nearer_0 rfl (lv_at hl 3 rfl) ?_
  refine lv_aload_n hx hb dX12_nearer_1 rfl (lv_at hl 0 rfl) ?_
  refine lv_bipush (v := 16) hx hb dX12_nearer_2 (by decide) ?_
  refine lv_iload_n hx hb dX12_nearer_4 rfl (lv_at hl 1 rfl) ?_
  refine lv_imul hx hb dX12_nearer_5 ?_
  refine tp_i (v := 0) (by decide) ?_
  refine lv_iload_n hx hb dX12_nearer_6 rfl (lv_at hl 2 rfl) ?_
  refine lv_iadd hx hb dX12_nearer_7 ?_
  refine tp_i (v := 0) (by decide) ?_
  refine va_iald hx hb hK.1 hP 0 1 rfl rfl (by unfold vp_in; decide) dX12_nearer_8 ?_
  refine tp_i (v := 0) rfl ?_
  refine lv_icmp_ge (tgt := 21) hx hb dX12_nearer_9 (by decide) (fun _ => ?_) (fun h9 => absurd (by decide) h9)
  exact kr_v hx hb hr hlocks hP hD hS [(h0, .inl (ty 1, 256, .inl (upd (upd (upd (upd f0 0 0) 1 1000000) 16 1000000) 17 0)))] [0] (by decide) rfl rfl (by decide) (by decide) dX12_nearer_21
set_option maxHeartbeats 4000000 in
set_option maxRecDepth 100000 in
theorem c166_X12_nearer (l : Launch) (D : va_G) (ty : Nat → ClassId) (sz : Nat) (h0 : Nat) (f0 : Nat → Int32) : cQ l yX12_nearer cX12_nearer 4 none 0 0 [.ref h0, .int 1, .int 1, .int 0] D ty [(h0, .inl (ty 1, 256, .inl (upd (upd (upd (upd f0 0 0) 1 1000000) 16 1000000) 17 0)))] sz (qV (fun (u : va_W) => [(h0, .inl (ty 1, 256, .inl (upd (upd (upd (upd f0 0 0) 1 1000000) 16 1000000) 17 0)))] = u)) 0 0 := by
  refine cQ.of (by decide) (Nat.le_of_ble_eq_true rfl) (fun p e s m below meth c A ls C hsz hP hK hD hA hl => ?_)
  obtain ⟨hx, hb, hml, hown, hB, hr, hlocks, hin⟩ := C
  have hown : s.vm.findClass RX12 = some m.cls := hown
  have hS : va_S A s.heap s.heap [] := va_S.rf
  have hl : lv_has ls 4 [(0, .ref h0), (1, .int 1), (2, .int 1), (3, .int 0)] := hl
  refine lv_iload_n hx hb dX12_nearer_0 rfl (lv_at hl 3 rfl) ?_
  refine lv_aload_n hx hb dX12_nearer_1 rfl (lv_at hl 0 rfl) ?_
  refine lv_bipush (v := 16) hx hb dX12_nearer_2 (by decide) ?_
  refine lv_iload_n hx hb dX12_nearer_4 rfl (lv_at hl 1 rfl) ?_
  refine lv_imul hx hb dX12_nearer_5 ?_
  refine tp_i (v := 16) (by decide) ?_
  refine lv_iload_n hx hb dX12_nearer_6 rfl (lv_at hl 2 rfl) ?_
  refine lv_iadd hx hb dX12_nearer_7 ?_
  refine tp_i (v := 17) (by decide) ?_
  refine va_iald hx hb hK.1 hP 0 1 rfl rfl (by unfold vp_in; decide) dX12_nearer_8 ?_
  refine tp_i (v := 0) rfl ?_
  refine lv_icmp_ge (tgt := 21) hx hb dX12_nearer_9 (by decide) (fun _ => ?_) (fun h9 => absurd (by decide) h9)
  exact kr_v hx hb hr hlocks hP hD hS [(h0, .inl (ty 1, 256, .inl (upd (upd (upd (upd f0 0 0) 1 1000000) 16 1000000) 17 0)))] [0] (by decide) rfl rfl (by decide) (by decide) dX12_nearer_21
set_option maxHeartbeats 4000000 in
set_option maxRecDepth 100000 in
theorem c159_X12_measures (l : Launch) (D : va_G) (ty : Nat → ClassId) (sz : Nat) (h0 : Nat) (h1 : Nat) (h2 : Nat) (v0 : Value) (v1 : Value) (v2 : Value) (v3 : Value) (v4 : Value) (v5 : Value) (v6 : Value) (v7 : Value) (v8 : Value) (v9 : Value) (v10 : Value) (v11 : Value) (v12 : Value) (v13 : Value) (v14 : Value) (v15 : Value) (v16 : Value) (v17 : Value) (v18 : Value) (v19 : Value) (v20 : Value) (v21 : Value) (v22 : Value) (v23 : Value) (v24 : Value) (v25 : Value) (v26 : Value) (v27 : Value) (v28 : Value) (v29 : Value) (v30 : Value) (v31 : Value) (v32 : Value) (v33 : Value) (v34 : Value) (v35 : Value) (v36 : Value) (f0 : Nat → Int32) : cQ l yX12_measures cX12_measures 7 none 1 23 [.ref h0, .ref h2, .int 0] D ty [(h0, .inr (12, [v0, .ref h1, v1, v2, v3, v4, v5, v6, v7, v8, v9, v10, v11, v12, v13, v14, v15, v16, v17, v18, v19, v20, v21, v22, v23, v24, v25, v26, v27, v28, v29, v30, v31, v32, v33, v34, v35, v36])), (h1, .inl (ty 1, 304, .inl (upd (upd (kf 0) 1 2) 4 (-1)))), (h2, .inl (ty 1, 256, .inl f0))] sz (qV (fun (u : va_W) => [(h0, .inr (12, [v0, .ref h1, v1, v2, v3, v4, v5, v6, v7, v8, v9, v10, v11, v12, v13, v14, v15, v16, v17, v18, v19, v20, v21, v22, v23, v24, v25, v26, v27, v28, v29, v30, v31, v32, v33, v34, v35, v36])), (h1, .inl (ty 1, 304, .inl (upd (upd (kf 0) 1 2) 4 (-1)))), (h2, .inl (ty 1, 256, .inl (upd (upd (upd (upd f0 0 0) 1 1000000) 16 1000000) 17 0)))] = u)) 0 0 := by
  refine cQ.of (by decide) (Nat.le_of_ble_eq_true rfl) (fun p e s m below meth c A ls C hsz hP hK hD hA hl => ?_)
  obtain ⟨hx, hb, hml, hown, hB, hr, hlocks, hin⟩ := C
  have hown : s.vm.findClass RX12 = some m.cls := hown
  have hS : va_S A s.heap s.heap [] := va_S.rf
  have hl : lv_has ls 7 [(0, .ref h0), (1, .ref h2), (2, .int 0)] := hl
  refine lv_aload_n hx hb dX12_measures_0 rfl (lv_at hl 0 rfl) ?_
  refine kc_i (va_runV (As := []) (rest := []) ⟨hx, hb, hml, hown, hB⟩ (c160_X12_corners l D ty s.heap.size h0 h1 v0 v1 v2 v3 v4 v5 v6 v7 v8 v9 v10 v11 v12 v13 v14 v15 v16 v17 v18 v19 v20 v21 v22 v23 v24 v25 v26 v27 v28 v29 v30 v31 v32 v33 v34 v35 v36) (cwV 0 hB (bw_V mw_484 mw_485 mw_486 mw_211 mw_483) rfl rfl rfl (by decide +kernel) ⟨Nat.le_of_ble_eq_true rfl, Nat.le_of_ble_eq_true rfl⟩) (kp_V hK hP hD [0, 1] (by decide) rfl 0 rfl rfl rfl) rfl rfl hl.1 rfl (lv_room (Nat.le_of_ble_eq_true rfl)) dX12_measures_1 ⟨Nat.le_of_ble_eq_true rfl, Nat.le_of_ble_eq_true rfl⟩) hP hD hS hA [0, 1] [2] (wr := [(h2, .inl (ty 1, 256, .inl f0))]) rfl rfl (by decide) (by decide) (fun r u H locs w1 hP hD hS => ?_)
  obtain ⟨rfl, rfl⟩ := w1
  have hP : va_P D vwCl [(h2, .inl (ty 1, 256, .inl f0)), (h0, .inr (12, [v0, .ref h1, v1, v2, v3, v4, v5, v6, v7, v8, v9, v10, v11, v12, v13, v14, v15, v16, v17, v18, v19, v20, v21, v22, v23, v24, v25, v26, v27, v28, v29, v30, v31, v32, v33, v34, v35, v36])), (h1, .inl (ty 1, 304, .inl (upd (upd (kf 0) 1 2) 4 (-1))))] H := hP
  have hD : va_D A [(h2, .inl (ty 1, 256, .inl f0)), (h0, .inr (12, [v0, .ref h1, v1, v2, v3, v4, v5, v6, v7, v8, v9, v10, v11, v12, v13, v14, v15, v16, v17, v18, v19, v20, v21, v22, v23, v24, v25, v26, v27, v28, v29, v30, v31, v32, v33, v34, v35, v36])), (h1, .inl (ty 1, 304, .inl (upd (upd (kf 0) 1 2) 4 (-1))))] := hD
  refine lv_istore_n (lv' := [(3, .int 2), (0, .ref h0), (1, .ref h2), (2, .int 0)]) hx hb dX12_measures_4 rfl hl (by decide) rfl (fun ls hl => ?_)
  refine lv_iconst (v := 0) hx hb dX12_measures_5 (by decide) ?_
  refine lv_istore (lv' := [(4, .int 0), (3, .int 2), (0, .ref h0), (1, .ref h2), (2, .int 0)]) hx hb dX12_measures_6 hl (by decide) rfl (fun ls hl => ?_)
  refine lv_iload hx hb dX12_measures_8 (lv_at hl 0 rfl) ?_
  refine lv_iload_n hx hb dX12_measures_10 rfl (lv_at hl 1 rfl) ?_
  refine lv_icmp_ge (tgt := 58) hx hb dX12_measures_11 (by decide) (fun h9 => absurd h9 (by decide)) (fun _ => ?_)
  refine lv_iconst (v := 0) hx hb dX12_measures_14 (by decide) ?_
  refine lv_istore (lv' := [(5, .int 0), (4, .int 0), (3, .int 2), (0, .ref h0), (1, .ref h2), (2, .int 0)]) hx hb dX12_measures_15 hl (by decide) rfl (fun ls hl => ?_)
  refine lv_iload hx hb dX12_measures_17 (lv_at hl 0 rfl) ?_
  refine lv_iload_n hx hb dX12_measures_19 rfl (lv_at hl 2 rfl) ?_
  refine lv_icmp_ge (tgt := 52) hx hb dX12_measures_20 (by decide) (fun h9 => absurd h9 (by decide)) (fun _ => ?_)
  refine lv_aload_n hx hb dX12_measures_23 rfl (lv_at hl 4 rfl) ?_
  refine lv_bipush (v := 16) hx hb dX12_measures_24 (by decide) ?_
  refine lv_iload hx hb dX12_measures_26 (lv_at hl 1 rfl) ?_
  refine lv_imul hx hb dX12_measures_28 ?_
  refine tp_i (v := 0) (by decide) ?_
  refine lv_iload hx hb dX12_measures_29 (lv_at hl 0 rfl) ?_
  refine lv_iadd hx hb dX12_measures_31 ?_
  refine tp_i (v := 0) (by decide) ?_
  refine lv_iload hx hb dX12_measures_32 (lv_at hl 1 rfl) ?_
  refine lv_iload hx hb dX12_measures_34 (lv_at hl 0 rfl) ?_
  refine lv_icmp_ne (tgt := 43) hx hb dX12_measures_36 (by decide) (fun h9 => absurd (by decide) h9) (fun _ => ?_)
  refine lv_iconst (v := 0) hx hb dX12_measures_39 (by decide) ?_
  refine lv_goto (tgt := 45) hx hb dX12_measures_40 (by decide) ?_
  refine wy_iast hx hb hK hP hD hS 0 1 rfl rfl (by unfold vp_in; decide) dX12_measures_45 (j := 0) (by decide) (ws' := [(h2, .inl (ty 1, 256, .inl (upd f0 0 0))), (h0, .inr (12, [v0, .ref h1, v1, v2, v3, v4, v5, v6, v7, v8, v9, v10, v11, v12, v13, v14, v15, v16, v17, v18, v19, v20, v21, v22, v23, v24, v25, v26, v27, v28, v29, v30, v31, v32, v33, v34, v35, v36])), (h1, .inl (ty 1, 304, .inl (upd (upd (kf 0) 1 2) 4 (-1))))]) rfl (fun H locs hP hD hS => ?_)
  refine lv_iinc (v := 1) (lv' := [(5, .int 1), (4, .int 0), (3, .int 2), (0, .ref h0), (1, .ref h2), (2, .int 0)]) hx hb dX12_measures_46 hl (k := 0) rfl (by decide) (by decide) rfl (fun ls hl => ?_)
  refine lv_goto (tgt := 17) hx hb dX12_measures_49 (by decide) ?_
  refine lv_iload hx hb dX12_measures_17 (lv_at hl 0 rfl) ?_
  refine lv_iload_n hx hb dX12_measures_19 rfl (lv_at hl 2 rfl) ?_
  refine lv_icmp_ge (tgt := 52) hx hb dX12_measures_20 (by decide) (fun h9 => absurd h9 (by decide)) (fun _ => ?_)
  refine lv_aload_n hx hb dX12_measures_23 rfl (lv_at hl 4 rfl) ?_
  refine lv_bipush (v := 16) hx hb dX12_measures_24 (by decide) ?_
  refine lv_iload hx hb dX12_measures_26 (lv_at hl 1 rfl) ?_
  refine lv_imul hx hb dX12_measures_28 ?_
  refine tp_i (v := 0) (by decide) ?_
  refine lv_iload hx hb dX12_measures_29 (lv_at hl 0 rfl) ?_
  refine lv_iadd hx hb dX12_measures_31 ?_
  refine tp_i (v := 1) (by decide) ?_
  refine lv_iload hx hb dX12_measures_32 (lv_at hl 1 rfl) ?_
  refine lv_iload hx hb dX12_measures_34 (lv_at hl 0 rfl) ?_
  refine lv_icmp_ne (tgt := 43) hx hb dX12_measures_36 (by decide) (fun _ => ?_) (fun h9 => absurd h9 (by decide))
  refine lv_ldc hx hb hown (hB _ mw_487) dX12_measures_43 ?_
  refine wy_iast hx hb hK hP hD hS 0 1 rfl rfl (by unfold vp_in; decide) dX12_measures_45 (j := 1) (by decide) (ws' := [(h2, .inl (ty 1, 256, .inl (upd (upd f0 0 0) 1 1000000))), (h0, .inr (12, [v0, .ref h1, v1, v2, v3, v4, v5, v6, v7, v8, v9, v10, v11, v12, v13, v14, v15, v16, v17, v18, v19, v20, v21, v22, v23, v24, v25, v26, v27, v28, v29, v30, v31, v32, v33, v34, v35, v36])), (h1, .inl (ty 1, 304, .inl (upd (upd (kf 0) 1 2) 4 (-1))))]) rfl (fun H locs hP hD hS => ?_)
  refine lv_iinc (v := 2) (lv' := [(5, .int 2), (4, .int 0), (3, .int 2), (0, .ref h0), (1, .ref h2), (2, .int 0)]) hx hb dX12_measures_46 hl (k := 0) rfl (by decide) (by decide) rfl (fun ls hl => ?_)
  refine lv_goto (tgt := 17) hx hb dX12_measures_49 (by decide) ?_
  refine lv_iload hx hb dX12_measures_17 (lv_at hl 0 rfl) ?_
  refine lv_iload_n hx hb dX12_measures_19 rfl (lv_at hl 2 rfl) ?_
  refine lv_icmp_ge (tgt := 52) hx hb dX12_measures_20 (by decide) (fun _ => ?_) (fun h9 => absurd (by decide) h9)
  refine lv_iinc (v := 1) (lv' := [(4, .int 1), (5, .int 2), (3, .int 2), (0, .ref h0), (1, .ref h2), (2, .int 0)]) hx hb dX12_measures_52 hl (k := 1) rfl (by decide) (by decide) rfl (fun ls hl => ?_)
  refine lv_goto (tgt := 8) hx hb dX12_measures_55 (by decide) ?_
  refine lv_iload hx hb dX12_measures_8 (lv_at hl 0 rfl) ?_
  refine lv_iload_n hx hb dX12_measures_10 rfl (lv_at hl 2 rfl) ?_
  refine lv_icmp_ge (tgt := 58) hx hb dX12_measures_11 (by decide) (fun h9 => absurd h9 (by decide)) (fun _ => ?_)
  refine lv_iconst (v := 0) hx hb dX12_measures_14 (by decide) ?_
  refine lv_istore (lv' := [(5, .int 0), (4, .int 1), (3, .int 2), (0, .ref h0), (1, .ref h2), (2, .int 0)]) hx hb dX12_measures_15 hl (by decide) rfl (fun ls hl => ?_)
  refine lv_iload hx hb dX12_measures_17 (lv_at hl 0 rfl) ?_
  refine lv_iload_n hx hb dX12_measures_19 rfl (lv_at hl 2 rfl) ?_
  refine lv_icmp_ge (tgt := 52) hx hb dX12_measures_20 (by decide) (fun h9 => absurd h9 (by decide)) (fun _ => ?_)
  refine lv_aload_n hx hb dX12_measures_23 rfl (lv_at hl 4 rfl) ?_
  refine lv_bipush (v := 16) hx hb dX12_measures_24 (by decide) ?_
  refine lv_iload hx hb dX12_measures_26 (lv_at hl 1 rfl) ?_
  refine lv_imul hx hb dX12_measures_28 ?_
  refine tp_i (v := 16) (by decide) ?_
  refine lv_iload hx hb dX12_measures_29 (lv_at hl 0 rfl) ?_
  refine lv_iadd hx hb dX12_measures_31 ?_
  refine tp_i (v := 16) (by decide) ?_
  refine lv_iload hx hb dX12_measures_32 (lv_at hl 1 rfl) ?_
  refine lv_iload hx hb dX12_measures_34 (lv_at hl 0 rfl) ?_
  refine lv_icmp_ne (tgt := 43) hx hb dX12_measures_36 (by decide) (fun _ => ?_) (fun h9 => absurd h9 (by decide))
  refine lv_ldc hx hb hown (hB _ mw_487) dX12_measures_43 ?_
  refine wy_iast hx hb hK hP hD hS 0 1 rfl rfl (by unfold vp_in; decide) dX12_measures_45 (j := 16) (by decide) (ws' := [(h2, .inl (ty 1, 256, .inl (upd (upd (upd f0 0 0) 1 1000000) 16 1000000))), (h0, .inr (12, [v0, .ref h1, v1, v2, v3, v4, v5, v6, v7, v8, v9, v10, v11, v12, v13, v14, v15, v16, v17, v18, v19, v20, v21, v22, v23, v24, v25, v26, v27, v28, v29, v30, v31, v32, v33, v34, v35, v36])), (h1, .inl (ty 1, 304, .inl (upd (upd (kf 0) 1 2) 4 (-1))))]) rfl (fun H locs hP hD hS => ?_)
  refine lv_iinc (v := 1) (lv' := [(5, .int 1), (4, .int 1), (3, .int 2), (0, .ref h0), (1, .ref h2), (2, .int 0)]) hx hb dX12_measures_46 hl (k := 0) rfl (by decide) (by decide) rfl (fun ls hl => ?_)
  refine lv_goto (tgt := 17) hx hb dX12_measures_49 (by decide) ?_
  refine lv_iload hx hb dX12_measures_17 (lv_at hl 0 rfl) ?_
  refine lv_iload_n hx hb dX12_measures_19 rfl (lv_at hl 2 rfl) ?_
  refine lv_icmp_ge (tgt := 52) hx hb dX12_measures_20 (by decide) (fun h9 => absurd h9 (by decide)) (fun _ => ?_)
  refine lv_aload_n hx hb dX12_measures_23 rfl (lv_at hl 4 rfl) ?_
  refine lv_bipush (v := 16) hx hb dX12_measures_24 (by decide) ?_
  refine lv_iload hx hb dX12_measures_26 (lv_at hl 1 rfl) ?_
  refine lv_imul hx hb dX12_measures_28 ?_
  refine tp_i (v := 16) (by decide) ?_
  refine lv_iload hx hb dX12_measures_29 (lv_at hl 0 rfl) ?_
  refine lv_iadd hx hb dX12_measures_31 ?_
  refine tp_i (v := 17) (by decide) ?_
  refine lv_iload hx hb dX12_measures_32 (lv_at hl 1 rfl) ?_
  refine lv_iload hx hb dX12_measures_34 (lv_at hl 0 rfl) ?_
  refine lv_icmp_ne (tgt := 43) hx hb dX12_measures_36 (by decide) (fun h9 => absurd (by decide) h9) (fun _ => ?_)
  refine lv_iconst (v := 0) hx hb dX12_measures_39 (by decide) ?_
  refine lv_goto (tgt := 45) hx hb dX12_measures_40 (by decide) ?_
  refine wy_iast hx hb hK hP hD hS 0 1 rfl rfl (by unfold vp_in; decide) dX12_measures_45 (j := 17) (by decide) (ws' := [(h2, .inl (ty 1, 256, .inl (upd (upd (upd (upd f0 0 0) 1 1000000) 16 1000000) 17 0))), (h0, .inr (12, [v0, .ref h1, v1, v2, v3, v4, v5, v6, v7, v8, v9, v10, v11, v12, v13, v14, v15, v16, v17, v18, v19, v20, v21, v22, v23, v24, v25, v26, v27, v28, v29, v30, v31, v32, v33, v34, v35, v36])), (h1, .inl (ty 1, 304, .inl (upd (upd (kf 0) 1 2) 4 (-1))))]) rfl (fun H locs hP hD hS => ?_)
  refine lv_iinc (v := 2) (lv' := [(5, .int 2), (4, .int 1), (3, .int 2), (0, .ref h0), (1, .ref h2), (2, .int 0)]) hx hb dX12_measures_46 hl (k := 0) rfl (by decide) (by decide) rfl (fun ls hl => ?_)
  refine lv_goto (tgt := 17) hx hb dX12_measures_49 (by decide) ?_
  refine lv_iload hx hb dX12_measures_17 (lv_at hl 0 rfl) ?_
  refine lv_iload_n hx hb dX12_measures_19 rfl (lv_at hl 2 rfl) ?_
  refine lv_icmp_ge (tgt := 52) hx hb dX12_measures_20 (by decide) (fun _ => ?_) (fun h9 => absurd (by decide) h9)
  refine lv_iinc (v := 2) (lv' := [(4, .int 2), (5, .int 2), (3, .int 2), (0, .ref h0), (1, .ref h2), (2, .int 0)]) hx hb dX12_measures_52 hl (k := 1) rfl (by decide) (by decide) rfl (fun ls hl => ?_)
  refine lv_goto (tgt := 8) hx hb dX12_measures_55 (by decide) ?_
  refine lv_iload hx hb dX12_measures_8 (lv_at hl 0 rfl) ?_
  refine lv_iload_n hx hb dX12_measures_10 rfl (lv_at hl 2 rfl) ?_
  refine lv_icmp_ge (tgt := 58) hx hb dX12_measures_11 (by decide) (fun _ => ?_) (fun h9 => absurd (by decide) h9)
  refine lv_iconst (v := 0) hx hb dX12_measures_58 (by decide) ?_
  refine lv_istore (lv' := [(4, .int 0), (5, .int 2), (3, .int 2), (0, .ref h0), (1, .ref h2), (2, .int 0)]) hx hb dX12_measures_59 hl (by decide) rfl (fun ls hl => ?_)
  refine lv_iload hx hb dX12_measures_61 (lv_at hl 0 rfl) ?_
  refine lv_aload_n hx hb dX12_measures_63 rfl (lv_at hl 3 rfl) ?_
  refine kc_i (va_runV (As := []) (rest := [.int 0]) ⟨hx, hb, hml, hown, hB⟩ (c146_X12_alleys l D ty H.size h0 h1 v0 v1 v2 v3 v4 v5 v6 v7 v8 v9 v10 v11 v12 v13 v14 v15 v16 v17 v18 v19 v20 v21 v22 v23 v24 v25 v26 v27 v28 v29 v30 v31 v32 v33 v34 v35 v36) (cwV 0 hB (bw_V mw_465 mw_466 mw_467 mw_211 mw_464) rfl rfl rfl (by decide +kernel) ⟨Nat.le_of_ble_eq_true rfl, Nat.le_of_ble_eq_true rfl⟩) (kp_V hK hP hD [1, 2] (by decide) rfl 1 rfl rfl rfl) rfl rfl hl.1 rfl (lv_room (Nat.le_of_ble_eq_true rfl)) dX12_measures_64 ⟨Nat.le_of_ble_eq_true rfl, Nat.le_of_ble_eq_true rfl⟩) hP hD hS hA [1, 2] [0] (wr := [(h2, .inl (ty 1, 256, .inl (upd (upd (upd (upd f0 0 0) 1 1000000) 16 1000000) 17 0)))]) rfl rfl (by decide) (by decide) (fun r u H locs w2 hP hD hS => ?_)
  obtain ⟨rfl, rfl⟩ := w2
  have hP : va_P D vwCl [(h2, .inl (ty 1, 256, .inl (upd (upd (upd (upd f0 0 0) 1 1000000) 16 1000000) 17 0))), (h0, .inr (12, [v0, .ref h1, v1, v2, v3, v4, v5, v6, v7, v8, v9, v10, v11, v12, v13, v14, v15, v16, v17, v18, v19, v20, v21, v22, v23, v24, v25, v26, v27, v28, v29, v30, v31, v32, v33, v34, v35, v36])), (h1, .inl (ty 1, 304, .inl (upd (upd (kf 0) 1 2) 4 (-1))))] H := hP
  have hD : va_D A [(h2, .inl (ty 1, 256, .inl (upd (upd (upd (upd f0 0 0) 1 1000000) 16 1000000) 17 0))), (h0, .inr (12, [v0, .ref h1, v1, v2, v3, v4, v5, v6, v7, v8, v9, v10, v11, v12, v13, v14, v15, v16, v17, v18, v19, v20, v21, v22, v23, v24, v25, v26, v27, v28, v29, v30, v31, v32, v33, v34, v35, v36])), (h1, .inl (ty 1, 304, .inl (upd (upd (kf 0) 1 2) 4 (-1))))] := hD
  refine lv_icmp_ge (tgt := 156) hx hb dX12_measures_67 (by decide) (fun _ => ?_) (fun h9 => absurd (by decide) h9)
  refine lv_iconst (v := 0) hx hb dX12_measures_156 (by decide) ?_
  refine lv_istore (lv' := [(4, .int 0), (5, .int 2), (3, .int 2), (0, .ref h0), (1, .ref h2), (2, .int 0)]) hx hb dX12_measures_157 hl (by decide) rfl (fun ls hl => ?_)
  refine lv_iload hx hb dX12_measures_159 (lv_at hl 0 rfl) ?_
  refine lv_iload_n hx hb dX12_measures_161 rfl (lv_at hl 2 rfl) ?_
  refine lv_icmp_ge (tgt := 230) hx hb dX12_measures_162 (by decide) (fun h9 => absurd h9 (by decide)) (fun _ => ?_)
  refine lv_iconst (v := 0) hx hb dX12_measures_165 (by decide) ?_
  refine lv_istore (lv' := [(5, .int 0), (4, .int 0), (3, .int 2), (0, .ref h0), (1, .ref h2), (2, .int 0)]) hx hb dX12_measures_166 hl (by decide) rfl (fun ls hl => ?_)
  refine lv_iload hx hb dX12_measures_168 (lv_at hl 0 rfl) ?_
  refine lv_iload_n hx hb dX12_measures_170 rfl (lv_at hl 2 rfl) ?_
  refine lv_icmp_ge (tgt := 224) hx hb dX12_measures_171 (by decide) (fun h9 => absurd h9 (by decide)) (fun _ => ?_)
  refine lv_iconst (v := 0) hx hb dX12_measures_174 (by decide) ?_
  refine lv_istore (lv' := [(6, .int 0), (5, .int 0), (4, .int 0), (3, .int 2), (0, .ref h0), (1, .ref h2), (2, .int 0)]) hx hb dX12_measures_175 hl (by decide) rfl (fun ls hl => ?_)
  refine lv_iload hx hb dX12_measures_177 (lv_at hl 0 rfl) ?_
  refine lv_iload_n hx hb dX12_measures_179 rfl (lv_at hl 3 rfl) ?_
  refine lv_icmp_ge (tgt := 218) hx hb dX12_measures_180 (by decide) (fun h9 => absurd h9 (by decide)) (fun _ => ?_)
  refine lv_aload_n hx hb dX12_measures_183 rfl (lv_at hl 5 rfl) ?_
  refine lv_iload hx hb dX12_measures_184 (lv_at hl 1 rfl) ?_
  refine lv_iload hx hb dX12_measures_186 (lv_at hl 0 rfl) ?_
  refine lv_aload_n hx hb dX12_measures_188 rfl (lv_at hl 5 rfl) ?_
  refine lv_bipush (v := 16) hx hb dX12_measures_189 (by decide) ?_
  refine lv_iload hx hb dX12_measures_191 (lv_at hl 1 rfl) ?_
  refine lv_imul hx hb dX12_measures_193 ?_
  refine tp_i (v := 0) (by decide) ?_
  refine lv_iload hx hb dX12_measures_194 (lv_at hl 2 rfl) ?_
  refine lv_iadd hx hb dX12_measures_196 ?_
  refine tp_i (v := 0) (by decide) ?_
  refine va_iald hx hb hK.1 hP 0 1 rfl rfl (by unfold vp_in; decide) dX12_measures_197 ?_
  refine tp_i (v := 0) rfl ?_
  refine lv_aload_n hx hb dX12_measures_198 rfl (lv_at hl 5 rfl) ?_
  refine lv_bipush (v := 16) hx hb dX12_measures_199 (by decide) ?_
  refine lv_iload hx hb dX12_measures_201 (lv_at hl 2 rfl) ?_
  refine lv_imul hx hb dX12_measures_203 ?_
  refine tp_i (v := 0) (by decide) ?_
  refine lv_iload hx hb dX12_measures_204 (lv_at hl 0 rfl) ?_
  refine lv_iadd hx hb dX12_measures_206 ?_
  refine tp_i (v := 0) (by decide) ?_
  refine va_iald hx hb hK.1 hP 0 1 rfl rfl (by unfold vp_in; decide) dX12_measures_207 ?_
  refine tp_i (v := 0) rfl ?_
  refine lv_iadd hx hb dX12_measures_208 ?_
  refine tp_i (v := 0) (by decide) ?_
  refine kc_v (va_runS (As := [.ref h2, .int 0, .int 0, .int 0]) (rest := []) ⟨hx, hb, hml, hown, hB⟩ (c161_X12_nearer l D ty H.size h2 f0) (va_cwS 4 hB (bw_S mw_489 mw_490 mw_211 mw_488) rfl rfl rfl (by decide +kernel) ⟨Nat.le_of_ble_eq_true rfl, Nat.le_of_ble_eq_true rfl⟩) (kp_S hK hP hD [0] (by decide) rfl) rfl rfl hl.1 rfl (lv_room (Nat.le_of_ble_eq_true rfl)) dX12_measures_209 ⟨Nat.le_of_ble_eq_true rfl, Nat.le_of_ble_eq_true rfl⟩) hP hD hS hA [0] [1, 2] (wr := [(h0, .inr (12, [v0, .ref h1, v1, v2, v3, v4, v5, v6, v7, v8, v9, v10, v11, v12, v13, v14, v15, v16, v17, v18, v19, v20, v21, v22, v23, v24, v25, v26, v27, v28, v29, v30, v31, v32, v33, v34, v35, v36])), (h1, .inl (ty 1, 304, .inl (upd (upd (kf 0) 1 2) 4 (-1))))]) rfl rfl (by decide) (by decide) (fun u H locs w3 hP hD hS => ?_)
  subst w3
  have hP : va_P D vwCl [(h0, .inr (12, [v0, .ref h1, v1, v2, v3, v4, v5, v6, v7, v8, v9, v10, v11, v12, v13, v14, v15, v16, v17, v18, v19, v20, v21, v22, v23, v24, v25, v26, v27, v28, v29, v30, v31, v32, v33, v34, v35, v36])), (h1, .inl (ty 1, 304, .inl (upd (upd (kf 0) 1 2) 4 (-1)))), (h2, .inl (ty 1, 256, .inl (upd (upd (upd (upd f0 0 0) 1 1000000) 16 1000000) 17 0)))] H := hP
  have hD : va_D A [(h0, .inr (12, [v0, .ref h1, v1, v2, v3, v4, v5, v6, v7, v8, v9, v10, v11, v12, v13, v14, v15, v16, v17, v18, v19, v20, v21, v22, v23, v24, v25, v26, v27, v28, v29, v30, v31, v32, v33, v34, v35, v36])), (h1, .inl (ty 1, 304, .inl (upd (upd (kf 0) 1 2) 4 (-1)))), (h2, .inl (ty 1, 256, .inl (upd (upd (upd (upd f0 0 0) 1 1000000) 16 1000000) 17 0)))] := hD
  refine lv_iinc (v := 1) (lv' := [(6, .int 1), (5, .int 0), (4, .int 0), (3, .int 2), (0, .ref h0), (1, .ref h2), (2, .int 0)]) hx hb dX12_measures_212 hl (k := 0) rfl (by decide) (by decide) rfl (fun ls hl => ?_)
  refine lv_goto (tgt := 177) hx hb dX12_measures_215 (by decide) ?_
  refine lv_iload hx hb dX12_measures_177 (lv_at hl 0 rfl) ?_
  refine lv_iload_n hx hb dX12_measures_179 rfl (lv_at hl 3 rfl) ?_
  refine lv_icmp_ge (tgt := 218) hx hb dX12_measures_180 (by decide) (fun h9 => absurd h9 (by decide)) (fun _ => ?_)
  refine lv_aload_n hx hb dX12_measures_183 rfl (lv_at hl 5 rfl) ?_
  refine lv_iload hx hb dX12_measures_184 (lv_at hl 1 rfl) ?_
  refine lv_iload hx hb dX12_measures_186 (lv_at hl 0 rfl) ?_
  refine lv_aload_n hx hb dX12_measures_188 rfl (lv_at hl 5 rfl) ?_
  refine lv_bipush (v := 16) hx hb dX12_measures_189 (by decide) ?_
  refine lv_iload hx hb dX12_measures_191 (lv_at hl 1 rfl) ?_
  refine lv_imul hx hb dX12_measures_193 ?_
  refine tp_i (v := 0) (by decide) ?_
  refine lv_iload hx hb dX12_measures_194 (lv_at hl 2 rfl) ?_
  refine lv_iadd hx hb dX12_measures_196 ?_
  refine tp_i (v := 0) (by decide) ?_
  refine va_iald hx hb hK.1 hP 2 1 rfl rfl (by unfold vp_in; decide) dX12_measures_197 ?_
  refine tp_i (v := 0) rfl ?_
  refine lv_aload_n hx hb dX12_measures_198 rfl (lv_at hl 5 rfl) ?_
  refine lv_bipush (v := 16) hx hb dX12_measures_199 (by decide) ?_
  refine lv_iload hx hb dX12_measures_201 (lv_at hl 2 rfl) ?_
  refine lv_imul hx hb dX12_measures_203 ?_
  refine tp_i (v := 0) (by decide) ?_
  refine lv_iload hx hb dX12_measures_204 (lv_at hl 0 rfl) ?_
  refine lv_iadd hx hb dX12_measures_206 ?_
  refine tp_i (v := 1) (by decide) ?_
  refine va_iald hx hb hK.1 hP 2 1 rfl rfl (by unfold vp_in; decide) dX12_measures_207 ?_
  refine tp_i (v := 1000000) rfl ?_
  refine lv_iadd hx hb dX12_measures_208 ?_
  refine tp_i (v := 1000000) (by decide) ?_
  refine kc_v (va_runS (As := [.ref h2, .int 0, .int 1, .int 1000000]) (rest := []) ⟨hx, hb, hml, hown, hB⟩ (c162_X12_nearer l D ty H.size h2 f0) (va_cwS 4 hB (bw_S mw_489 mw_490 mw_211 mw_488) rfl rfl rfl (by decide +kernel) ⟨Nat.le_of_ble_eq_true rfl, Nat.le_of_ble_eq_true rfl⟩) (kp_S hK hP hD [2] (by decide) rfl) rfl rfl hl.1 rfl (lv_room (Nat.le_of_ble_eq_true rfl)) dX12_measures_209 ⟨Nat.le_of_ble_eq_true rfl, Nat.le_of_ble_eq_true rfl⟩) hP hD hS hA [2] [0, 1] (wr := [(h0, .inr (12, [v0, .ref h1, v1, v2, v3, v4, v5, v6, v7, v8, v9, v10, v11, v12, v13, v14, v15, v16, v17, v18, v19, v20, v21, v22, v23, v24, v25, v26, v27, v28, v29, v30, v31, v32, v33, v34, v35, v36])), (h1, .inl (ty 1, 304, .inl (upd (upd (kf 0) 1 2) 4 (-1))))]) rfl rfl (by decide) (by decide) (fun u H locs w4 hP hD hS => ?_)
  subst w4
  have hP : va_P D vwCl [(h0, .inr (12, [v0, .ref h1, v1, v2, v3, v4, v5, v6, v7, v8, v9, v10, v11, v12, v13, v14, v15, v16, v17, v18, v19, v20, v21, v22, v23, v24, v25, v26, v27, v28, v29, v30, v31, v32, v33, v34, v35, v36])), (h1, .inl (ty 1, 304, .inl (upd (upd (kf 0) 1 2) 4 (-1)))), (h2, .inl (ty 1, 256, .inl (upd (upd (upd (upd f0 0 0) 1 1000000) 16 1000000) 17 0)))] H := hP
  have hD : va_D A [(h0, .inr (12, [v0, .ref h1, v1, v2, v3, v4, v5, v6, v7, v8, v9, v10, v11, v12, v13, v14, v15, v16, v17, v18, v19, v20, v21, v22, v23, v24, v25, v26, v27, v28, v29, v30, v31, v32, v33, v34, v35, v36])), (h1, .inl (ty 1, 304, .inl (upd (upd (kf 0) 1 2) 4 (-1)))), (h2, .inl (ty 1, 256, .inl (upd (upd (upd (upd f0 0 0) 1 1000000) 16 1000000) 17 0)))] := hD
  refine lv_iinc (v := 2) (lv' := [(6, .int 2), (5, .int 0), (4, .int 0), (3, .int 2), (0, .ref h0), (1, .ref h2), (2, .int 0)]) hx hb dX12_measures_212 hl (k := 0) rfl (by decide) (by decide) rfl (fun ls hl => ?_)
  refine lv_goto (tgt := 177) hx hb dX12_measures_215 (by decide) ?_
  refine lv_iload hx hb dX12_measures_177 (lv_at hl 0 rfl) ?_
  refine lv_iload_n hx hb dX12_measures_179 rfl (lv_at hl 3 rfl) ?_
  refine lv_icmp_ge (tgt := 218) hx hb dX12_measures_180 (by decide) (fun _ => ?_) (fun h9 => absurd (by decide) h9)
  refine lv_iinc (v := 1) (lv' := [(5, .int 1), (6, .int 2), (4, .int 0), (3, .int 2), (0, .ref h0), (1, .ref h2), (2, .int 0)]) hx hb dX12_measures_218 hl (k := 1) rfl (by decide) (by decide) rfl (fun ls hl => ?_)
  refine lv_goto (tgt := 168) hx hb dX12_measures_221 (by decide) ?_
  refine lv_iload hx hb dX12_measures_168 (lv_at hl 0 rfl) ?_
  refine lv_iload_n hx hb dX12_measures_170 rfl (lv_at hl 3 rfl) ?_
  refine lv_icmp_ge (tgt := 224) hx hb dX12_measures_171 (by decide) (fun h9 => absurd h9 (by decide)) (fun _ => ?_)
  refine lv_iconst (v := 0) hx hb dX12_measures_174 (by decide) ?_
  refine lv_istore (lv' := [(6, .int 0), (5, .int 1), (4, .int 0), (3, .int 2), (0, .ref h0), (1, .ref h2), (2, .int 0)]) hx hb dX12_measures_175 hl (by decide) rfl (fun ls hl => ?_)
  refine lv_iload hx hb dX12_measures_177 (lv_at hl 0 rfl) ?_
  refine lv_iload_n hx hb dX12_measures_179 rfl (lv_at hl 3 rfl) ?_
  refine lv_icmp_ge (tgt := 218) hx hb dX12_measures_180 (by decide) (fun h9 => absurd h9 (by decide)) (fun _ => ?_)
  refine lv_aload_n hx hb dX12_measures_183 rfl (lv_at hl 5 rfl) ?_
  refine lv_iload hx hb dX12_measures_184 (lv_at hl 1 rfl) ?_
  refine lv_iload hx hb dX12_measures_186 (lv_at hl 0 rfl) ?_
  refine lv_aload_n hx hb dX12_measures_188 rfl (lv_at hl 5 rfl) ?_
  refine lv_bipush (v := 16) hx hb dX12_measures_189 (by decide) ?_
  refine lv_iload hx hb dX12_measures_191 (lv_at hl 1 rfl) ?_
  refine lv_imul hx hb dX12_measures_193 ?_
  refine tp_i (v := 16) (by decide) ?_
  refine lv_iload hx hb dX12_measures_194 (lv_at hl 2 rfl) ?_
  refine lv_iadd hx hb dX12_measures_196 ?_
  refine tp_i (v := 16) (by decide) ?_
  refine va_iald hx hb hK.1 hP 2 1 rfl rfl (by unfold vp_in; decide) dX12_measures_197 ?_
  refine tp_i (v := 1000000) rfl ?_
  refine lv_aload_n hx hb dX12_measures_198 rfl (lv_at hl 5 rfl) ?_
  refine lv_bipush (v := 16) hx hb dX12_measures_199 (by decide) ?_
  refine lv_iload hx hb dX12_measures_201 (lv_at hl 2 rfl) ?_
  refine lv_imul hx hb dX12_measures_203 ?_
  refine tp_i (v := 0) (by decide) ?_
  refine lv_iload hx hb dX12_measures_204 (lv_at hl 0 rfl) ?_
  refine lv_iadd hx hb dX12_measures_206 ?_
  refine tp_i (v := 0) (by decide) ?_
  refine va_iald hx hb hK.1 hP 2 1 rfl rfl (by unfold vp_in; decide) dX12_measures_207 ?_
  refine tp_i (v := 0) rfl ?_
  refine lv_iadd hx hb dX12_measures_208 ?_
  refine tp_i (v := 1000000) (by decide) ?_
  refine kc_v (va_runS (As := [.ref h2, .int 1, .int 0, .int 1000000]) (rest := []) ⟨hx, hb, hml, hown, hB⟩ (c163_X12_nearer l D ty H.size h2 f0) (va_cwS 4 hB (bw_S mw_489 mw_490 mw_211 mw_488) rfl rfl rfl (by decide +kernel) ⟨Nat.le_of_ble_eq_true rfl, Nat.le_of_ble_eq_true rfl⟩) (kp_S hK hP hD [2] (by decide) rfl) rfl rfl hl.1 rfl (lv_room (Nat.le_of_ble_eq_true rfl)) dX12_measures_209 ⟨Nat.le_of_ble_eq_true rfl, Nat.le_of_ble_eq_true rfl⟩) hP hD hS hA [2] [0, 1] (wr := [(h0, .inr (12, [v0, .ref h1, v1, v2, v3, v4, v5, v6, v7, v8, v9, v10, v11, v12, v13, v14, v15, v16, v17, v18, v19, v20, v21, v22, v23, v24, v25, v26, v27, v28, v29, v30, v31, v32, v33, v34, v35, v36])), (h1, .inl (ty 1, 304, .inl (upd (upd (kf 0) 1 2) 4 (-1))))]) rfl rfl (by decide) (by decide) (fun u H locs w5 hP hD hS => ?_)
  subst w5
  have hP : va_P D vwCl [(h0, .inr (12, [v0, .ref h1, v1, v2, v3, v4, v5, v6, v7, v8, v9, v10, v11, v12, v13, v14, v15, v16, v17, v18, v19, v20, v21, v22, v23, v24, v25, v26, v27, v28, v29, v30, v31, v32, v33, v34, v35, v36])), (h1, .inl (ty 1, 304, .inl (upd (upd (kf 0) 1 2) 4 (-1)))), (h2, .inl (ty 1, 256, .inl (upd (upd (upd (upd f0 0 0) 1 1000000) 16 1000000) 17 0)))] H := hP
  have hD : va_D A [(h0, .inr (12, [v0, .ref h1, v1, v2, v3, v4, v5, v6, v7, v8, v9, v10, v11, v12, v13, v14, v15, v16, v17, v18, v19, v20, v21, v22, v23, v24, v25, v26, v27, v28, v29, v30, v31, v32, v33, v34, v35, v36])), (h1, .inl (ty 1, 304, .inl (upd (upd (kf 0) 1 2) 4 (-1)))), (h2, .inl (ty 1, 256, .inl (upd (upd (upd (upd f0 0 0) 1 1000000) 16 1000000) 17 0)))] := hD
  refine lv_iinc (v := 1) (lv' := [(6, .int 1), (5, .int 1), (4, .int 0), (3, .int 2), (0, .ref h0), (1, .ref h2), (2, .int 0)]) hx hb dX12_measures_212 hl (k := 0) rfl (by decide) (by decide) rfl (fun ls hl => ?_)
  refine lv_goto (tgt := 177) hx hb dX12_measures_215 (by decide) ?_
  refine lv_iload hx hb dX12_measures_177 (lv_at hl 0 rfl) ?_
  refine lv_iload_n hx hb dX12_measures_179 rfl (lv_at hl 3 rfl) ?_
  refine lv_icmp_ge (tgt := 218) hx hb dX12_measures_180 (by decide) (fun h9 => absurd h9 (by decide)) (fun _ => ?_)
  refine lv_aload_n hx hb dX12_measures_183 rfl (lv_at hl 5 rfl) ?_
  refine lv_iload hx hb dX12_measures_184 (lv_at hl 1 rfl) ?_
  refine lv_iload hx hb dX12_measures_186 (lv_at hl 0 rfl) ?_
  refine lv_aload_n hx hb dX12_measures_188 rfl (lv_at hl 5 rfl) ?_
  refine lv_bipush (v := 16) hx hb dX12_measures_189 (by decide) ?_
  refine lv_iload hx hb dX12_measures_191 (lv_at hl 1 rfl) ?_
  refine lv_imul hx hb dX12_measures_193 ?_
  refine tp_i (v := 16) (by decide) ?_
  refine lv_iload hx hb dX12_measures_194 (lv_at hl 2 rfl) ?_
  refine lv_iadd hx hb dX12_measures_196 ?_
  refine tp_i (v := 16) (by decide) ?_
  refine va_iald hx hb hK.1 hP 2 1 rfl rfl (by unfold vp_in; decide) dX12_measures_197 ?_
  refine tp_i (v := 1000000) rfl ?_
  refine lv_aload_n hx hb dX12_measures_198 rfl (lv_at hl 5 rfl) ?_
  refine lv_bipush (v := 16) hx hb dX12_measures_199 (by decide) ?_
  refine lv_iload hx hb dX12_measures_201 (lv_at hl 2 rfl) ?_
  refine lv_imul hx hb dX12_measures_203 ?_
  refine tp_i (v := 0) (by decide) ?_
  refine lv_iload hx hb dX12_measures_204 (lv_at hl 0 rfl) ?_
  refine lv_iadd hx hb dX12_measures_206 ?_
  refine tp_i (v := 1) (by decide) ?_
  refine va_iald hx hb hK.1 hP 2 1 rfl rfl (by unfold vp_in; decide) dX12_measures_207 ?_
  refine tp_i (v := 1000000) rfl ?_
  refine lv_iadd hx hb dX12_measures_208 ?_
  refine tp_i (v := 2000000) (by decide) ?_
  refine kc_v (va_runS (As := [.ref h2, .int 1, .int 1, .int 2000000]) (rest := []) ⟨hx, hb, hml, hown, hB⟩ (c164_X12_nearer l D ty H.size h2 f0) (va_cwS 4 hB (bw_S mw_489 mw_490 mw_211 mw_488) rfl rfl rfl (by decide +kernel) ⟨Nat.le_of_ble_eq_true rfl, Nat.le_of_ble_eq_true rfl⟩) (kp_S hK hP hD [2] (by decide) rfl) rfl rfl hl.1 rfl (lv_room (Nat.le_of_ble_eq_true rfl)) dX12_measures_209 ⟨Nat.le_of_ble_eq_true rfl, Nat.le_of_ble_eq_true rfl⟩) hP hD hS hA [2] [0, 1] (wr := [(h0, .inr (12, [v0, .ref h1, v1, v2, v3, v4, v5, v6, v7, v8, v9, v10, v11, v12, v13, v14, v15, v16, v17, v18, v19, v20, v21, v22, v23, v24, v25, v26, v27, v28, v29, v30, v31, v32, v33, v34, v35, v36])), (h1, .inl (ty 1, 304, .inl (upd (upd (kf 0) 1 2) 4 (-1))))]) rfl rfl (by decide) (by decide) (fun u H locs w6 hP hD hS => ?_)
  subst w6
  have hP : va_P D vwCl [(h0, .inr (12, [v0, .ref h1, v1, v2, v3, v4, v5, v6, v7, v8, v9, v10, v11, v12, v13, v14, v15, v16, v17, v18, v19, v20, v21, v22, v23, v24, v25, v26, v27, v28, v29, v30, v31, v32, v33, v34, v35, v36])), (h1, .inl (ty 1, 304, .inl (upd (upd (kf 0) 1 2) 4 (-1)))), (h2, .inl (ty 1, 256, .inl (upd (upd (upd (upd f0 0 0) 1 1000000) 16 1000000) 17 0)))] H := hP
  have hD : va_D A [(h0, .inr (12, [v0, .ref h1, v1, v2, v3, v4, v5, v6, v7, v8, v9, v10, v11, v12, v13, v14, v15, v16, v17, v18, v19, v20, v21, v22, v23, v24, v25, v26, v27, v28, v29, v30, v31, v32, v33, v34, v35, v36])), (h1, .inl (ty 1, 304, .inl (upd (upd (kf 0) 1 2) 4 (-1)))), (h2, .inl (ty 1, 256, .inl (upd (upd (upd (upd f0 0 0) 1 1000000) 16 1000000) 17 0)))] := hD
  refine lv_iinc (v := 2) (lv' := [(6, .int 2), (5, .int 1), (4, .int 0), (3, .int 2), (0, .ref h0), (1, .ref h2), (2, .int 0)]) hx hb dX12_measures_212 hl (k := 0) rfl (by decide) (by decide) rfl (fun ls hl => ?_)
  refine lv_goto (tgt := 177) hx hb dX12_measures_215 (by decide) ?_
  refine lv_iload hx hb dX12_measures_177 (lv_at hl 0 rfl) ?_
  refine lv_iload_n hx hb dX12_measures_179 rfl (lv_at hl 3 rfl) ?_
  refine lv_icmp_ge (tgt := 218) hx hb dX12_measures_180 (by decide) (fun _ => ?_) (fun h9 => absurd (by decide) h9)
  refine lv_iinc (v := 2) (lv' := [(5, .int 2), (6, .int 2), (4, .int 0), (3, .int 2), (0, .ref h0), (1, .ref h2), (2, .int 0)]) hx hb dX12_measures_218 hl (k := 1) rfl (by decide) (by decide) rfl (fun ls hl => ?_)
  refine lv_goto (tgt := 168) hx hb dX12_measures_221 (by decide) ?_
  refine lv_iload hx hb dX12_measures_168 (lv_at hl 0 rfl) ?_
  refine lv_iload_n hx hb dX12_measures_170 rfl (lv_at hl 3 rfl) ?_
  refine lv_icmp_ge (tgt := 224) hx hb dX12_measures_171 (by decide) (fun _ => ?_) (fun h9 => absurd (by decide) h9)
  refine lv_iinc (v := 1) (lv' := [(4, .int 1), (5, .int 2), (6, .int 2), (3, .int 2), (0, .ref h0), (1, .ref h2), (2, .int 0)]) hx hb dX12_measures_224 hl (k := 2) rfl (by decide) (by decide) rfl (fun ls hl => ?_)
  refine lv_goto (tgt := 159) hx hb dX12_measures_227 (by decide) ?_
  refine lv_iload hx hb dX12_measures_159 (lv_at hl 0 rfl) ?_
  refine lv_iload_n hx hb dX12_measures_161 rfl (lv_at hl 3 rfl) ?_
  refine lv_icmp_ge (tgt := 230) hx hb dX12_measures_162 (by decide) (fun h9 => absurd h9 (by decide)) (fun _ => ?_)
  refine lv_iconst (v := 0) hx hb dX12_measures_165 (by decide) ?_
  refine lv_istore (lv' := [(5, .int 0), (4, .int 1), (6, .int 2), (3, .int 2), (0, .ref h0), (1, .ref h2), (2, .int 0)]) hx hb dX12_measures_166 hl (by decide) rfl (fun ls hl => ?_)
  refine lv_iload hx hb dX12_measures_168 (lv_at hl 0 rfl) ?_
  refine lv_iload_n hx hb dX12_measures_170 rfl (lv_at hl 3 rfl) ?_
  refine lv_icmp_ge (tgt := 224) hx hb dX12_measures_171 (by decide) (fun h9 => absurd h9 (by decide)) (fun _ => ?_)
  refine lv_iconst (v := 0) hx hb dX12_measures_174 (by decide) ?_
  refine lv_istore (lv' := [(6, .int 0), (5, .int 0), (4, .int 1), (3, .int 2), (0, .ref h0), (1, .ref h2), (2, .int 0)]) hx hb dX12_measures_175 hl (by decide) rfl (fun ls hl => ?_)
  refine lv_iload hx hb dX12_measures_177 (lv_at hl 0 rfl) ?_
  refine lv_iload_n hx hb dX12_measures_179 rfl (lv_at hl 3 rfl) ?_
  refine lv_icmp_ge (tgt := 218) hx hb dX12_measures_180 (by decide) (fun h9 => absurd h9 (by decide)) (fun _ => ?_)
  refine lv_aload_n hx hb dX12_measures_183 rfl (lv_at hl 5 rfl) ?_
  refine lv_iload hx hb dX12_measures_184 (lv_at hl 1 rfl) ?_
  refine lv_iload hx hb dX12_measures_186 (lv_at hl 0 rfl) ?_
  refine lv_aload_n hx hb dX12_measures_188 rfl (lv_at hl 5 rfl) ?_
  refine lv_bipush (v := 16) hx hb dX12_measures_189 (by decide) ?_
  refine lv_iload hx hb dX12_measures_191 (lv_at hl 1 rfl) ?_
  refine lv_imul hx hb dX12_measures_193 ?_
  refine tp_i (v := 0) (by decide) ?_
  refine lv_iload hx hb dX12_measures_194 (lv_at hl 2 rfl) ?_
  refine lv_iadd hx hb dX12_measures_196 ?_
  refine tp_i (v := 1) (by decide) ?_
  refine va_iald hx hb hK.1 hP 2 1 rfl rfl (by unfold vp_in; decide) dX12_measures_197 ?_
  refine tp_i (v := 1000000) rfl ?_
  refine lv_aload_n hx hb dX12_measures_198 rfl (lv_at hl 5 rfl) ?_
  refine lv_bipush (v := 16) hx hb dX12_measures_199 (by decide) ?_
  refine lv_iload hx hb dX12_measures_201 (lv_at hl 2 rfl) ?_
  refine lv_imul hx hb dX12_measures_203 ?_
  refine tp_i (v := 16) (by decide) ?_
  refine lv_iload hx hb dX12_measures_204 (lv_at hl 0 rfl) ?_
  refine lv_iadd hx hb dX12_measures_206 ?_
  refine tp_i (v := 16) (by decide) ?_
  refine va_iald hx hb hK.1 hP 2 1 rfl rfl (by unfold vp_in; decide) dX12_measures_207 ?_
  refine tp_i (v := 1000000) rfl ?_
  refine lv_iadd hx hb dX12_measures_208 ?_
  refine tp_i (v := 2000000) (by decide) ?_
  refine kc_v (va_runS (As := [.ref h2, .int 0, .int 0, .int 2000000]) (rest := []) ⟨hx, hb, hml, hown, hB⟩ (c165_X12_nearer l D ty H.size h2 f0) (va_cwS 4 hB (bw_S mw_489 mw_490 mw_211 mw_488) rfl rfl rfl (by decide +kernel) ⟨Nat.le_of_ble_eq_true rfl, Nat.le_of_ble_eq_true rfl⟩) (kp_S hK hP hD [2] (by decide) rfl) rfl rfl hl.1 rfl (lv_room (Nat.le_of_ble_eq_true rfl)) dX12_measures_209 ⟨Nat.le_of_ble_eq_true rfl, Nat.le_of_ble_eq_true rfl⟩) hP hD hS hA [2] [0, 1] (wr := [(h0, .inr (12, [v0, .ref h1, v1, v2, v3, v4, v5, v6, v7, v8, v9, v10, v11, v12, v13, v14, v15, v16, v17, v18, v19, v20, v21, v22, v23, v24, v25, v26, v27, v28, v29, v30, v31, v32, v33, v34, v35, v36])), (h1, .inl (ty 1, 304, .inl (upd (upd (kf 0) 1 2) 4 (-1))))]) rfl rfl (by decide) (by decide) (fun u H locs w7 hP hD hS => ?_)
  subst w7
  have hP : va_P D vwCl [(h0, .inr (12, [v0, .ref h1, v1, v2, v3, v4, v5, v6, v7, v8, v9, v10, v11, v12, v13, v14, v15, v16, v17, v18, v19, v20, v21, v22, v23, v24, v25, v26, v27, v28, v29, v30, v31, v32, v33, v34, v35, v36])), (h1, .inl (ty 1, 304, .inl (upd (upd (kf 0) 1 2) 4 (-1)))), (h2, .inl (ty 1, 256, .inl (upd (upd (upd (upd f0 0 0) 1 1000000) 16 1000000) 17 0)))] H := hP
  have hD : va_D A [(h0, .inr (12, [v0, .ref h1, v1, v2, v3, v4, v5, v6, v7, v8, v9, v10, v11, v12, v13, v14, v15, v16, v17, v18, v19, v20, v21, v22, v23, v24, v25, v26, v27, v28, v29, v30, v31, v32, v33, v34, v35, v36])), (h1, .inl (ty 1, 304, .inl (upd (upd (kf 0) 1 2) 4 (-1)))), (h2, .inl (ty 1, 256, .inl (upd (upd (upd (upd f0 0 0) 1 1000000) 16 1000000) 17 0)))] := hD
  refine lv_iinc (v := 1) (lv' := [(6, .int 1), (5, .int 0), (4, .int 1), (3, .int 2), (0, .ref h0), (1, .ref h2), (2, .int 0)]) hx hb dX12_measures_212 hl (k := 0) rfl (by decide) (by decide) rfl (fun ls hl => ?_)
  refine lv_goto (tgt := 177) hx hb dX12_measures_215 (by decide) ?_
  refine lv_iload hx hb dX12_measures_177 (lv_at hl 0 rfl) ?_
  refine lv_iload_n hx hb dX12_measures_179 rfl (lv_at hl 3 rfl) ?_
  refine lv_icmp_ge (tgt := 218) hx hb dX12_measures_180 (by decide) (fun h9 => absurd h9 (by decide)) (fun _ => ?_)
  refine lv_aload_n hx hb dX12_measures_183 rfl (lv_at hl 5 rfl) ?_
  refine lv_iload hx hb dX12_measures_184 (lv_at hl 1 rfl) ?_
  refine lv_iload hx hb dX12_measures_186 (lv_at hl 0 rfl) ?_
  refine lv_aload_n hx hb dX12_measures_188 rfl (lv_at hl 5 rfl) ?_
  refine lv_bipush (v := 16) hx hb dX12_measures_189 (by decide) ?_
  refine lv_iload hx hb dX12_measures_191 (lv_at hl 1 rfl) ?_
  refine lv_imul hx hb dX12_measures_193 ?_
  refine tp_i (v := 0) (by decide) ?_
  refine lv_iload hx hb dX12_measures_194 (lv_at hl 2 rfl) ?_
  refine lv_iadd hx hb dX12_measures_196 ?_
  refine tp_i (v := 1) (by decide) ?_
  refine va_iald hx hb hK.1 hP 2 1 rfl rfl (by unfold vp_in; decide) dX12_measures_197 ?_
  refine tp_i (v := 1000000) rfl ?_
  refine lv_aload_n hx hb dX12_measures_198 rfl (lv_at hl 5 rfl) ?_
  refine lv_bipush (v := 16) hx hb dX12_measures_199 (by decide) ?_
  refine lv_iload hx hb dX12_measures_201 (lv_at hl 2 rfl) ?_
  refine lv_imul hx hb dX12_measures_203 ?_
  refine tp_i (v := 16) (by decide) ?_
  refine lv_iload hx hb dX12_measures_204 (lv_at hl 0 rfl) ?_
  refine lv_iadd hx hb dX12_measures_206 ?_
  refine tp_i (v := 17) (by decide) ?_
  refine va_iald hx hb hK.1 hP 2 1 rfl rfl (by unfold vp_in; decide) dX12_measures_207 ?_
  refine tp_i (v := 0) rfl ?_
  refine lv_iadd hx hb dX12_measures_208 ?_
  refine tp_i (v := 1000000) (by decide) ?_
  refine kc_v (va_runS (As := [.ref h2, .int 0, .int 1, .int 1000000]) (rest := []) ⟨hx, hb, hml, hown, hB⟩ (c162_X12_nearer l D ty H.size h2 f0) (va_cwS 4 hB (bw_S mw_489 mw_490 mw_211 mw_488) rfl rfl rfl (by decide +kernel) ⟨Nat.le_of_ble_eq_true rfl, Nat.le_of_ble_eq_true rfl⟩) (kp_S hK hP hD [2] (by decide) rfl) rfl rfl hl.1 rfl (lv_room (Nat.le_of_ble_eq_true rfl)) dX12_measures_209 ⟨Nat.le_of_ble_eq_true rfl, Nat.le_of_ble_eq_true rfl⟩) hP hD hS hA [2] [0, 1] (wr := [(h0, .inr (12, [v0, .ref h1, v1, v2, v3, v4, v5, v6, v7, v8, v9, v10, v11, v12, v13, v14, v15, v16, v17, v18, v19, v20, v21, v22, v23, v24, v25, v26, v27, v28, v29, v30, v31, v32, v33, v34, v35, v36])), (h1, .inl (ty 1, 304, .inl (upd (upd (kf 0) 1 2) 4 (-1))))]) rfl rfl (by decide) (by decide) (fun u H locs w8 hP hD hS => ?_)
  subst w8
  have hP : va_P D vwCl [(h0, .inr (12, [v0, .ref h1, v1, v2, v3, v4, v5, v6, v7, v8, v9, v10, v11, v12, v13, v14, v15, v16, v17, v18, v19, v20, v21, v22, v23, v24, v25, v26, v27, v28, v29, v30, v31, v32, v33, v34, v35, v36])), (h1, .inl (ty 1, 304, .inl (upd (upd (kf 0) 1 2) 4 (-1)))), (h2, .inl (ty 1, 256, .inl (upd (upd (upd (upd f0 0 0) 1 1000000) 16 1000000) 17 0)))] H := hP
  have hD : va_D A [(h0, .inr (12, [v0, .ref h1, v1, v2, v3, v4, v5, v6, v7, v8, v9, v10, v11, v12, v13, v14, v15, v16, v17, v18, v19, v20, v21, v22, v23, v24, v25, v26, v27, v28, v29, v30, v31, v32, v33, v34, v35, v36])), (h1, .inl (ty 1, 304, .inl (upd (upd (kf 0) 1 2) 4 (-1)))), (h2, .inl (ty 1, 256, .inl (upd (upd (upd (upd f0 0 0) 1 1000000) 16 1000000) 17 0)))] := hD
  refine lv_iinc (v := 2) (lv' := [(6, .int 2), (5, .int 0), (4, .int 1), (3, .int 2), (0, .ref h0), (1, .ref h2), (2, .int 0)]) hx hb dX12_measures_212 hl (k := 0) rfl (by decide) (by decide) rfl (fun ls hl => ?_)
  refine lv_goto (tgt := 177) hx hb dX12_measures_215 (by decide) ?_
  refine lv_iload hx hb dX12_measures_177 (lv_at hl 0 rfl) ?_
  refine lv_iload_n hx hb dX12_measures_179 rfl (lv_at hl 3 rfl) ?_
  refine lv_icmp_ge (tgt := 218) hx hb dX12_measures_180 (by decide) (fun _ => ?_) (fun h9 => absurd (by decide) h9)
  refine lv_iinc (v := 1) (lv' := [(5, .int 1), (6, .int 2), (4, .int 1), (3, .int 2), (0, .ref h0), (1, .ref h2), (2, .int 0)]) hx hb dX12_measures_218 hl (k := 1) rfl (by decide) (by decide) rfl (fun ls hl => ?_)
  refine lv_goto (tgt := 168) hx hb dX12_measures_221 (by decide) ?_
  refine lv_iload hx hb dX12_measures_168 (lv_at hl 0 rfl) ?_
  refine lv_iload_n hx hb dX12_measures_170 rfl (lv_at hl 3 rfl) ?_
  refine lv_icmp_ge (tgt := 224) hx hb dX12_measures_171 (by decide) (fun h9 => absurd h9 (by decide)) (fun _ => ?_)
  refine lv_iconst (v := 0) hx hb dX12_measures_174 (by decide) ?_
  refine lv_istore (lv' := [(6, .int 0), (5, .int 1), (4, .int 1), (3, .int 2), (0, .ref h0), (1, .ref h2), (2, .int 0)]) hx hb dX12_measures_175 hl (by decide) rfl (fun ls hl => ?_)
  refine lv_iload hx hb dX12_measures_177 (lv_at hl 0 rfl) ?_
  refine lv_iload_n hx hb dX12_measures_179 rfl (lv_at hl 3 rfl) ?_
  refine lv_icmp_ge (tgt := 218) hx hb dX12_measures_180 (by decide) (fun h9 => absurd h9 (by decide)) (fun _ => ?_)
  refine lv_aload_n hx hb dX12_measures_183 rfl (lv_at hl 5 rfl) ?_
  refine lv_iload hx hb dX12_measures_184 (lv_at hl 1 rfl) ?_
  refine lv_iload hx hb dX12_measures_186 (lv_at hl 0 rfl) ?_
  refine lv_aload_n hx hb dX12_measures_188 rfl (lv_at hl 5 rfl) ?_
  refine lv_bipush (v := 16) hx hb dX12_measures_189 (by decide) ?_
  refine lv_iload hx hb dX12_measures_191 (lv_at hl 1 rfl) ?_
  refine lv_imul hx hb dX12_measures_193 ?_
  refine tp_i (v := 16) (by decide) ?_
  refine lv_iload hx hb dX12_measures_194 (lv_at hl 2 rfl) ?_
  refine lv_iadd hx hb dX12_measures_196 ?_
  refine tp_i (v := 17) (by decide) ?_
  refine va_iald hx hb hK.1 hP 2 1 rfl rfl (by unfold vp_in; decide) dX12_measures_197 ?_
  refine tp_i (v := 0) rfl ?_
  refine lv_aload_n hx hb dX12_measures_198 rfl (lv_at hl 5 rfl) ?_
  refine lv_bipush (v := 16) hx hb dX12_measures_199 (by decide) ?_
  refine lv_iload hx hb dX12_measures_201 (lv_at hl 2 rfl) ?_
  refine lv_imul hx hb dX12_measures_203 ?_
  refine tp_i (v := 16) (by decide) ?_
  refine lv_iload hx hb dX12_measures_204 (lv_at hl 0 rfl) ?_
  refine lv_iadd hx hb dX12_measures_206 ?_
  refine tp_i (v := 16) (by decide) ?_
  refine va_iald hx hb hK.1 hP 2 1 rfl rfl (by unfold vp_in; decide) dX12_measures_207 ?_
  refine tp_i (v := 1000000) rfl ?_
  refine lv_iadd hx hb dX12_measures_208 ?_
  refine tp_i (v := 1000000) (by decide) ?_
  refine kc_v (va_runS (As := [.ref h2, .int 1, .int 0, .int 1000000]) (rest := []) ⟨hx, hb, hml, hown, hB⟩ (c163_X12_nearer l D ty H.size h2 f0) (va_cwS 4 hB (bw_S mw_489 mw_490 mw_211 mw_488) rfl rfl rfl (by decide +kernel) ⟨Nat.le_of_ble_eq_true rfl, Nat.le_of_ble_eq_true rfl⟩) (kp_S hK hP hD [2] (by decide) rfl) rfl rfl hl.1 rfl (lv_room (Nat.le_of_ble_eq_true rfl)) dX12_measures_209 ⟨Nat.le_of_ble_eq_true rfl, Nat.le_of_ble_eq_true rfl⟩) hP hD hS hA [2] [0, 1] (wr := [(h0, .inr (12, [v0, .ref h1, v1, v2, v3, v4, v5, v6, v7, v8, v9, v10, v11, v12, v13, v14, v15, v16, v17, v18, v19, v20, v21, v22, v23, v24, v25, v26, v27, v28, v29, v30, v31, v32, v33, v34, v35, v36])), (h1, .inl (ty 1, 304, .inl (upd (upd (kf 0) 1 2) 4 (-1))))]) rfl rfl (by decide) (by decide) (fun u H locs w9 hP hD hS => ?_)
  subst w9
  have hP : va_P D vwCl [(h0, .inr (12, [v0, .ref h1, v1, v2, v3, v4, v5, v6, v7, v8, v9, v10, v11, v12, v13, v14, v15, v16, v17, v18, v19, v20, v21, v22, v23, v24, v25, v26, v27, v28, v29, v30, v31, v32, v33, v34, v35, v36])), (h1, .inl (ty 1, 304, .inl (upd (upd (kf 0) 1 2) 4 (-1)))), (h2, .inl (ty 1, 256, .inl (upd (upd (upd (upd f0 0 0) 1 1000000) 16 1000000) 17 0)))] H := hP
  have hD : va_D A [(h0, .inr (12, [v0, .ref h1, v1, v2, v3, v4, v5, v6, v7, v8, v9, v10, v11, v12, v13, v14, v15, v16, v17, v18, v19, v20, v21, v22, v23, v24, v25, v26, v27, v28, v29, v30, v31, v32, v33, v34, v35, v36])), (h1, .inl (ty 1, 304, .inl (upd (upd (kf 0) 1 2) 4 (-1)))), (h2, .inl (ty 1, 256, .inl (upd (upd (upd (upd f0 0 0) 1 1000000) 16 1000000) 17 0)))] := hD
  refine lv_iinc (v := 1) (lv' := [(6, .int 1), (5, .int 1), (4, .int 1), (3, .int 2), (0, .ref h0), (1, .ref h2), (2, .int 0)]) hx hb dX12_measures_212 hl (k := 0) rfl (by decide) (by decide) rfl (fun ls hl => ?_)
  refine lv_goto (tgt := 177) hx hb dX12_measures_215 (by decide) ?_
  refine lv_iload hx hb dX12_measures_177 (lv_at hl 0 rfl) ?_
  refine lv_iload_n hx hb dX12_measures_179 rfl (lv_at hl 3 rfl) ?_
  refine lv_icmp_ge (tgt := 218) hx hb dX12_measures_180 (by decide) (fun h9 => absurd h9 (by decide)) (fun _ => ?_)
  refine lv_aload_n hx hb dX12_measures_183 rfl (lv_at hl 5 rfl) ?_
  refine lv_iload hx hb dX12_measures_184 (lv_at hl 1 rfl) ?_
  refine lv_iload hx hb dX12_measures_186 (lv_at hl 0 rfl) ?_
  refine lv_aload_n hx hb dX12_measures_188 rfl (lv_at hl 5 rfl) ?_
  refine lv_bipush (v := 16) hx hb dX12_measures_189 (by decide) ?_
  refine lv_iload hx hb dX12_measures_191 (lv_at hl 1 rfl) ?_
  refine lv_imul hx hb dX12_measures_193 ?_
  refine tp_i (v := 16) (by decide) ?_
  refine lv_iload hx hb dX12_measures_194 (lv_at hl 2 rfl) ?_
  refine lv_iadd hx hb dX12_measures_196 ?_
  refine tp_i (v := 17) (by decide) ?_
  refine va_iald hx hb hK.1 hP 2 1 rfl rfl (by unfold vp_in; decide) dX12_measures_197 ?_
  refine tp_i (v := 0) rfl ?_
  refine lv_aload_n hx hb dX12_measures_198 rfl (lv_at hl 5 rfl) ?_
  refine lv_bipush (v := 16) hx hb dX12_measures_199 (by decide) ?_
  refine lv_iload hx hb dX12_measures_201 (lv_at hl 2 rfl) ?_
  refine lv_imul hx hb dX12_measures_203 ?_
  refine tp_i (v := 16) (by decide) ?_
  refine lv_iload hx hb dX12_measures_204 (lv_at hl 0 rfl) ?_
  refine lv_iadd hx hb dX12_measures_206 ?_
  refine tp_i (v := 17) (by decide) ?_
  refine va_iald hx hb hK.1 hP 2 1 rfl rfl (by unfold vp_in; decide) dX12_measures_207 ?_
  refine tp_i (v := 0) rfl ?_
  refine lv_iadd hx hb dX12_measures_208 ?_
  refine tp_i (v := 0) (by decide) ?_
  refine kc_v (va_runS (As := [.ref h2, .int 1, .int 1, .int 0]) (rest := []) ⟨hx, hb, hml, hown, hB⟩ (c166_X12_nearer l D ty H.size h2 f0) (va_cwS 4 hB (bw_S mw_489 mw_490 mw_211 mw_488) rfl rfl rfl (by decide +kernel) ⟨Nat.le_of_ble_eq_true rfl, Nat.le_of_ble_eq_true rfl⟩) (kp_S hK hP hD [2] (by decide) rfl) rfl rfl hl.1 rfl (lv_room (Nat.le_of_ble_eq_true rfl)) dX12_measures_209 ⟨Nat.le_of_ble_eq_true rfl, Nat.le_of_ble_eq_true rfl⟩) hP hD hS hA [2] [0, 1] (wr := [(h0, .inr (12, [v0, .ref h1, v1, v2, v3, v4, v5, v6, v7, v8, v9, v10, v11, v12, v13, v14, v15, v16, v17, v18, v19, v20, v21, v22, v23, v24, v25, v26, v27, v28, v29, v30, v31, v32, v33, v34, v35, v36])), (h1, .inl (ty 1, 304, .inl (upd (upd (kf 0) 1 2) 4 (-1))))]) rfl rfl (by decide) (by decide) (fun u H locs w10 hP hD hS => ?_)
  subst w10
  have hP : va_P D vwCl [(h0, .inr (12, [v0, .ref h1, v1, v2, v3, v4, v5, v6, v7, v8, v9, v10, v11, v12, v13, v14, v15, v16, v17, v18, v19, v20, v21, v22, v23, v24, v25, v26, v27, v28, v29, v30, v31, v32, v33, v34, v35, v36])), (h1, .inl (ty 1, 304, .inl (upd (upd (kf 0) 1 2) 4 (-1)))), (h2, .inl (ty 1, 256, .inl (upd (upd (upd (upd f0 0 0) 1 1000000) 16 1000000) 17 0)))] H := hP
  have hD : va_D A [(h0, .inr (12, [v0, .ref h1, v1, v2, v3, v4, v5, v6, v7, v8, v9, v10, v11, v12, v13, v14, v15, v16, v17, v18, v19, v20, v21, v22, v23, v24, v25, v26, v27, v28, v29, v30, v31, v32, v33, v34, v35, v36])), (h1, .inl (ty 1, 304, .inl (upd (upd (kf 0) 1 2) 4 (-1)))), (h2, .inl (ty 1, 256, .inl (upd (upd (upd (upd f0 0 0) 1 1000000) 16 1000000) 17 0)))] := hD
  refine lv_iinc (v := 2) (lv' := [(6, .int 2), (5, .int 1), (4, .int 1), (3, .int 2), (0, .ref h0), (1, .ref h2), (2, .int 0)]) hx hb dX12_measures_212 hl (k := 0) rfl (by decide) (by decide) rfl (fun ls hl => ?_)
  refine lv_goto (tgt := 177) hx hb dX12_measures_215 (by decide) ?_
  refine lv_iload hx hb dX12_measures_177 (lv_at hl 0 rfl) ?_
  refine lv_iload_n hx hb dX12_measures_179 rfl (lv_at hl 3 rfl) ?_
  refine lv_icmp_ge (tgt := 218) hx hb dX12_measures_180 (by decide) (fun _ => ?_) (fun h9 => absurd (by decide) h9)
  refine lv_iinc (v := 2) (lv' := [(5, .int 2), (6, .int 2), (4, .int 1), (3, .int 2), (0, .ref h0), (1, .ref h2), (2, .int 0)]) hx hb dX12_measures_218 hl (k := 1) rfl (by decide) (by decide) rfl (fun ls hl => ?_)
  refine lv_goto (tgt := 168) hx hb dX12_measures_221 (by decide) ?_
  refine lv_iload hx hb dX12_measures_168 (lv_at hl 0 rfl) ?_
  refine lv_iload_n hx hb dX12_measures_170 rfl (lv_at hl 3 rfl) ?_
  refine lv_icmp_ge (tgt := 224) hx hb dX12_measures_171 (by decide) (fun _ => ?_) (fun h9 => absurd (by decide) h9)
  refine lv_iinc (v := 2) (lv' := [(4, .int 2), (5, .int 2), (6, .int 2), (3, .int 2), (0, .ref h0), (1, .ref h2), (2, .int 0)]) hx hb dX12_measures_224 hl (k := 2) rfl (by decide) (by decide) rfl (fun ls hl => ?_)
  refine lv_goto (tgt := 159) hx hb dX12_measures_227 (by decide) ?_
  refine lv_iload hx hb dX12_measures_159 (lv_at hl 0 rfl) ?_
  refine lv_iload_n hx hb dX12_measures_161 rfl (lv_at hl 3 rfl) ?_
  refine lv_icmp_ge (tgt := 230) hx hb dX12_measures_162 (by decide) (fun _ => ?_) (fun h9 => absurd (by decide) h9)
  exact kr_v hx hb hr hlocks hP hD hS [(h0, .inr (12, [v0, .ref h1, v1, v2, v3, v4, v5, v6, v7, v8, v9, v10, v11, v12, v13, v14, v15, v16, v17, v18, v19, v20, v21, v22, v23, v24, v25, v26, v27, v28, v29, v30, v31, v32, v33, v34, v35, v36])), (h1, .inl (ty 1, 304, .inl (upd (upd (kf 0) 1 2) 4 (-1)))), (h2, .inl (ty 1, 256, .inl (upd (upd (upd (upd f0 0 0) 1 1000000) 16 1000000) 17 0)))] [0, 1, 2] (by decide) rfl rfl (by decide) (by decide) dX12_measures_230
set_option maxHeartbeats 4000000 in
set_option maxRecDepth 100000 in
theorem c158_X12_measure (l : Launch) (D : va_G) (ty : Nat → ClassId) (sz : Nat) (h0 : Nat) (h1 : Nat) (h2 : Nat) (v0 : Value) (v1 : Value) (v2 : Value) (v3 : Value) (v4 : Value) (v5 : Value) (v6 : Value) (v7 : Value) (v8 : Value) (v9 : Value) (v10 : Value) (v11 : Value) (v12 : Value) (v13 : Value) (v14 : Value) (v15 : Value) (v16 : Value) (v17 : Value) (v18 : Value) (v19 : Value) (v20 : Value) (v21 : Value) (v22 : Value) (v23 : Value) (v24 : Value) (v25 : Value) (v26 : Value) (v27 : Value) (v28 : Value) (v29 : Value) (v30 : Value) (v31 : Value) (v32 : Value) (v33 : Value) (v34 : Value) (v35 : Value) (f0 : Nat → Int32) : cQ l yX12_measure cX12_measure 1 none 2 49 [.ref h0] D ty [(h0, .inr (12, [v0, .ref h1, v1, v2, v3, v4, v5, v6, v7, v8, v9, v10, v11, v12, v13, v14, v15, .ref h2, v16, v17, v18, v19, v20, v21, v22, v23, v24, v25, v26, v27, v28, v29, v30, v31, v32, v33, v34, v35])), (h1, .inl (ty 1, 304, .inl (upd (upd (kf 0) 1 2) 4 (-1)))), (h2, .inl (ty 1, 256, .inl f0))] sz (qV (fun (u : va_W) => [(h0, .inr (12, [v0, .ref h1, v1, v2, v3, v4, v5, v6, v7, v8, v9, v10, v11, v12, v13, v14, v15, .ref h2, v16, v17, v18, v19, v20, v21, v22, v23, v24, v25, v26, v27, v28, v29, v30, v31, v32, v33, v34, v35])), (h1, .inl (ty 1, 304, .inl (upd (upd (kf 0) 1 2) 4 (-1)))), (h2, .inl (ty 1, 256, .inl (upd (upd (upd (upd f0 0 0) 1 1000000) 16 1000000) 17 0)))] = u)) 0 0 := by
  refine cQ.of (by decide) (Nat.le_of_ble_eq_true rfl) (fun p e s m below meth c A ls C hsz hP hK hD hA hl => ?_)
  obtain ⟨hx, hb, hml, hown, hB, hr, hlocks, hin⟩ := C
  have hown : s.vm.findClass RX12 = some m.cls := hown
  have hS : va_S A s.heap s.heap [] := va_S.rf
  have hl : lv_has ls 1 [(0, .ref h0)] := hl
  refine lv_aload_n hx hb dX12_measure_0 rfl (lv_at hl 0 rfl) ?_
  refine lv_aload_n hx hb dX12_measure_1 rfl (lv_at hl 0 rfl) ?_
  refine va_get (D := D) (ci := 12) (v := .ref h2) (C := RX12) (T := TX12) (N := 38) hx hb hB inB_X12 hown hK.1 hP 0 rfl rfl 17 (by decide) (hB _ mw_192) (fun _ h9 => h9) rfl dX12_measure_2 ?_
  refine lv_iconst (v := 0) hx hb dX12_measure_5 (by decide) ?_
  refine kc_v (va_runV (As := [.ref h2, .int 0]) (rest := []) ⟨hx, hb, hml, hown, hB⟩ (c159_X12_measures l D ty s.heap.size h0 h1 h2 v0 v1 v2 v3 v4 v5 v6 v7 v8 v9 v10 v11 v12 v13 v14 v15 (.ref h2) v16 v17 v18 v19 v20 v21 v22 v23 v24 v25 v26 v27 v28 v29 v30 v31 v32 v33 v34 v35 f0) (cwV 2 hB (bw_V mw_492 mw_493 mw_494 mw_211 mw_491) rfl rfl rfl (by decide +kernel) ⟨Nat.le_of_ble_eq_true rfl, Nat.le_of_ble_eq_true rfl⟩) (kp_V hK hP hD [0, 1, 2] (by decide) rfl 0 rfl rfl rfl) rfl rfl hl.1 rfl (lv_room (Nat.le_of_ble_eq_true rfl)) dX12_measure_6 ⟨Nat.le_of_ble_eq_true rfl, Nat.le_of_ble_eq_true rfl⟩) hP hD hS hA [0, 1, 2] [] (wr := []) rfl rfl (by decide) (by decide) (fun u H locs w1 hP hD hS => ?_)
  subst w1
  have hP : va_P D vwCl [(h0, .inr (12, [v0, .ref h1, v1, v2, v3, v4, v5, v6, v7, v8, v9, v10, v11, v12, v13, v14, v15, .ref h2, v16, v17, v18, v19, v20, v21, v22, v23, v24, v25, v26, v27, v28, v29, v30, v31, v32, v33, v34, v35])), (h1, .inl (ty 1, 304, .inl (upd (upd (kf 0) 1 2) 4 (-1)))), (h2, .inl (ty 1, 256, .inl (upd (upd (upd (upd f0 0 0) 1 1000000) 16 1000000) 17 0)))] H := hP
  have hD : va_D A [(h0, .inr (12, [v0, .ref h1, v1, v2, v3, v4, v5, v6, v7, v8, v9, v10, v11, v12, v13, v14, v15, .ref h2, v16, v17, v18, v19, v20, v21, v22, v23, v24, v25, v26, v27, v28, v29, v30, v31, v32, v33, v34, v35])), (h1, .inl (ty 1, 304, .inl (upd (upd (kf 0) 1 2) 4 (-1)))), (h2, .inl (ty 1, 256, .inl (upd (upd (upd (upd f0 0 0) 1 1000000) 16 1000000) 17 0)))] := hD
  exact kr_v hx hb hr hlocks hP hD hS [(h0, .inr (12, [v0, .ref h1, v1, v2, v3, v4, v5, v6, v7, v8, v9, v10, v11, v12, v13, v14, v15, .ref h2, v16, v17, v18, v19, v20, v21, v22, v23, v24, v25, v26, v27, v28, v29, v30, v31, v32, v33, v34, v35])), (h1, .inl (ty 1, 304, .inl (upd (upd (kf 0) 1 2) 4 (-1)))), (h2, .inl (ty 1, 256, .inl (upd (upd (upd (upd f0 0 0) 1 1000000) 16 1000000) 17 0)))] [0, 1, 2] (by decide) rfl rfl (by decide) (by decide) dX12_measure_9
set_option maxHeartbeats 4000000 in
set_option maxRecDepth 100000 in
theorem c167_X12_isWholeBy (l : Launch) (D : va_G) (ty : Nat → ClassId) (sz : Nat) (h0 : Nat) (h1 : Nat) (h2 : Nat) (v0 : Value) (v1 : Value) (v2 : Value) (v3 : Value) (v4 : Value) (v5 : Value) (v6 : Value) (v7 : Value) (v8 : Value) (v9 : Value) (v10 : Value) (v11 : Value) (v12 : Value) (v13 : Value) (v14 : Value) (v15 : Value) (v16 : Value) (v17 : Value) (v18 : Value) (v19 : Value) (v20 : Value) (v21 : Value) (v22 : Value) (v23 : Value) (v24 : Value) (v25 : Value) (v26 : Value) (v27 : Value) (v28 : Value) (v29 : Value) (v30 : Value) (v31 : Value) (v32 : Value) (v33 : Value) (v34 : Value) (v35 : Value) (v36 : Value) (f0 : Nat → Int32) : cQ l yX12_isWholeBy cX12_isWholeBy 4 (some .boolean) 1 20 [.ref h0, .ref h2] D ty [(h0, .inr (12, [v0, .ref h1, v1, v2, v3, v4, v5, v6, v7, v8, v9, v10, v11, v12, v13, v14, v15, v16, v17, v18, v19, v20, v21, v22, v23, v24, v25, v26, v27, v28, v29, v30, v31, v32, v33, v34, v35, v36])), (h1, .inl (ty 1, 304, .inl (upd (upd (kf 0) 1 2) 4 (-1)))), (h2, .inl (ty 1, 256, .inl (upd (upd (upd (upd f0 0 0) 1 1000000) 16 1000000) 17 0)))] sz (qI (fun (r : Int32) (u : va_W) => 0 = r ∧ [(h2, .inl (ty 1, 256, .inl (upd (upd (upd (upd f0 0 0) 1 1000000) 16 1000000) 17 0))), (h0, .inr (12, [v0, .ref h1, v1, v2, v3, v4, v5, v6, v7, v8, v9, v10, v11, v12, v13, v14, v15, v16, v17, v18, v19, v20, v21, v22, v23, v24, v25, v26, v27, v28, v29, v30, v31, v32, v33, v34, v35, v36])), (h1, .inl (ty 1, 304, .inl (upd (upd (kf 0) 1 2) 4 (-1))))] = u)) 0 0 := by
  refine cQ.of (by decide) (Nat.le_of_ble_eq_true rfl) (fun p e s m below meth c A ls C hsz hP hK hD hA hl => ?_)
  obtain ⟨hx, hb, hml, hown, hB, hr, hlocks, hin⟩ := C
  have hown : s.vm.findClass RX12 = some m.cls := hown
  have hS : va_S A s.heap s.heap [] := va_S.rf
  have hl : lv_has ls 4 [(0, .ref h0), (1, .ref h2)] := hl
  refine lv_iconst (v := 0) hx hb dX12_isWholeBy_0 (by decide) ?_
  refine lv_istore_n (lv' := [(2, .int 0), (0, .ref h0), (1, .ref h2)]) hx hb dX12_isWholeBy_1 rfl hl (by decide) rfl (fun ls hl => ?_)
  refine lv_iload_n hx hb dX12_isWholeBy_2 rfl (lv_at hl 0 rfl) ?_
  refine lv_aload_n hx hb dX12_isWholeBy_3 rfl (lv_at hl 1 rfl) ?_
  refine kc_i (va_runV (As := []) (rest := [.int 0]) ⟨hx, hb, hml, hown, hB⟩ (c160_X12_corners l D ty s.heap.size h0 h1 v0 v1 v2 v3 v4 v5 v6 v7 v8 v9 v10 v11 v12 v13 v14 v15 v16 v17 v18 v19 v20 v21 v22 v23 v24 v25 v26 v27 v28 v29 v30 v31 v32 v33 v34 v35 v36) (cwV 0 hB (bw_V mw_484 mw_485 mw_486 mw_211 mw_483) rfl rfl rfl (by decide +kernel) ⟨Nat.le_of_ble_eq_true rfl, Nat.le_of_ble_eq_true rfl⟩) (kp_V hK hP hD [0, 1] (by decide) rfl 0 rfl rfl rfl) rfl rfl hl.1 rfl (lv_room (Nat.le_of_ble_eq_true rfl)) dX12_isWholeBy_4 ⟨Nat.le_of_ble_eq_true rfl, Nat.le_of_ble_eq_true rfl⟩) hP hD hS hA [0, 1] [2] (wr := [(h2, .inl (ty 1, 256, .inl (upd (upd (upd (upd f0 0 0) 1 1000000) 16 1000000) 17 0)))]) rfl rfl (by decide) (by decide) (fun r u H locs w1 hP hD hS => ?_)
  obtain ⟨rfl, rfl⟩ := w1
  have hP : va_P D vwCl [(h2, .inl (ty 1, 256, .inl (upd (upd (upd (upd f0 0 0) 1 1000000) 16 1000000) 17 0))), (h0, .inr (12, [v0, .ref h1, v1, v2, v3, v4, v5, v6, v7, v8, v9, v10, v11, v12, v13, v14, v15, v16, v17, v18, v19, v20, v21, v22, v23, v24, v25, v26, v27, v28, v29, v30, v31, v32, v33, v34, v35, v36])), (h1, .inl (ty 1, 304, .inl (upd (upd (kf 0) 1 2) 4 (-1))))] H := hP
  have hD : va_D A [(h2, .inl (ty 1, 256, .inl (upd (upd (upd (upd f0 0 0) 1 1000000) 16 1000000) 17 0))), (h0, .inr (12, [v0, .ref h1, v1, v2, v3, v4, v5, v6, v7, v8, v9, v10, v11, v12, v13, v14, v15, v16, v17, v18, v19, v20, v21, v22, v23, v24, v25, v26, v27, v28, v29, v30, v31, v32, v33, v34, v35, v36])), (h1, .inl (ty 1, 304, .inl (upd (upd (kf 0) 1 2) 4 (-1))))] := hD
  refine lv_icmp_ge (tgt := 47) hx hb dX12_isWholeBy_7 (by decide) (fun h9 => absurd h9 (by decide)) (fun _ => ?_)
  refine lv_iconst (v := 0) hx hb dX12_isWholeBy_10 (by decide) ?_
  refine lv_istore_n (lv' := [(3, .int 0), (2, .int 0), (0, .ref h0), (1, .ref h2)]) hx hb dX12_isWholeBy_11 rfl hl (by decide) rfl (fun ls hl => ?_)
  refine lv_iload_n hx hb dX12_isWholeBy_12 rfl (lv_at hl 0 rfl) ?_
  refine lv_aload_n hx hb dX12_isWholeBy_13 rfl (lv_at hl 2 rfl) ?_
  refine kc_i (va_runV (As := []) (rest := [.int 0]) ⟨hx, hb, hml, hown, hB⟩ (c160_X12_corners l D ty H.size h0 h1 v0 v1 v2 v3 v4 v5 v6 v7 v8 v9 v10 v11 v12 v13 v14 v15 v16 v17 v18 v19 v20 v21 v22 v23 v24 v25 v26 v27 v28 v29 v30 v31 v32 v33 v34 v35 v36) (cwV 0 hB (bw_V mw_484 mw_485 mw_486 mw_211 mw_483) rfl rfl rfl (by decide +kernel) ⟨Nat.le_of_ble_eq_true rfl, Nat.le_of_ble_eq_true rfl⟩) (kp_V hK hP hD [1, 2] (by decide) rfl 1 rfl rfl rfl) rfl rfl hl.1 rfl (lv_room (Nat.le_of_ble_eq_true rfl)) dX12_isWholeBy_14 ⟨Nat.le_of_ble_eq_true rfl, Nat.le_of_ble_eq_true rfl⟩) hP hD hS hA [1, 2] [0] (wr := [(h2, .inl (ty 1, 256, .inl (upd (upd (upd (upd f0 0 0) 1 1000000) 16 1000000) 17 0)))]) rfl rfl (by decide) (by decide) (fun r u H locs w2 hP hD hS => ?_)
  obtain ⟨rfl, rfl⟩ := w2
  have hP : va_P D vwCl [(h2, .inl (ty 1, 256, .inl (upd (upd (upd (upd f0 0 0) 1 1000000) 16 1000000) 17 0))), (h0, .inr (12, [v0, .ref h1, v1, v2, v3, v4, v5, v6, v7, v8, v9, v10, v11, v12, v13, v14, v15, v16, v17, v18, v19, v20, v21, v22, v23, v24, v25, v26, v27, v28, v29, v30, v31, v32, v33, v34, v35, v36])), (h1, .inl (ty 1, 304, .inl (upd (upd (kf 0) 1 2) 4 (-1))))] H := hP
  have hD : va_D A [(h2, .inl (ty 1, 256, .inl (upd (upd (upd (upd f0 0 0) 1 1000000) 16 1000000) 17 0))), (h0, .inr (12, [v0, .ref h1, v1, v2, v3, v4, v5, v6, v7, v8, v9, v10, v11, v12, v13, v14, v15, v16, v17, v18, v19, v20, v21, v22, v23, v24, v25, v26, v27, v28, v29, v30, v31, v32, v33, v34, v35, v36])), (h1, .inl (ty 1, 304, .inl (upd (upd (kf 0) 1 2) 4 (-1))))] := hD
  refine lv_icmp_ge (tgt := 41) hx hb dX12_isWholeBy_17 (by decide) (fun h9 => absurd h9 (by decide)) (fun _ => ?_)
  refine lv_aload_n hx hb dX12_isWholeBy_20 rfl (lv_at hl 3 rfl) ?_
  refine lv_bipush (v := 16) hx hb dX12_isWholeBy_21 (by decide) ?_
  refine lv_iload_n hx hb dX12_isWholeBy_23 rfl (lv_at hl 1 rfl) ?_
  refine lv_imul hx hb dX12_isWholeBy_24 ?_
  refine tp_i (v := 0) (by decide) ?_
  refine lv_iload_n hx hb dX12_isWholeBy_25 rfl (lv_at hl 0 rfl) ?_
  refine lv_iadd hx hb dX12_isWholeBy_26 ?_
  refine tp_i (v := 0) (by decide) ?_
  refine va_iald hx hb hK.1 hP 0 1 rfl rfl (by unfold vp_in; decide) dX12_isWholeBy_27 ?_
  refine tp_i (v := 0) rfl ?_
  refine lv_ldc hx hb hown (hB _ mw_487) dX12_isWholeBy_28 ?_
  refine lv_icmp_lt (tgt := 35) hx hb dX12_isWholeBy_30 (by decide) (fun _ => ?_) (fun h9 => absurd (by decide) h9)
  refine lv_iinc (v := 1) (lv' := [(3, .int 1), (2, .int 0), (0, .ref h0), (1, .ref h2)]) hx hb dX12_isWholeBy_35 hl (k := 0) rfl (by decide) (by decide) rfl (fun ls hl => ?_)
  refine lv_goto (tgt := 12) hx hb dX12_isWholeBy_38 (by decide) ?_
  refine lv_iload_n hx hb dX12_isWholeBy_12 rfl (lv_at hl 0 rfl) ?_
  refine lv_aload_n hx hb dX12_isWholeBy_13 rfl (lv_at hl 2 rfl) ?_
  refine kc_i (va_runV (As := []) (rest := [.int 1]) ⟨hx, hb, hml, hown, hB⟩ (c160_X12_corners l D ty H.size h0 h1 v0 v1 v2 v3 v4 v5 v6 v7 v8 v9 v10 v11 v12 v13 v14 v15 v16 v17 v18 v19 v20 v21 v22 v23 v24 v25 v26 v27 v28 v29 v30 v31 v32 v33 v34 v35 v36) (cwV 0 hB (bw_V mw_484 mw_485 mw_486 mw_211 mw_483) rfl rfl rfl (by decide +kernel) ⟨Nat.le_of_ble_eq_true rfl, Nat.le_of_ble_eq_true rfl⟩) (kp_V hK hP hD [1, 2] (by decide) rfl 1 rfl rfl rfl) rfl rfl hl.1 rfl (lv_room (Nat.le_of_ble_eq_true rfl)) dX12_isWholeBy_14 ⟨Nat.le_of_ble_eq_true rfl, Nat.le_of_ble_eq_true rfl⟩) hP hD hS hA [1, 2] [0] (wr := [(h2, .inl (ty 1, 256, .inl (upd (upd (upd (upd f0 0 0) 1 1000000) 16 1000000) 17 0)))]) rfl rfl (by decide) (by decide) (fun r u H locs w3 hP hD hS => ?_)
  obtain ⟨rfl, rfl⟩ := w3
  have hP : va_P D vwCl [(h2, .inl (ty 1, 256, .inl (upd (upd (upd (upd f0 0 0) 1 1000000) 16 1000000) 17 0))), (h0, .inr (12, [v0, .ref h1, v1, v2, v3, v4, v5, v6, v7, v8, v9, v10, v11, v12, v13, v14, v15, v16, v17, v18, v19, v20, v21, v22, v23, v24, v25, v26, v27, v28, v29, v30, v31, v32, v33, v34, v35, v36])), (h1, .inl (ty 1, 304, .inl (upd (upd (kf 0) 1 2) 4 (-1))))] H := hP
  have hD : va_D A [(h2, .inl (ty 1, 256, .inl (upd (upd (upd (upd f0 0 0) 1 1000000) 16 1000000) 17 0))), (h0, .inr (12, [v0, .ref h1, v1, v2, v3, v4, v5, v6, v7, v8, v9, v10, v11, v12, v13, v14, v15, v16, v17, v18, v19, v20, v21, v22, v23, v24, v25, v26, v27, v28, v29, v30, v31, v32, v33, v34, v35, v36])), (h1, .inl (ty 1, 304, .inl (upd (upd (kf 0) 1 2) 4 (-1))))] := hD
  refine lv_icmp_ge (tgt := 41) hx hb dX12_isWholeBy_17 (by decide) (fun h9 => absurd h9 (by decide)) (fun _ => ?_)
  refine lv_aload_n hx hb dX12_isWholeBy_20 rfl (lv_at hl 3 rfl) ?_
  refine lv_bipush (v := 16) hx hb dX12_isWholeBy_21 (by decide) ?_
  refine lv_iload_n hx hb dX12_isWholeBy_23 rfl (lv_at hl 1 rfl) ?_
  refine lv_imul hx hb dX12_isWholeBy_24 ?_
  refine tp_i (v := 0) (by decide) ?_
  refine lv_iload_n hx hb dX12_isWholeBy_25 rfl (lv_at hl 0 rfl) ?_
  refine lv_iadd hx hb dX12_isWholeBy_26 ?_
  refine tp_i (v := 1) (by decide) ?_
  refine va_iald hx hb hK.1 hP 0 1 rfl rfl (by unfold vp_in; decide) dX12_isWholeBy_27 ?_
  refine tp_i (v := 1000000) rfl ?_
  refine lv_ldc hx hb hown (hB _ mw_487) dX12_isWholeBy_28 ?_
  refine lv_icmp_lt (tgt := 35) hx hb dX12_isWholeBy_30 (by decide) (fun h9 => absurd h9 (by decide)) (fun _ => ?_)
  refine lv_iconst (v := 0) hx hb dX12_isWholeBy_33 (by decide) ?_
  exact kr_z hx hb hr rfl hlocks hP hD hS [(h2, .inl (ty 1, 256, .inl (upd (upd (upd (upd f0 0 0) 1 1000000) 16 1000000) 17 0))), (h0, .inr (12, [v0, .ref h1, v1, v2, v3, v4, v5, v6, v7, v8, v9, v10, v11, v12, v13, v14, v15, v16, v17, v18, v19, v20, v21, v22, v23, v24, v25, v26, v27, v28, v29, v30, v31, v32, v33, v34, v35, v36])), (h1, .inl (ty 1, 304, .inl (upd (upd (kf 0) 1 2) 4 (-1))))] [0, 1, 2] (by decide) rfl ⟨rfl, rfl⟩ (by decide) (by decide) dX12_isWholeBy_34
set_option maxHeartbeats 4000000 in
set_option maxRecDepth 100000 in
theorem c157_X12_isWhole (l : Launch) (D : va_G) (ty : Nat → ClassId) (sz : Nat) (h0 : Nat) (h1 : Nat) (h2 : Nat) (v0 : Value) (v1 : Value) (v2 : Value) (v3 : Value) (v4 : Value) (v5 : Value) (v6 : Value) (v7 : Value) (v8 : Value) (v9 : Value) (v10 : Value) (v11 : Value) (v12 : Value) (v13 : Value) (v14 : Value) (v15 : Value) (v16 : Value) (v17 : Value) (v18 : Value) (v19 : Value) (v20 : Value) (v21 : Value) (v22 : Value) (v23 : Value) (v24 : Value) (v25 : Value) (v26 : Value) (v27 : Value) (v28 : Value) (v29 : Value) (v30 : Value) (v31 : Value) (v32 : Value) (v33 : Value) (v34 : Value) (v35 : Value) (f0 : Nat → Int32) : cQ l yX12_isWhole cX12_isWhole 1 (some .boolean) 3 69 [.ref h0] D ty [(h0, .inr (12, [v0, .ref h1, v1, v2, v3, v4, v5, v6, v7, v8, v9, v10, v11, v12, v13, v14, v15, .ref h2, v16, v17, v18, v19, v20, v21, v22, v23, v24, v25, v26, v27, v28, v29, v30, v31, v32, v33, v34, v35])), (h1, .inl (ty 1, 304, .inl (upd (upd (kf 0) 1 2) 4 (-1)))), (h2, .inl (ty 1, 256, .inl f0))] sz (qI (fun (r : Int32) (u : va_W) => 0 = r ∧ [(h2, .inl (ty 1, 256, .inl (upd (upd (upd (upd f0 0 0) 1 1000000) 16 1000000) 17 0))), (h0, .inr (12, [v0, .ref h1, v1, v2, v3, v4, v5, v6, v7, v8, v9, v10, v11, v12, v13, v14, v15, .ref h2, v16, v17, v18, v19, v20, v21, v22, v23, v24, v25, v26, v27, v28, v29, v30, v31, v32, v33, v34, v35])), (h1, .inl (ty 1, 304, .inl (upd (upd (kf 0) 1 2) 4 (-1))))] = u)) 0 0 := by
  refine cQ.of (by decide) (Nat.le_of_ble_eq_true rfl) (fun p e s m below meth c A ls C hsz hP hK hD hA hl => ?_)
  obtain ⟨hx, hb, hml, hown, hB, hr, hlocks, hin⟩ := C
  have hown : s.vm.findClass RX12 = some m.cls := hown
  have hS : va_S A s.heap s.heap [] := va_S.rf
  have hl : lv_has ls 1 [(0, .ref h0)] := hl
  refine lv_aload_n hx hb dX12_isWhole_0 rfl (lv_at hl 0 rfl) ?_
  refine kc_v (va_runV (As := []) (rest := []) ⟨hx, hb, hml, hown, hB⟩ (c158_X12_measure l D ty s.heap.size h0 h1 h2 v0 v1 v2 v3 v4 v5 v6 v7 v8 v9 v10 v11 v12 v13 v14 v15 v16 v17 v18 v19 v20 v21 v22 v23 v24 v25 v26 v27 v28 v29 v30 v31 v32 v33 v34 v35 f0) (cwV 0 hB (bw_V mw_496 mw_497 mw_498 mw_211 mw_495) rfl rfl rfl (by decide +kernel) ⟨Nat.le_of_ble_eq_true rfl, Nat.le_of_ble_eq_true rfl⟩) (kp_V hK hP hD [0, 1, 2] (by decide) rfl 0 rfl rfl rfl) rfl rfl hl.1 rfl (lv_room (Nat.le_of_ble_eq_true rfl)) dX12_isWhole_1 ⟨Nat.le_of_ble_eq_true rfl, Nat.le_of_ble_eq_true rfl⟩) hP hD hS hA [0, 1, 2] [] (wr := []) rfl rfl (by decide) (by decide) (fun u H locs w1 hP hD hS => ?_)
  subst w1
  have hP : va_P D vwCl [(h0, .inr (12, [v0, .ref h1, v1, v2, v3, v4, v5, v6, v7, v8, v9, v10, v11, v12, v13, v14, v15, .ref h2, v16, v17, v18, v19, v20, v21, v22, v23, v24, v25, v26, v27, v28, v29, v30, v31, v32, v33, v34, v35])), (h1, .inl (ty 1, 304, .inl (upd (upd (kf 0) 1 2) 4 (-1)))), (h2, .inl (ty 1, 256, .inl (upd (upd (upd (upd f0 0 0) 1 1000000) 16 1000000) 17 0)))] H := hP
  have hD : va_D A [(h0, .inr (12, [v0, .ref h1, v1, v2, v3, v4, v5, v6, v7, v8, v9, v10, v11, v12, v13, v14, v15, .ref h2, v16, v17, v18, v19, v20, v21, v22, v23, v24, v25, v26, v27, v28, v29, v30, v31, v32, v33, v34, v35])), (h1, .inl (ty 1, 304, .inl (upd (upd (kf 0) 1 2) 4 (-1)))), (h2, .inl (ty 1, 256, .inl (upd (upd (upd (upd f0 0 0) 1 1000000) 16 1000000) 17 0)))] := hD
  refine lv_aload_n hx hb dX12_isWhole_4 rfl (lv_at hl 0 rfl) ?_
  refine lv_aload_n hx hb dX12_isWhole_5 rfl (lv_at hl 0 rfl) ?_
  refine va_get (D := D) (ci := 12) (v := .ref h2) (C := RX12) (T := TX12) (N := 38) hx hb hB inB_X12 hown hK.1 hP 0 rfl rfl 17 (by decide) (hB _ mw_192) (fun _ h9 => h9) rfl dX12_isWhole_6 ?_
  refine kc_i (va_runV (As := [.ref h2]) (rest := []) ⟨hx, hb, hml, hown, hB⟩ (c167_X12_isWholeBy l D ty H.size h0 h1 h2 v0 v1 v2 v3 v4 v5 v6 v7 v8 v9 v10 v11 v12 v13 v14 v15 (.ref h2) v16 v17 v18 v19 v20 v21 v22 v23 v24 v25 v26 v27 v28 v29 v30 v31 v32 v33 v34 v35 f0) (cwV 1 hB (bw_V mw_500 mw_501 mw_502 mw_211 mw_499) rfl rfl rfl (by decide +kernel) ⟨Nat.le_of_ble_eq_true rfl, Nat.le_of_ble_eq_true rfl⟩) (kp_V hK hP hD [0, 1, 2] (by decide) rfl 0 rfl rfl rfl) rfl rfl hl.1 rfl (lv_room (Nat.le_of_ble_eq_true rfl)) dX12_isWhole_9 ⟨Nat.le_of_ble_eq_true rfl, Nat.le_of_ble_eq_true rfl⟩) hP hD hS hA [0, 1, 2] [] (wr := []) rfl rfl (by decide) (by decide) (fun r u H locs w2 hP hD hS => ?_)
  obtain ⟨rfl, rfl⟩ := w2
  have hP : va_P D vwCl [(h2, .inl (ty 1, 256, .inl (upd (upd (upd (upd f0 0 0) 1 1000000) 16 1000000) 17 0))), (h0, .inr (12, [v0, .ref h1, v1, v2, v3, v4, v5, v6, v7, v8, v9, v10, v11, v12, v13, v14, v15, .ref h2, v16, v17, v18, v19, v20, v21, v22, v23, v24, v25, v26, v27, v28, v29, v30, v31, v32, v33, v34, v35])), (h1, .inl (ty 1, 304, .inl (upd (upd (kf 0) 1 2) 4 (-1))))] H := hP
  have hD : va_D A [(h2, .inl (ty 1, 256, .inl (upd (upd (upd (upd f0 0 0) 1 1000000) 16 1000000) 17 0))), (h0, .inr (12, [v0, .ref h1, v1, v2, v3, v4, v5, v6, v7, v8, v9, v10, v11, v12, v13, v14, v15, .ref h2, v16, v17, v18, v19, v20, v21, v22, v23, v24, v25, v26, v27, v28, v29, v30, v31, v32, v33, v34, v35])), (h1, .inl (ty 1, 304, .inl (upd (upd (kf 0) 1 2) 4 (-1))))] := hD
  exact kr_z hx hb hr rfl hlocks hP hD hS [(h2, .inl (ty 1, 256, .inl (upd (upd (upd (upd f0 0 0) 1 1000000) 16 1000000) 17 0))), (h0, .inr (12, [v0, .ref h1, v1, v2, v3, v4, v5, v6, v7, v8, v9, v10, v11, v12, v13, v14, v15, .ref h2, v16, v17, v18, v19, v20, v21, v22, v23, v24, v25, v26, v27, v28, v29, v30, v31, v32, v33, v34, v35])), (h1, .inl (ty 1, 304, .inl (upd (upd (kf 0) 1 2) 4 (-1))))] [0, 1, 2] (by decide) rfl ⟨rfl, rfl⟩ (by decide) (by decide) dX12_isWhole_12
set_option maxHeartbeats 4000000 in
set_option maxRecDepth 100000 in
theorem c155_X12_whole (l : Launch) (D : va_G) (ty : Nat → ClassId) (sz : Nat) (h0 : Nat) (h1 : Nat) (h2 : Nat) (p0 : Int32) (v0 : Value) (v1 : Value) (v2 : Value) (v3 : Value) (v4 : Value) (v5 : Value) (v6 : Value) (v7 : Value) (v8 : Value) (v9 : Value) (v10 : Value) (v11 : Value) (v12 : Value) (v13 : Value) (v14 : Value) (v15 : Value) (v16 : Value) (v17 : Value) (v18 : Value) (v19 : Value) (v20 : Value) (v21 : Value) (v22 : Value) (v23 : Value) (v24 : Value) (v25 : Value) (v26 : Value) (v27 : Value) (v28 : Value) (v29 : Value) (v30 : Value) (v31 : Value) (v32 : Value) (v33 : Value) (v34 : Value) (v35 : Value) (f0 : Nat → Int32) : cQ l yX12_whole cX12_whole 2 (some .int) 4 89 [.ref h0, .int p0] D ty [(h0, .inr (12, [v0, .ref h1, v1, v2, v3, v4, v5, v6, v7, v8, v9, v10, v11, v12, v13, v14, v15, .ref h2, v16, v17, v18, v19, v20, v21, v22, v23, v24, v25, v26, v27, v28, v29, v30, v31, v32, v33, v34, v35])), (h1, .inl (ty 1, 304, .inl (upd (upd (kf 0) 1 2) 4 (-1)))), (h2, .inl (ty 1, 256, .inl f0))] sz (qI (fun (r : Int32) (u : va_W) => (((((0 ≤ (Int32.toInt64 p0)) ∧ ((Int32.toInt64 p0) ≤ 1)))) ∧ 0 = r ∧ [] = u) ∨ (((((¬ (0 ≤ (Int32.toInt64 p0))) ∨ (¬ ((Int32.toInt64 p0) ≤ 1))))) ∧ (-2) = r ∧ [] = u))) 0 0 := by
  refine cQ.of (by decide) (Nat.le_of_ble_eq_true rfl) (fun p e s m below meth c A ls C hsz hP hK hD hA hl => ?_)
  obtain ⟨hx, hb, hml, hown, hB, hr, hlocks, hin⟩ := C
  have hown : s.vm.findClass RX12 = some m.cls := hown
  have hS : va_S A s.heap s.heap [] := va_S.rf
  have hl : lv_has ls 2 [(0, .ref h0), (1, .int p0)] := hl
  refine lv_iload_n hx hb dX12_whole_0 rfl (lv_at hl 1 rfl) ?_
  refine kc_i (va_runS (As := [.int p0]) (rest := []) ⟨hx, hb, hml, hown, hB⟩ (c149_X12_isGiving l D ty s.heap.size p0) (va_cwS 1 hB (bw_S mw_469 mw_470 mw_211 mw_468) rfl rfl rfl (by decide +kernel) ⟨Nat.le_of_ble_eq_true rfl, Nat.le_of_ble_eq_true rfl⟩) (kp_S hK hP hD [] (by decide) rfl) rfl rfl hl.1 rfl (lv_room (Nat.le_of_ble_eq_true rfl)) dX12_whole_1 ⟨Nat.le_of_ble_eq_true rfl, Nat.le_of_ble_eq_true rfl⟩) hP hD hS hA [] [0, 1, 2] (wr := [(h0, .inr (12, [v0, .ref h1, v1, v2, v3, v4, v5, v6, v7, v8, v9, v10, v11, v12, v13, v14, v15, .ref h2, v16, v17, v18, v19, v20, v21, v22, v23, v24, v25, v26, v27, v28, v29, v30, v31, v32, v33, v34, v35])), (h1, .inl (ty 1, 304, .inl (upd (upd (kf 0) 1 2) 4 (-1)))), (h2, .inl (ty 1, 256, .inl f0))]) rfl rfl (by decide) (by decide) (fun r u H locs w1 hP hD hS => ?_)
  rcases w1 with ⟨c2, rfl, rfl⟩ | ⟨c3, rfl, rfl⟩
  · have hP : va_P D vwCl [(h0, .inr (12, [v0, .ref h1, v1, v2, v3, v4, v5, v6, v7, v8, v9, v10, v11, v12, v13, v14, v15, .ref h2, v16, v17, v18, v19, v20, v21, v22, v23, v24, v25, v26, v27, v28, v29, v30, v31, v32, v33, v34, v35])), (h1, .inl (ty 1, 304, .inl (upd (upd (kf 0) 1 2) 4 (-1)))), (h2, .inl (ty 1, 256, .inl f0))] H := hP
    have hD : va_D A [(h0, .inr (12, [v0, .ref h1, v1, v2, v3, v4, v5, v6, v7, v8, v9, v10, v11, v12, v13, v14, v15, .ref h2, v16, v17, v18, v19, v20, v21, v22, v23, v24, v25, v26, v27, v28, v29, v30, v31, v32, v33, v34, v35])), (h1, .inl (ty 1, 304, .inl (upd (upd (kf 0) 1 2) 4 (-1)))), (h2, .inl (ty 1, 256, .inl f0))] := hD
    refine lv_if_ne (tgt := 10) hx hb dX12_whole_4 (by decide) (fun _ => ?_) (fun h9 => absurd h9 (by decide))
    refine lv_aload_n hx hb dX12_whole_10 rfl (lv_at hl 0 rfl) ?_
    refine lv_iload_n hx hb dX12_whole_11 rfl (lv_at hl 1 rfl) ?_
    refine kc_v (va_runV (As := [.int p0]) (rest := []) ⟨hx, hb, hml, hown, hB⟩ (c156_X12_tries l D ty H.size h0 h1 p0 v0 v1 v2 v3 v4 v5 v6 v7 v8 v9 v10 v11 v12 v13 v14 v15 (.ref h2) v16 v17 v18 v19 v20 v21 v22 v23 v24 v25 v26 v27 v28 v29 v30 v31 v32 v33 v34 v35) (cwV 1 hB (bw_V mw_480 mw_481 mw_482 mw_211 mw_479) rfl rfl rfl (by decide +kernel) ⟨Nat.le_of_ble_eq_true rfl, Nat.le_of_ble_eq_true rfl⟩) (kp_V hK hP hD [0, 1] (by decide) rfl 0 rfl rfl rfl) rfl rfl hl.1 rfl (lv_room (Nat.le_of_ble_eq_true rfl)) dX12_whole_12 ⟨Nat.le_of_ble_eq_true rfl, Nat.le_of_ble_eq_true rfl⟩) hP hD hS hA [0, 1] [2] (wr := [(h2, .inl (ty 1, 256, .inl f0))]) rfl rfl (by decide) (by decide) (fun u H locs w4 hP hD hS => ?_)
    subst w4
    have hP : va_P D vwCl [(h2, .inl (ty 1, 256, .inl f0)), (h0, .inr (12, [v0, .ref h1, v1, v2, v3, v4, v5, v6, v7, v8, v9, v10, v11, v12, v13, v14, v15, .ref h2, v16, v17, v18, v19, v20, v21, v22, v23, v24, v25, v26, v27, v28, v29, v30, v31, v32, v33, v34, v35])), (h1, .inl (ty 1, 304, .inl (upd (upd (kf 0) 1 2) 4 (-1))))] H := hP
    have hD : va_D A [(h2, .inl (ty 1, 256, .inl f0)), (h0, .inr (12, [v0, .ref h1, v1, v2, v3, v4, v5, v6, v7, v8, v9, v10, v11, v12, v13, v14, v15, .ref h2, v16, v17, v18, v19, v20, v21, v22, v23, v24, v25, v26, v27, v28, v29, v30, v31, v32, v33, v34, v35])), (h1, .inl (ty 1, 304, .inl (upd (upd (kf 0) 1 2) 4 (-1))))] := hD
    refine lv_aload_n hx hb dX12_whole_15 rfl (lv_at hl 0 rfl) ?_
    refine kc_i (va_runV (As := []) (rest := []) ⟨hx, hb, hml, hown, hB⟩ (c157_X12_isWhole l D ty H.size h0 h1 h2 v0 v1 v2 v3 v4 v5 v6 v7 v8 v9 v10 v11 v12 v13 v14 v15 v16 v17 v18 v19 v20 v21 v22 v23 v24 v25 v26 v27 v28 v29 v30 v31 v32 v33 v34 v35 f0) (cwV 0 hB (bw_V mw_504 mw_505 mw_506 mw_211 mw_503) rfl rfl rfl (by decide +kernel) ⟨Nat.le_of_ble_eq_true rfl, Nat.le_of_ble_eq_true rfl⟩) (kp_V hK hP hD [1, 2, 0] (by decide) rfl 1 rfl rfl rfl) rfl rfl hl.1 rfl (lv_room (Nat.le_of_ble_eq_true rfl)) dX12_whole_16 ⟨Nat.le_of_ble_eq_true rfl, Nat.le_of_ble_eq_true rfl⟩) hP hD hS hA [1, 2, 0] [] (wr := []) rfl rfl (by decide) (by decide) (fun r u H locs w5 hP hD hS => ?_)
    obtain ⟨rfl, rfl⟩ := w5
    have hP : va_P D vwCl [(h2, .inl (ty 1, 256, .inl (upd (upd (upd (upd f0 0 0) 1 1000000) 16 1000000) 17 0))), (h0, .inr (12, [v0, .ref h1, v1, v2, v3, v4, v5, v6, v7, v8, v9, v10, v11, v12, v13, v14, v15, .ref h2, v16, v17, v18, v19, v20, v21, v22, v23, v24, v25, v26, v27, v28, v29, v30, v31, v32, v33, v34, v35])), (h1, .inl (ty 1, 304, .inl (upd (upd (kf 0) 1 2) 4 (-1))))] H := hP
    have hD : va_D A [(h2, .inl (ty 1, 256, .inl (upd (upd (upd (upd f0 0 0) 1 1000000) 16 1000000) 17 0))), (h0, .inr (12, [v0, .ref h1, v1, v2, v3, v4, v5, v6, v7, v8, v9, v10, v11, v12, v13, v14, v15, .ref h2, v16, v17, v18, v19, v20, v21, v22, v23, v24, v25, v26, v27, v28, v29, v30, v31, v32, v33, v34, v35])), (h1, .inl (ty 1, 304, .inl (upd (upd (kf 0) 1 2) 4 (-1))))] := hD
    refine lv_if_eq (tgt := 26) hx hb dX12_whole_19 (by decide) (fun _ => ?_) (fun h9 => absurd (by decide) h9)
    refine lv_iconst (v := 0) hx hb dX12_whole_26 (by decide) ?_
    exact kr_z hx hb hr rfl hlocks hP hD hS [] [] (by decide) rfl (Or.inl ⟨c2, rfl, rfl⟩) (by decide) (by decide) dX12_whole_27
  · have hP : va_P D vwCl [(h0, .inr (12, [v0, .ref h1, v1, v2, v3, v4, v5, v6, v7, v8, v9, v10, v11, v12, v13, v14, v15, .ref h2, v16, v17, v18, v19, v20, v21, v22, v23, v24, v25, v26, v27, v28, v29, v30, v31, v32, v33, v34, v35])), (h1, .inl (ty 1, 304, .inl (upd (upd (kf 0) 1 2) 4 (-1)))), (h2, .inl (ty 1, 256, .inl f0))] H := hP
    have hD : va_D A [(h0, .inr (12, [v0, .ref h1, v1, v2, v3, v4, v5, v6, v7, v8, v9, v10, v11, v12, v13, v14, v15, .ref h2, v16, v17, v18, v19, v20, v21, v22, v23, v24, v25, v26, v27, v28, v29, v30, v31, v32, v33, v34, v35])), (h1, .inl (ty 1, 304, .inl (upd (upd (kf 0) 1 2) 4 (-1)))), (h2, .inl (ty 1, 256, .inl f0))] := hD
    refine lv_if_ne (tgt := 10) hx hb dX12_whole_4 (by decide) (fun h9 => absurd (by decide) h9) (fun _ => ?_)
    refine lv_bipush (v := (-2)) hx hb dX12_whole_7 (by decide) ?_
    exact kr_z hx hb hr rfl hlocks hP hD hS [] [] (by decide) rfl (Or.inr ⟨c3, rfl, rfl⟩) (by decide) (by decide) dX12_whole_9
set_option maxHeartbeats 4000000 in
set_option maxRecDepth 100000 in
theorem c169_X12_canEnd (l : Launch) (D : va_G) (ty : Nat → ClassId) (sz : Nat) (h0 : Nat) (h1 : Nat) (h2 : Nat) (v0 : Value) (v1 : Value) (v2 : Value) (v3 : Value) (v4 : Value) (v5 : Value) (v6 : Value) (v7 : Value) (v8 : Value) (v9 : Value) (v10 : Value) (v11 : Value) (v12 : Value) (v13 : Value) (v14 : Value) (v15 : Value) (v16 : Value) (v17 : Value) (v18 : Value) (v19 : Value) (v20 : Value) (v21 : Value) (v22 : Value) (v23 : Value) (v24 : Value) (v25 : Value) (v26 : Value) (v27 : Value) (v28 : Value) (v29 : Value) (v30 : Value) (v31 : Value) (v32 : Value) (v33 : Value) (v34 : Value) (v35 : Value) (f0 : Nat → Int32) : cQ l yX12_canEnd cX12_canEnd 1 (some .boolean) 4 89 [.ref h0] D ty [(h0, .inr (12, [v0, .ref h1, v1, v2, v3, v4, v5, v6, v7, v8, v9, v10, v11, v12, v13, v14, v15, .ref h2, v16, v17, v18, v19, v20, v21, v22, v23, v24, v25, v26, v27, v28, v29, v30, v31, v32, v33, v34, v35])), (h1, .inl (ty 1, 304, .inl (upd (upd (kf 0) 1 2) 4 (-1)))), (h2, .inl (ty 1, 256, .inl f0))] sz (qI (fun (r : Int32) (u : va_W) => 0 = r ∧ [(h2, .inl (ty 1, 256, .inl (upd (upd (upd (upd f0 0 0) 1 1000000) 16 1000000) 17 0))), (h0, .inr (12, [v0, .ref h1, v1, v2, v3, v4, v5, v6, v7, v8, v9, v10, v11, v12, v13, v14, v15, .ref h2, v16, v17, v18, v19, v20, v21, v22, v23, v24, v25, v26, v27, v28, v29, v30, v31, v32, v33, v34, v35])), (h1, .inl (ty 1, 304, .inl (upd (upd (kf 0) 1 2) 4 (-1))))] = u)) 0 0 := by
  refine cQ.of (by decide) (Nat.le_of_ble_eq_true rfl) (fun p e s m below meth c A ls C hsz hP hK hD hA hl => ?_)
  obtain ⟨hx, hb, hml, hown, hB, hr, hlocks, hin⟩ := C
  have hown : s.vm.findClass RX12 = some m.cls := hown
  have hS : va_S A s.heap s.heap [] := va_S.rf
  have hl : lv_has ls 1 [(0, .ref h0)] := hl
  refine lv_aload_n hx hb dX12_canEnd_0 rfl (lv_at hl 0 rfl) ?_
  refine kc_i (va_runV (As := []) (rest := []) ⟨hx, hb, hml, hown, hB⟩ (c157_X12_isWhole l D ty s.heap.size h0 h1 h2 v0 v1 v2 v3 v4 v5 v6 v7 v8 v9 v10 v11 v12 v13 v14 v15 v16 v17 v18 v19 v20 v21 v22 v23 v24 v25 v26 v27 v28 v29 v30 v31 v32 v33 v34 v35 f0) (cwV 0 hB (bw_V mw_504 mw_505 mw_506 mw_211 mw_503) rfl rfl rfl (by decide +kernel) ⟨Nat.le_of_ble_eq_true rfl, Nat.le_of_ble_eq_true rfl⟩) (kp_V hK hP hD [0, 1, 2] (by decide) rfl 0 rfl rfl rfl) rfl rfl hl.1 rfl (lv_room (Nat.le_of_ble_eq_true rfl)) dX12_canEnd_1 ⟨Nat.le_of_ble_eq_true rfl, Nat.le_of_ble_eq_true rfl⟩) hP hD hS hA [0, 1, 2] [] (wr := []) rfl rfl (by decide) (by decide) (fun r u H locs w1 hP hD hS => ?_)
  obtain ⟨rfl, rfl⟩ := w1
  have hP : va_P D vwCl [(h2, .inl (ty 1, 256, .inl (upd (upd (upd (upd f0 0 0) 1 1000000) 16 1000000) 17 0))), (h0, .inr (12, [v0, .ref h1, v1, v2, v3, v4, v5, v6, v7, v8, v9, v10, v11, v12, v13, v14, v15, .ref h2, v16, v17, v18, v19, v20, v21, v22, v23, v24, v25, v26, v27, v28, v29, v30, v31, v32, v33, v34, v35])), (h1, .inl (ty 1, 304, .inl (upd (upd (kf 0) 1 2) 4 (-1))))] H := hP
  have hD : va_D A [(h2, .inl (ty 1, 256, .inl (upd (upd (upd (upd f0 0 0) 1 1000000) 16 1000000) 17 0))), (h0, .inr (12, [v0, .ref h1, v1, v2, v3, v4, v5, v6, v7, v8, v9, v10, v11, v12, v13, v14, v15, .ref h2, v16, v17, v18, v19, v20, v21, v22, v23, v24, v25, v26, v27, v28, v29, v30, v31, v32, v33, v34, v35])), (h1, .inl (ty 1, 304, .inl (upd (upd (kf 0) 1 2) 4 (-1))))] := hD
  refine lv_if_eq (tgt := 19) hx hb dX12_canEnd_4 (by decide) (fun _ => ?_) (fun h9 => absurd (by decide) h9)
  refine lv_iconst (v := 0) hx hb dX12_canEnd_19 (by decide) ?_
  exact kr_z hx hb hr rfl hlocks hP hD hS [(h2, .inl (ty 1, 256, .inl (upd (upd (upd (upd f0 0 0) 1 1000000) 16 1000000) 17 0))), (h0, .inr (12, [v0, .ref h1, v1, v2, v3, v4, v5, v6, v7, v8, v9, v10, v11, v12, v13, v14, v15, .ref h2, v16, v17, v18, v19, v20, v21, v22, v23, v24, v25, v26, v27, v28, v29, v30, v31, v32, v33, v34, v35])), (h1, .inl (ty 1, 304, .inl (upd (upd (kf 0) 1 2) 4 (-1))))] [0, 1, 2] (by decide) rfl ⟨rfl, rfl⟩ (by decide) (by decide) dX12_canEnd_20
set_option maxHeartbeats 4000000 in
set_option maxRecDepth 100000 in
theorem c168_X12_can (l : Launch) (D : va_G) (ty : Nat → ClassId) (sz : Nat) (h0 : Nat) (h1 : Nat) (h2 : Nat) (p0 : Int32) (v0 : Value) (v1 : Value) (v2 : Value) (v3 : Value) (v4 : Value) (v5 : Value) (v6 : Value) (v7 : Value) (v8 : Value) (v9 : Value) (v10 : Value) (v11 : Value) (v12 : Value) (v13 : Value) (v14 : Value) (v15 : Value) (v16 : Value) (v17 : Value) (v18 : Value) (v19 : Value) (v20 : Value) (v21 : Value) (v22 : Value) (v23 : Value) (v24 : Value) (v25 : Value) (v26 : Value) (v27 : Value) (v28 : Value) (v29 : Value) (v30 : Value) (v31 : Value) (v32 : Value) (v33 : Value) (v34 : Value) (v35 : Value) (f0 : Nat → Int32) : cQ l yX12_can cX12_can 2 (some .int) 5 109 [.ref h0, .int p0] D ty [(h0, .inr (12, [v0, .ref h1, v1, v2, v3, v4, v5, v6, v7, v8, v9, v10, v11, v12, v13, v14, v15, .ref h2, v16, v17, v18, v19, v20, v21, v22, v23, v24, v25, v26, v27, v28, v29, v30, v31, v32, v33, v34, v35])), (h1, .inl (ty 1, 304, .inl (upd (upd (kf 0) 1 2) 4 (-1)))), (h2, .inl (ty 1, 256, .inl f0))] sz (qI (fun (r : Int32) (u : va_W) => (((((0 ≤ (Int32.toInt64 p0)) ∧ ((Int32.toInt64 p0) ≤ 1)))) ∧ 0 = r ∧ [] = u) ∨ (((((¬ (0 ≤ (Int32.toInt64 p0))) ∨ (¬ ((Int32.toInt64 p0) ≤ 1))))) ∧ (-2) = r ∧ [] = u))) 0 0 := by
  refine cQ.of (by decide) (Nat.le_of_ble_eq_true rfl) (fun p e s m below meth c A ls C hsz hP hK hD hA hl => ?_)
  obtain ⟨hx, hb, hml, hown, hB, hr, hlocks, hin⟩ := C
  have hown : s.vm.findClass RX12 = some m.cls := hown
  have hS : va_S A s.heap s.heap [] := va_S.rf
  have hl : lv_has ls 2 [(0, .ref h0), (1, .int p0)] := hl
  refine lv_iload_n hx hb dX12_can_0 rfl (lv_at hl 1 rfl) ?_
  refine kc_i (va_runS (As := [.int p0]) (rest := []) ⟨hx, hb, hml, hown, hB⟩ (c149_X12_isGiving l D ty s.heap.size p0) (va_cwS 1 hB (bw_S mw_469 mw_470 mw_211 mw_468) rfl rfl rfl (by decide +kernel) ⟨Nat.le_of_ble_eq_true rfl, Nat.le_of_ble_eq_true rfl⟩) (kp_S hK hP hD [] (by decide) rfl) rfl rfl hl.1 rfl (lv_room (Nat.le_of_ble_eq_true rfl)) dX12_can_1 ⟨Nat.le_of_ble_eq_true rfl, Nat.le_of_ble_eq_true rfl⟩) hP hD hS hA [] [0, 1, 2] (wr := [(h0, .inr (12, [v0, .ref h1, v1, v2, v3, v4, v5, v6, v7, v8, v9, v10, v11, v12, v13, v14, v15, .ref h2, v16, v17, v18, v19, v20, v21, v22, v23, v24, v25, v26, v27, v28, v29, v30, v31, v32, v33, v34, v35])), (h1, .inl (ty 1, 304, .inl (upd (upd (kf 0) 1 2) 4 (-1)))), (h2, .inl (ty 1, 256, .inl f0))]) rfl rfl (by decide) (by decide) (fun r u H locs w1 hP hD hS => ?_)
  rcases w1 with ⟨c2, rfl, rfl⟩ | ⟨c3, rfl, rfl⟩
  · have hP : va_P D vwCl [(h0, .inr (12, [v0, .ref h1, v1, v2, v3, v4, v5, v6, v7, v8, v9, v10, v11, v12, v13, v14, v15, .ref h2, v16, v17, v18, v19, v20, v21, v22, v23, v24, v25, v26, v27, v28, v29, v30, v31, v32, v33, v34, v35])), (h1, .inl (ty 1, 304, .inl (upd (upd (kf 0) 1 2) 4 (-1)))), (h2, .inl (ty 1, 256, .inl f0))] H := hP
    have hD : va_D A [(h0, .inr (12, [v0, .ref h1, v1, v2, v3, v4, v5, v6, v7, v8, v9, v10, v11, v12, v13, v14, v15, .ref h2, v16, v17, v18, v19, v20, v21, v22, v23, v24, v25, v26, v27, v28, v29, v30, v31, v32, v33, v34, v35])), (h1, .inl (ty 1, 304, .inl (upd (upd (kf 0) 1 2) 4 (-1)))), (h2, .inl (ty 1, 256, .inl f0))] := hD
    refine lv_if_ne (tgt := 10) hx hb dX12_can_4 (by decide) (fun _ => ?_) (fun h9 => absurd h9 (by decide))
    refine lv_aload_n hx hb dX12_can_10 rfl (lv_at hl 0 rfl) ?_
    refine lv_iload_n hx hb dX12_can_11 rfl (lv_at hl 1 rfl) ?_
    refine kc_v (va_runV (As := [.int p0]) (rest := []) ⟨hx, hb, hml, hown, hB⟩ (c156_X12_tries l D ty H.size h0 h1 p0 v0 v1 v2 v3 v4 v5 v6 v7 v8 v9 v10 v11 v12 v13 v14 v15 (.ref h2) v16 v17 v18 v19 v20 v21 v22 v23 v24 v25 v26 v27 v28 v29 v30 v31 v32 v33 v34 v35) (cwV 1 hB (bw_V mw_480 mw_481 mw_482 mw_211 mw_479) rfl rfl rfl (by decide +kernel) ⟨Nat.le_of_ble_eq_true rfl, Nat.le_of_ble_eq_true rfl⟩) (kp_V hK hP hD [0, 1] (by decide) rfl 0 rfl rfl rfl) rfl rfl hl.1 rfl (lv_room (Nat.le_of_ble_eq_true rfl)) dX12_can_12 ⟨Nat.le_of_ble_eq_true rfl, Nat.le_of_ble_eq_true rfl⟩) hP hD hS hA [0, 1] [2] (wr := [(h2, .inl (ty 1, 256, .inl f0))]) rfl rfl (by decide) (by decide) (fun u H locs w4 hP hD hS => ?_)
    subst w4
    have hP : va_P D vwCl [(h2, .inl (ty 1, 256, .inl f0)), (h0, .inr (12, [v0, .ref h1, v1, v2, v3, v4, v5, v6, v7, v8, v9, v10, v11, v12, v13, v14, v15, .ref h2, v16, v17, v18, v19, v20, v21, v22, v23, v24, v25, v26, v27, v28, v29, v30, v31, v32, v33, v34, v35])), (h1, .inl (ty 1, 304, .inl (upd (upd (kf 0) 1 2) 4 (-1))))] H := hP
    have hD : va_D A [(h2, .inl (ty 1, 256, .inl f0)), (h0, .inr (12, [v0, .ref h1, v1, v2, v3, v4, v5, v6, v7, v8, v9, v10, v11, v12, v13, v14, v15, .ref h2, v16, v17, v18, v19, v20, v21, v22, v23, v24, v25, v26, v27, v28, v29, v30, v31, v32, v33, v34, v35])), (h1, .inl (ty 1, 304, .inl (upd (upd (kf 0) 1 2) 4 (-1))))] := hD
    refine lv_aload_n hx hb dX12_can_15 rfl (lv_at hl 0 rfl) ?_
    refine kc_i (va_runV (As := []) (rest := []) ⟨hx, hb, hml, hown, hB⟩ (c169_X12_canEnd l D ty H.size h0 h1 h2 v0 v1 v2 v3 v4 v5 v6 v7 v8 v9 v10 v11 v12 v13 v14 v15 v16 v17 v18 v19 v20 v21 v22 v23 v24 v25 v26 v27 v28 v29 v30 v31 v32 v33 v34 v35 f0) (cwV 0 hB (bw_V mw_508 mw_509 mw_510 mw_211 mw_507) rfl rfl rfl (by decide +kernel) ⟨Nat.le_of_ble_eq_true rfl, Nat.le_of_ble_eq_true rfl⟩) (kp_V hK hP hD [1, 2, 0] (by decide) rfl 1 rfl rfl rfl) rfl rfl hl.1 rfl (lv_room (Nat.le_of_ble_eq_true rfl)) dX12_can_16 ⟨Nat.le_of_ble_eq_true rfl, Nat.le_of_ble_eq_true rfl⟩) hP hD hS hA [1, 2, 0] [] (wr := []) rfl rfl (by decide) (by decide) (fun r u H locs w5 hP hD hS => ?_)
    obtain ⟨rfl, rfl⟩ := w5
    have hP : va_P D vwCl [(h2, .inl (ty 1, 256, .inl (upd (upd (upd (upd f0 0 0) 1 1000000) 16 1000000) 17 0))), (h0, .inr (12, [v0, .ref h1, v1, v2, v3, v4, v5, v6, v7, v8, v9, v10, v11, v12, v13, v14, v15, .ref h2, v16, v17, v18, v19, v20, v21, v22, v23, v24, v25, v26, v27, v28, v29, v30, v31, v32, v33, v34, v35])), (h1, .inl (ty 1, 304, .inl (upd (upd (kf 0) 1 2) 4 (-1))))] H := hP
    have hD : va_D A [(h2, .inl (ty 1, 256, .inl (upd (upd (upd (upd f0 0 0) 1 1000000) 16 1000000) 17 0))), (h0, .inr (12, [v0, .ref h1, v1, v2, v3, v4, v5, v6, v7, v8, v9, v10, v11, v12, v13, v14, v15, .ref h2, v16, v17, v18, v19, v20, v21, v22, v23, v24, v25, v26, v27, v28, v29, v30, v31, v32, v33, v34, v35])), (h1, .inl (ty 1, 304, .inl (upd (upd (kf 0) 1 2) 4 (-1))))] := hD
    refine lv_if_eq (tgt := 26) hx hb dX12_can_19 (by decide) (fun _ => ?_) (fun h9 => absurd (by decide) h9)
    refine lv_iconst (v := 0) hx hb dX12_can_26 (by decide) ?_
    exact kr_z hx hb hr rfl hlocks hP hD hS [] [] (by decide) rfl (Or.inl ⟨c2, rfl, rfl⟩) (by decide) (by decide) dX12_can_27
  · have hP : va_P D vwCl [(h0, .inr (12, [v0, .ref h1, v1, v2, v3, v4, v5, v6, v7, v8, v9, v10, v11, v12, v13, v14, v15, .ref h2, v16, v17, v18, v19, v20, v21, v22, v23, v24, v25, v26, v27, v28, v29, v30, v31, v32, v33, v34, v35])), (h1, .inl (ty 1, 304, .inl (upd (upd (kf 0) 1 2) 4 (-1)))), (h2, .inl (ty 1, 256, .inl f0))] H := hP
    have hD : va_D A [(h0, .inr (12, [v0, .ref h1, v1, v2, v3, v4, v5, v6, v7, v8, v9, v10, v11, v12, v13, v14, v15, .ref h2, v16, v17, v18, v19, v20, v21, v22, v23, v24, v25, v26, v27, v28, v29, v30, v31, v32, v33, v34, v35])), (h1, .inl (ty 1, 304, .inl (upd (upd (kf 0) 1 2) 4 (-1)))), (h2, .inl (ty 1, 256, .inl f0))] := hD
    refine lv_if_ne (tgt := 10) hx hb dX12_can_4 (by decide) (fun h9 => absurd (by decide) h9) (fun _ => ?_)
    refine lv_bipush (v := (-2)) hx hb dX12_can_7 (by decide) ?_
    exact kr_z hx hb hr rfl hlocks hP hD hS [] [] (by decide) rfl (Or.inr ⟨c3, rfl, rfl⟩) (by decide) (by decide) dX12_can_9
