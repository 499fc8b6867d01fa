set_option maxHeartbeats 4000000 in
set_option maxRecDepth 100000 in
theorem c212_X12_load (l : Launch) (D : va_G) (ty : Nat → ClassId) (sz : Nat) (h0 : Nat) (h1 : Nat) (p0 : Int32) (p1 : Int32) (v0 : Value) (v1 : Value) (v2 : Value) (v3 : Value) (v4 : Value) (v5 : Value) (v6 : Value) (v7 : Value) (v8 : Value) (v9 : Value) (v10 : Value) (v11 : Value) (v12 : Value) (v13 : Value) (v14 : Value) (v15 : Value) (v16 : Value) (v17 : Value) (v18 : Value) (v19 : Value) (v20 : Value) (v21 : Value) (v22 : Value) (v23 : Value) (v24 : Value) (v25 : Value) (v26 : Value) (v27 : Value) (v28 : Value) (v29 : Value) (v30 : Value) (v31 : Value) (v32 : Value) (v33 : Value) (v34 : Value) (v35 : Value) (v36 : Value) : cQ l yX12_load cX12_load 3 (some .int) 2 46 [.ref h0, .int p0, .int p1] D ty [(h0, .inr (12, [v0, .ref h1, v1, v2, v3, v4, v5, v6, v7, v8, v9, v10, v11, v12, v13, v14, v15, v16, v17, v18, v19, v20, v21, v22, v23, v24, v25, v26, v27, v28, v29, v30, v31, v32, v33, v34, v35, v36])), (h1, .inl (ty 1, 304, .inl (upd (upd (kf 0) 1 2) 4 (-1))))] sz (qI (fun (r : Int32) (u : va_W) => (-2) = r ∧ [] = u)) 0 0 := by
  refine cQ.of (by decide) (Nat.le_of_ble_eq_true rfl) (fun p e s m below meth c A ls C hsz hP hK hD hA hl => ?_)
  obtain ⟨hx, hb, hml, hown, hB, hr, hlocks, hin⟩ := C
  have hown : s.vm.findClass RX12 = some m.cls := hown
  have hS : va_S A s.heap s.heap [] := va_S.rf
  have hl : lv_has ls 3 [(0, .ref h0), (1, .int p0), (2, .int p1)] := hl
  refine lv_iload_n hx hb dX12_load_0 rfl (lv_at hl 1 rfl) ?_
  refine kc_i (va_runS (As := [.int p0]) (rest := []) ⟨hx, hb, hml, hown, hB⟩ (c149_X12_isGiving l D ty s.heap.size p0) (va_cwS 1 hB (bw_S mw_469 mw_470 mw_211 mw_468) rfl rfl rfl (by decide +kernel) ⟨Nat.le_of_ble_eq_true rfl, Nat.le_of_ble_eq_true rfl⟩) (kp_S hK hP hD [] (by decide) rfl) rfl rfl hl.1 rfl (lv_room (Nat.le_of_ble_eq_true rfl)) dX12_load_1 ⟨Nat.le_of_ble_eq_true rfl, Nat.le_of_ble_eq_true rfl⟩) hP hD hS hA [] [0, 1] (wr := [(h0, .inr (12, [v0, .ref h1, v1, v2, v3, v4, v5, v6, v7, v8, v9, v10, v11, v12, v13, v14, v15, v16, v17, v18, v19, v20, v21, v22, v23, v24, v25, v26, v27, v28, v29, v30, v31, v32, v33, v34, v35, v36])), (h1, .inl (ty 1, 304, .inl (upd (upd (kf 0) 1 2) 4 (-1))))]) rfl rfl (by decide) (by decide) (fun r u H locs w1 hP hD hS => ?_)
  rcases w1 with ⟨c2, rfl, rfl⟩ | ⟨c3, rfl, rfl⟩
  · have hP : va_P D vwCl [(h0, .inr (12, [v0, .ref h1, v1, v2, v3, v4, v5, v6, v7, v8, v9, v10, v11, v12, v13, v14, v15, v16, v17, v18, v19, v20, v21, v22, v23, v24, v25, v26, v27, v28, v29, v30, v31, v32, v33, v34, v35, v36])), (h1, .inl (ty 1, 304, .inl (upd (upd (kf 0) 1 2) 4 (-1))))] H := hP
    have hD : va_D A [(h0, .inr (12, [v0, .ref h1, v1, v2, v3, v4, v5, v6, v7, v8, v9, v10, v11, v12, v13, v14, v15, v16, v17, v18, v19, v20, v21, v22, v23, v24, v25, v26, v27, v28, v29, v30, v31, v32, v33, v34, v35, v36])), (h1, .inl (ty 1, 304, .inl (upd (upd (kf 0) 1 2) 4 (-1))))] := hD
    refine lv_if_eq (tgt := 15) hx hb dX12_load_4 (by decide) (fun h9 => absurd h9 (by decide)) (fun _ => ?_)
    refine lv_aload_n hx hb dX12_load_7 rfl (lv_at hl 0 rfl) ?_
    refine lv_iload_n hx hb dX12_load_8 rfl (lv_at hl 2 rfl) ?_
    refine kc_i (va_runV (As := [.int p1]) (rest := []) ⟨hx, hb, hml, hown, hB⟩ (c150_X12_isAlley l D ty H.size h0 h1 p1 v0 v1 v2 v3 v4 v5 v6 v7 v8 v9 v10 v11 v12 v13 v14 v15 v16 v17 v18 v19 v20 v21 v22 v23 v24 v25 v26 v27 v28 v29 v30 v31 v32 v33 v34 v35 v36) (cwV 1 hB (bw_V mw_472 mw_473 mw_474 mw_211 mw_471) rfl rfl rfl (by decide +kernel) ⟨Nat.le_of_ble_eq_true rfl, Nat.le_of_ble_eq_true rfl⟩) (kp_V hK hP hD [0, 1] (by decide) rfl 0 rfl rfl rfl) rfl rfl hl.1 rfl (lv_room (Nat.le_of_ble_eq_true rfl)) dX12_load_9 ⟨Nat.le_of_ble_eq_true rfl, Nat.le_of_ble_eq_true rfl⟩) hP hD hS hA [0, 1] [] (wr := []) rfl rfl (by decide) (by decide) (fun r u H locs w4 hP hD hS => ?_)
    obtain ⟨rfl, rfl⟩ := w4
    have hP : va_P D vwCl [(h0, .inr (12, [v0, .ref h1, v1, v2, v3, v4, v5, v6, v7, v8, v9, v10, v11, v12, v13, v14, v15, v16, v17, v18, v19, v20, v21, v22, v23, v24, v25, v26, v27, v28, v29, v30, v31, v32, v33, v34, v35, v36])), (h1, .inl (ty 1, 304, .inl (upd (upd (kf 0) 1 2) 4 (-1))))] H := hP
    have hD : va_D A [(h0, .inr (12, [v0, .ref h1, v1, v2, v3, v4, v5, v6, v7, v8, v9, v10, v11, v12, v13, v14, v15, v16, v17, v18, v19, v20, v21, v22, v23, v24, v25, v26, v27, v28, v29, v30, v31, v32, v33, v34, v35, v36])), (h1, .inl (ty 1, 304, .inl (upd (upd (kf 0) 1 2) 4 (-1))))] := hD
    refine lv_if_ne (tgt := 18) hx hb dX12_load_12 (by decide) (fun h9 => absurd (by decide) h9) (fun _ => ?_)
    refine lv_bipush (v := (-2)) hx hb dX12_load_15 (by decide) ?_
    exact kr_z hx hb hr rfl hlocks hP hD hS [] [] (by decide) rfl ⟨rfl, rfl⟩ (by decide) (by decide) dX12_load_17
  · have hP : va_P D vwCl [(h0, .inr (12, [v0, .ref h1, v1, v2, v3, v4, v5, v6, v7, v8, v9, v10, v11, v12, v13, v14, v15, v16, v17, v18, v19, v20, v21, v22, v23, v24, v25, v26, v27, v28, v29, v30, v31, v32, v33, v34, v35, v36])), (h1, .inl (ty 1, 304, .inl (upd (upd (kf 0) 1 2) 4 (-1))))] H := hP
    have hD : va_D A [(h0, .inr (12, [v0, .ref h1, v1, v2, v3, v4, v5, v6, v7, v8, v9, v10, v11, v12, v13, v14, v15, v16, v17, v18, v19, v20, v21, v22, v23, v24, v25, v26, v27, v28, v29, v30, v31, v32, v33, v34, v35, v36])), (h1, .inl (ty 1, 304, .inl (upd (upd (kf 0) 1 2) 4 (-1))))] := hD
    refine lv_if_eq (tgt := 15) hx hb dX12_load_4 (by decide) (fun _ => ?_) (fun h9 => absurd (by decide) h9)
    refine lv_bipush (v := (-2)) hx hb dX12_load_15 (by decide) ?_
    exact kr_z hx hb hr rfl hlocks hP hD hS [] [] (by decide) rfl ⟨rfl, rfl⟩ (by decide) (by decide) dX12_load_17
set_option maxHeartbeats 4000000 in
set_option maxRecDepth 100000 in
theorem c213_X12_busiest (l : Launch) (D : va_G) (ty : Nat → ClassId) (sz : Nat) (h0 : Nat) (h1 : Nat) (h2 : Nat) (p0 : Int32) (v0 : Value) (v1 : Value) (v2 : Value) (v3 : Value) (v4 : Value) (v5 : Value) (v6 : Value) (v7 : Value) (v8 : Value) (v9 : Value) (v10 : Value) (v11 : Value) (v12 : Value) (v13 : Value) (v14 : Value) (v15 : Value) (v16 : Value) (v17 : Value) (v18 : Value) (v19 : Value) (v20 : Value) (v21 : Value) (v22 : Value) (v23 : Value) (v24 : Value) (v25 : Value) (v26 : Value) (v27 : Value) (v28 : Value) (v29 : Value) (v30 : Value) (v31 : Value) (v32 : Value) (v33 : Value) (v34 : Value) (v35 : Value) (f0 : Nat → Int32) : cQ l yX12_busiest cX12_busiest 4 (some .int) 3 69 [.ref h0, .int p0] D ty [(h0, .inr (12, [v0, .ref h1, v1, v2, v3, v4, v5, v6, v7, v8, v9, v10, v11, v12, v13, v14, v15, .ref h2, v16, v17, v18, v19, v20, v21, v22, v23, v24, v25, v26, v27, v28, v29, v30, v31, v32, v33, v34, v35])), (h1, .inl (ty 1, 304, .inl (upd (upd (kf 0) 1 2) 4 (-1)))), (h2, .inl (ty 1, 256, .inl f0))] sz (qI (fun (r : Int32) (u : va_W) => (((((0 ≤ (Int32.toInt64 p0)) ∧ ((Int32.toInt64 p0) ≤ 1)))) ∧ (-1) = r ∧ [] = u) ∨ (((((¬ (0 ≤ (Int32.toInt64 p0))) ∨ (¬ ((Int32.toInt64 p0) ≤ 1))))) ∧ (-2) = r ∧ [] = u))) 0 0 := by
  refine cQ.of (by decide) (Nat.le_of_ble_eq_true rfl) (fun p e s m below meth c A ls C hsz hP hK hD hA hl => ?_)
  obtain ⟨hx, hb, hml, hown, hB, hr, hlocks, hin⟩ := C
  have hown : s.vm.findClass RX12 = some m.cls := hown
  have hS : va_S A s.heap s.heap [] := va_S.rf
  have hl : lv_has ls 4 [(0, .ref h0), (1, .int p0)] := hl
  refine lv_iload_n hx hb dX12_busiest_0 rfl (lv_at hl 1 rfl) ?_
  refine kc_i (va_runS (As := [.int p0]) (rest := []) ⟨hx, hb, hml, hown, hB⟩ (c149_X12_isGiving l D ty s.heap.size p0) (va_cwS 1 hB (bw_S mw_469 mw_470 mw_211 mw_468) rfl rfl rfl (by decide +kernel) ⟨Nat.le_of_ble_eq_true rfl, Nat.le_of_ble_eq_true rfl⟩) (kp_S hK hP hD [] (by decide) rfl) rfl rfl hl.1 rfl (lv_room (Nat.le_of_ble_eq_true rfl)) dX12_busiest_1 ⟨Nat.le_of_ble_eq_true rfl, Nat.le_of_ble_eq_true rfl⟩) hP hD hS hA [] [0, 1, 2] (wr := [(h0, .inr (12, [v0, .ref h1, v1, v2, v3, v4, v5, v6, v7, v8, v9, v10, v11, v12, v13, v14, v15, .ref h2, v16, v17, v18, v19, v20, v21, v22, v23, v24, v25, v26, v27, v28, v29, v30, v31, v32, v33, v34, v35])), (h1, .inl (ty 1, 304, .inl (upd (upd (kf 0) 1 2) 4 (-1)))), (h2, .inl (ty 1, 256, .inl f0))]) rfl rfl (by decide) (by decide) (fun r u H locs w1 hP hD hS => ?_)
  rcases w1 with ⟨c2, rfl, rfl⟩ | ⟨c3, rfl, rfl⟩
  · have hP : va_P D vwCl [(h0, .inr (12, [v0, .ref h1, v1, v2, v3, v4, v5, v6, v7, v8, v9, v10, v11, v12, v13, v14, v15, .ref h2, v16, v17, v18, v19, v20, v21, v22, v23, v24, v25, v26, v27, v28, v29, v30, v31, v32, v33, v34, v35])), (h1, .inl (ty 1, 304, .inl (upd (upd (kf 0) 1 2) 4 (-1)))), (h2, .inl (ty 1, 256, .inl f0))] H := hP
    have hD : va_D A [(h0, .inr (12, [v0, .ref h1, v1, v2, v3, v4, v5, v6, v7, v8, v9, v10, v11, v12, v13, v14, v15, .ref h2, v16, v17, v18, v19, v20, v21, v22, v23, v24, v25, v26, v27, v28, v29, v30, v31, v32, v33, v34, v35])), (h1, .inl (ty 1, 304, .inl (upd (upd (kf 0) 1 2) 4 (-1)))), (h2, .inl (ty 1, 256, .inl f0))] := hD
    refine lv_if_ne (tgt := 10) hx hb dX12_busiest_4 (by decide) (fun _ => ?_) (fun h9 => absurd h9 (by decide))
    refine lv_aload_n hx hb dX12_busiest_10 rfl (lv_at hl 0 rfl) ?_
    refine lv_iload_n hx hb dX12_busiest_11 rfl (lv_at hl 1 rfl) ?_
    refine kc_v (va_runV (As := [.int p0]) (rest := []) ⟨hx, hb, hml, hown, hB⟩ (c156_X12_tries l D ty H.size h0 h1 p0 v0 v1 v2 v3 v4 v5 v6 v7 v8 v9 v10 v11 v12 v13 v14 v15 (.ref h2) v16 v17 v18 v19 v20 v21 v22 v23 v24 v25 v26 v27 v28 v29 v30 v31 v32 v33 v34 v35) (cwV 1 hB (bw_V mw_480 mw_481 mw_482 mw_211 mw_479) rfl rfl rfl (by decide +kernel) ⟨Nat.le_of_ble_eq_true rfl, Nat.le_of_ble_eq_true rfl⟩) (kp_V hK hP hD [0, 1] (by decide) rfl 0 rfl rfl rfl) rfl rfl hl.1 rfl (lv_room (Nat.le_of_ble_eq_true rfl)) dX12_busiest_12 ⟨Nat.le_of_ble_eq_true rfl, Nat.le_of_ble_eq_true rfl⟩) hP hD hS hA [0, 1] [2] (wr := [(h2, .inl (ty 1, 256, .inl f0))]) rfl rfl (by decide) (by decide) (fun u H locs w4 hP hD hS => ?_)
    subst w4
    have hP : va_P D vwCl [(h2, .inl (ty 1, 256, .inl f0)), (h0, .inr (12, [v0, .ref h1, v1, v2, v3, v4, v5, v6, v7, v8, v9, v10, v11, v12, v13, v14, v15, .ref h2, v16, v17, v18, v19, v20, v21, v22, v23, v24, v25, v26, v27, v28, v29, v30, v31, v32, v33, v34, v35])), (h1, .inl (ty 1, 304, .inl (upd (upd (kf 0) 1 2) 4 (-1))))] H := hP
    have hD : va_D A [(h2, .inl (ty 1, 256, .inl f0)), (h0, .inr (12, [v0, .ref h1, v1, v2, v3, v4, v5, v6, v7, v8, v9, v10, v11, v12, v13, v14, v15, .ref h2, v16, v17, v18, v19, v20, v21, v22, v23, v24, v25, v26, v27, v28, v29, v30, v31, v32, v33, v34, v35])), (h1, .inl (ty 1, 304, .inl (upd (upd (kf 0) 1 2) 4 (-1))))] := hD
    refine lv_aload_n hx hb dX12_busiest_15 rfl (lv_at hl 0 rfl) ?_
    refine kc_v (va_runV (As := []) (rest := []) ⟨hx, hb, hml, hown, hB⟩ (c158_X12_measure l D ty H.size h0 h1 h2 v0 v1 v2 v3 v4 v5 v6 v7 v8 v9 v10 v11 v12 v13 v14 v15 v16 v17 v18 v19 v20 v21 v22 v23 v24 v25 v26 v27 v28 v29 v30 v31 v32 v33 v34 v35 f0) (cwV 0 hB (bw_V mw_496 mw_497 mw_498 mw_211 mw_495) rfl rfl rfl (by decide +kernel) ⟨Nat.le_of_ble_eq_true rfl, Nat.le_of_ble_eq_true rfl⟩) (kp_V hK hP hD [1, 2, 0] (by decide) rfl 1 rfl rfl rfl) rfl rfl hl.1 rfl (lv_room (Nat.le_of_ble_eq_true rfl)) dX12_busiest_16 ⟨Nat.le_of_ble_eq_true rfl, Nat.le_of_ble_eq_true rfl⟩) hP hD hS hA [1, 2, 0] [] (wr := []) rfl rfl (by decide) (by decide) (fun u H locs w5 hP hD hS => ?_)
    subst w5
    have hP : va_P D vwCl [(h0, .inr (12, [v0, .ref h1, v1, v2, v3, v4, v5, v6, v7, v8, v9, v10, v11, v12, v13, v14, v15, .ref h2, v16, v17, v18, v19, v20, v21, v22, v23, v24, v25, v26, v27, v28, v29, v30, v31, v32, v33, v34, v35])), (h1, .inl (ty 1, 304, .inl (upd (upd (kf 0) 1 2) 4 (-1)))), (h2, .inl (ty 1, 256, .inl (upd (upd (upd (upd f0 0 0) 1 1000000) 16 1000000) 17 0)))] H := hP
    have hD : va_D A [(h0, .inr (12, [v0, .ref h1, v1, v2, v3, v4, v5, v6, v7, v8, v9, v10, v11, v12, v13, v14, v15, .ref h2, v16, v17, v18, v19, v20, v21, v22, v23, v24, v25, v26, v27, v28, v29, v30, v31, v32, v33, v34, v35])), (h1, .inl (ty 1, 304, .inl (upd (upd (kf 0) 1 2) 4 (-1)))), (h2, .inl (ty 1, 256, .inl (upd (upd (upd (upd f0 0 0) 1 1000000) 16 1000000) 17 0)))] := hD
    refine lv_iconst (v := (-1)) hx hb dX12_busiest_19 (by decide) ?_
    refine lv_istore_n (lv' := [(2, .int (-1)), (0, .ref h0), (1, .int p0)]) hx hb dX12_busiest_20 rfl hl (by decide) rfl (fun ls hl => ?_)
    refine lv_iconst (v := 0) hx hb dX12_busiest_21 (by decide) ?_
    refine lv_istore_n (lv' := [(3, .int 0), (2, .int (-1)), (0, .ref h0), (1, .int p0)]) hx hb dX12_busiest_22 rfl hl (by decide) rfl (fun ls hl => ?_)
    refine lv_iload_n hx hb dX12_busiest_23 rfl (lv_at hl 0 rfl) ?_
    refine lv_aload_n hx hb dX12_busiest_24 rfl (lv_at hl 2 rfl) ?_
    refine kc_i (va_runV (As := []) (rest := [.int 0]) ⟨hx, hb, hml, hown, hB⟩ (c146_X12_alleys l D ty H.size h0 h1 v0 v1 v2 v3 v4 v5 v6 v7 v8 v9 v10 v11 v12 v13 v14 v15 (.ref h2) v16 v17 v18 v19 v20 v21 v22 v23 v24 v25 v26 v27 v28 v29 v30 v31 v32 v33 v34 v35) (cwV 0 hB (bw_V mw_465 mw_466 mw_467 mw_211 mw_464) rfl rfl rfl (by decide +kernel) ⟨Nat.le_of_ble_eq_true rfl, Nat.le_of_ble_eq_true rfl⟩) (kp_V hK hP hD [0, 1] (by decide) rfl 0 rfl rfl rfl) rfl rfl hl.1 rfl (lv_room (Nat.le_of_ble_eq_true rfl)) dX12_busiest_25 ⟨Nat.le_of_ble_eq_true rfl, Nat.le_of_ble_eq_true rfl⟩) hP hD hS hA [0, 1] [2] (wr := [(h2, .inl (ty 1, 256, .inl (upd (upd (upd (upd f0 0 0) 1 1000000) 16 1000000) 17 0)))]) rfl rfl (by decide) (by decide) (fun r u H locs w6 hP hD hS => ?_)
    obtain ⟨rfl, rfl⟩ := w6
    have hP : va_P D vwCl [(h2, .inl (ty 1, 256, .inl (upd (upd (upd (upd f0 0 0) 1 1000000) 16 1000000) 17 0))), (h0, .inr (12, [v0, .ref h1, v1, v2, v3, v4, v5, v6, v7, v8, v9, v10, v11, v12, v13, v14, v15, .ref h2, v16, v17, v18, v19, v20, v21, v22, v23, v24, v25, v26, v27, v28, v29, v30, v31, v32, v33, v34, v35])), (h1, .inl (ty 1, 304, .inl (upd (upd (kf 0) 1 2) 4 (-1))))] H := hP
    have hD : va_D A [(h2, .inl (ty 1, 256, .inl (upd (upd (upd (upd f0 0 0) 1 1000000) 16 1000000) 17 0))), (h0, .inr (12, [v0, .ref h1, v1, v2, v3, v4, v5, v6, v7, v8, v9, v10, v11, v12, v13, v14, v15, .ref h2, v16, v17, v18, v19, v20, v21, v22, v23, v24, v25, v26, v27, v28, v29, v30, v31, v32, v33, v34, v35])), (h1, .inl (ty 1, 304, .inl (upd (upd (kf 0) 1 2) 4 (-1))))] := hD
    refine lv_icmp_ge (tgt := 57) hx hb dX12_busiest_28 (by decide) (fun _ => ?_) (fun h9 => absurd (by decide) h9)
    refine lv_iload_n hx hb dX12_busiest_57 rfl (lv_at hl 1 rfl) ?_
    exact kr_z hx hb hr rfl hlocks hP hD hS [] [] (by decide) rfl (Or.inl ⟨c2, rfl, rfl⟩) (by decide) (by decide) dX12_busiest_58
  · have hP : va_P D vwCl [(h0, .inr (12, [v0, .ref h1, v1, v2, v3, v4, v5, v6, v7, v8, v9, v10, v11, v12, v13, v14, v15, .ref h2, v16, v17, v18, v19, v20, v21, v22, v23, v24, v25, v26, v27, v28, v29, v30, v31, v32, v33, v34, v35])), (h1, .inl (ty 1, 304, .inl (upd (upd (kf 0) 1 2) 4 (-1)))), (h2, .inl (ty 1, 256, .inl f0))] H := hP
    have hD : va_D A [(h0, .inr (12, [v0, .ref h1, v1, v2, v3, v4, v5, v6, v7, v8, v9, v10, v11, v12, v13, v14, v15, .ref h2, v16, v17, v18, v19, v20, v21, v22, v23, v24, v25, v26, v27, v28, v29, v30, v31, v32, v33, v34, v35])), (h1, .inl (ty 1, 304, .inl (upd (upd (kf 0) 1 2) 4 (-1)))), (h2, .inl (ty 1, 256, .inl f0))] := hD
    refine lv_if_ne (tgt := 10) hx hb dX12_busiest_4 (by decide) (fun h9 => absurd (by decide) h9) (fun _ => ?_)
    refine lv_bipush (v := (-2)) hx hb dX12_busiest_7 (by decide) ?_
    exact kr_z hx hb hr rfl hlocks hP hD hS [] [] (by decide) rfl (Or.inr ⟨c3, rfl, rfl⟩) (by decide) (by decide) dX12_busiest_9
set_option maxHeartbeats 4000000 in
set_option maxRecDepth 100000 in
theorem c214_X12_judge (l : Launch) (D : va_G) (ty : Nat → ClassId) (sz : Nat) (h0 : Nat) (h1 : Nat) (p0 : Int32) (p1 : Int32) (v0 : Value) (v1 : Value) (v2 : Value) (v3 : Value) (v4 : Value) (v5 : Value) (v6 : Value) (v7 : Value) (v8 : Value) (v9 : Value) (v10 : Value) (v11 : Value) (v12 : Value) (v13 : Value) (v14 : Value) (v15 : Value) (v16 : Value) (v17 : Value) (v18 : Value) (v19 : Value) (v20 : Value) (v21 : Value) (v22 : Value) (v23 : Value) (v24 : Value) (v25 : Value) (v26 : Value) (v27 : Value) (v28 : Value) (v29 : Value) (v30 : Value) (v31 : Value) (v32 : Value) (v33 : Value) (v34 : Value) (v35 : Value) (v36 : Value) : cQ l yX12_judge cX12_judge 6 (some .int) 2 45 [.ref h0, .int p0, .int p1] D ty [(h0, .inr (12, [v0, v1, v2, v3, v4, v5, v6, v7, v8, v9, v10, v11, v12, v13, v14, v15, v16, v17, v18, v19, v20, v21, v22, v23, v24, v25, v26, v27, v28, v29, v30, v31, v32, v33, .ref h1, v34, v35, v36])), (h1, .inl (ty 1, 4, .inl (upd (upd (upd (upd (kf 0) 0 (-1)) 1 (-1)) 2 (-1)) 3 (-1))))] sz (qI (fun (r : Int32) (u : va_W) => ((((((0 ≤ (Int32.toInt64 p0)) ∧ ((Int32.toInt64 p0) ≤ 3))) ∧ ((0 ≤ (Int32.toInt64 p1)) ∧ ((Int32.toInt64 p1) ≤ 6)) ∧ (p0 = 0)) ∨ ((((0 ≤ (Int32.toInt64 p0)) ∧ ((Int32.toInt64 p0) ≤ 3))) ∧ ((0 ≤ (Int32.toInt64 p1)) ∧ ((Int32.toInt64 p1) ≤ 6)) ∧ (p0 = 1)) ∨ ((((0 ≤ (Int32.toInt64 p0)) ∧ ((Int32.toInt64 p0) ≤ 3))) ∧ ((0 ≤ (Int32.toInt64 p1)) ∧ ((Int32.toInt64 p1) ≤ 6)) ∧ (p0 = 2)) ∨ ((((0 ≤ (Int32.toInt64 p0)) ∧ ((Int32.toInt64 p0) ≤ 3))) ∧ ((0 ≤ (Int32.toInt64 p1)) ∧ ((Int32.toInt64 p1) ≤ 6)) ∧ (p0 = 3))) ∧ (-6) = r ∧ [] = u) ∨ ((((((0 ≤ (Int32.toInt64 p0)) ∧ ((Int32.toInt64 p0) ≤ 3))) ∧ ((¬ (0 ≤ (Int32.toInt64 p1))) ∨ (¬ ((Int32.toInt64 p1) ≤ 6)))) ∨ ((((¬ (0 ≤ (Int32.toInt64 p0))) ∨ (¬ ((Int32.toInt64 p0) ≤ 3)))))) ∧ (-2) = r ∧ [] = u))) 0 0 := by
  refine cQ.of (by decide) (Nat.le_of_ble_eq_true rfl) (fun p e s m below meth c A ls C hsz hP hK hD hA hl => ?_)
  obtain ⟨hx, hb, hml, hown, hB, hr, hlocks, hin⟩ := C
  have hown : s.vm.findClass RX12 = some m.cls := hown
  have hS : va_S A s.heap s.heap [] := va_S.rf
  have hl : lv_has ls 6 [(0, .ref h0), (1, .int p0), (2, .int p1)] := hl
  refine lv_iload_n hx hb dX12_judge_0 rfl (lv_at hl 1 rfl) ?_
  refine kc_i (va_runS (As := [.int p0]) (rest := []) ⟨hx, hb, hml, hown, hB⟩ (c152_X12_isSlot l D ty s.heap.size p0) (va_cwS 1 hB (bw_S mw_477 mw_478 mw_211 mw_476) rfl rfl rfl (by decide +kernel) ⟨Nat.le_of_ble_eq_true rfl, Nat.le_of_ble_eq_true rfl⟩) (kp_S hK hP hD [] (by decide) rfl) rfl rfl hl.1 rfl (lv_room (Nat.le_of_ble_eq_true rfl)) dX12_judge_1 ⟨Nat.le_of_ble_eq_true rfl, Nat.le_of_ble_eq_true rfl⟩) hP hD hS hA [] [0, 1] (wr := [(h0, .inr (12, [v0, v1, v2, v3, v4, v5, v6, v7, v8, v9, v10, v11, v12, v13, v14, v15, v16, v17, v18, v19, v20, v21, v22, v23, v24, v25, v26, v27, v28, v29, v30, v31, v32, v33, .ref h1, v34, v35, v36])), (h1, .inl (ty 1, 4, .inl (upd (upd (upd (upd (kf 0) 0 (-1)) 1 (-1)) 2 (-1)) 3 (-1))))]) rfl rfl (by decide) (by decide) (fun r u H locs w1 hP hD hS => ?_)
  rcases w1 with ⟨c2, rfl, rfl⟩ | ⟨c3, rfl, rfl⟩
  · have hP : va_P D vwCl [(h0, .inr (12, [v0, v1, v2, v3, v4, v5, v6, v7, v8, v9, v10, v11, v12, v13, v14, v15, v16, v17, v18, v19, v20, v21, v22, v23, v24, v25, v26, v27, v28, v29, v30, v31, v32, v33, .ref h1, v34, v35, v36])), (h1, .inl (ty 1, 4, .inl (upd (upd (upd (upd (kf 0) 0 (-1)) 1 (-1)) 2 (-1)) 3 (-1))))] H := hP
    have hD : va_D A [(h0, .inr (12, [v0, v1, v2, v3, v4, v5, v6, v7, v8, v9, v10, v11, v12, v13, v14, v15, v16, v17, v18, v19, v20, v21, v22, v23, v24, v25, v26, v27, v28, v29, v30, v31, v32, v33, .ref h1, v34, v35, v36])), (h1, .inl (ty 1, 4, .inl (upd (upd (upd (upd (kf 0) 0 (-1)) 1 (-1)) 2 (-1)) 3 (-1))))] := hD
    refine lv_if_eq (tgt := 19) hx hb dX12_judge_4 (by decide) (fun h9 => absurd h9 (by decide)) (fun _ => ?_)
    refine lv_iload_n hx hb dX12_judge_7 rfl (lv_at hl 2 rfl) ?_
    refine lv_i2l (v := (Int32.toInt64 p1)) hx hb dX12_judge_8 rfl ?_
    refine lv_lconst (v := 0) hx hb dX12_judge_9 (by decide) ?_
    refine lv_ldc2 hx hb hown (hB _ mw_547) dX12_judge_10 ?_
    refine kc_i (va_runS (As := [.long (Int32.toInt64 p1), .long 0, .long 6]) (rest := []) ⟨hx, hb, hml, hown, hB⟩ (c_in l D ty H.size (Int32.toInt64 p1) 0 6) (va_cwS 3 hB (bw_S mw_445 mw_446 mw_211 mw_444) rfl rfl rfl (by decide +kernel) ⟨Nat.le_of_ble_eq_true rfl, Nat.le_of_ble_eq_true rfl⟩) (kp_S hK hP hD [] (by decide) rfl) rfl rfl hl.1 rfl (lv_room (Nat.le_of_ble_eq_true rfl)) dX12_judge_13 ⟨Nat.le_of_ble_eq_true rfl, Nat.le_of_ble_eq_true rfl⟩) hP hD hS hA [] [0, 1] (wr := [(h0, .inr (12, [v0, v1, v2, v3, v4, v5, v6, v7, v8, v9, v10, v11, v12, v13, v14, v15, v16, v17, v18, v19, v20, v21, v22, v23, v24, v25, v26, v27, v28, v29, v30, v31, v32, v33, .ref h1, v34, v35, v36])), (h1, .inl (ty 1, 4, .inl (upd (upd (upd (upd (kf 0) 0 (-1)) 1 (-1)) 2 (-1)) 3 (-1))))]) rfl rfl (by decide) (by decide) (fun r u H locs w4 hP hD hS => ?_)
    rcases w4 with ⟨c5, rfl, rfl⟩ | ⟨c6, rfl, rfl⟩
    · have hP : va_P D vwCl [(h0, .inr (12, [v0, v1, v2, v3, v4, v5, v6, v7, v8, v9, v10, v11, v12, v13, v14, v15, v16, v17, v18, v19, v20, v21, v22, v23, v24, v25, v26, v27, v28, v29, v30, v31, v32, v33, .ref h1, v34, v35, v36])), (h1, .inl (ty 1, 4, .inl (upd (upd (upd (upd (kf 0) 0 (-1)) 1 (-1)) 2 (-1)) 3 (-1))))] H := hP
      have hD : va_D A [(h0, .inr (12, [v0, v1, v2, v3, v4, v5, v6, v7, v8, v9, v10, v11, v12, v13, v14, v15, v16, v17, v18, v19, v20, v21, v22, v23, v24, v25, v26, v27, v28, v29, v30, v31, v32, v33, .ref h1, v34, v35, v36])), (h1, .inl (ty 1, 4, .inl (upd (upd (upd (upd (kf 0) 0 (-1)) 1 (-1)) 2 (-1)) 3 (-1))))] := hD
      refine lv_if_ne (tgt := 22) hx hb dX12_judge_16 (by decide) (fun _ => ?_) (fun h9 => absurd h9 (by decide))
      refine lv_aload_n hx hb dX12_judge_22 rfl (lv_at hl 0 rfl) ?_
      refine va_get (D := D) (ci := 12) (v := .ref h1) (C := RX12) (T := TX12) (N := 38) hx hb hB inB_X12 hown hK.1 hP 0 rfl rfl 34 (by decide) (hB _ mw_204) (fun _ h9 => h9) rfl dX12_judge_23 ?_
      refine lv_iload_n hx hb dX12_judge_26 rfl (lv_at hl 1 rfl) ?_
      rcases ps_6 p0 c2 with rfl | rfl | rfl | rfl
      · refine va_iald hx hb hK.1 hP 1 1 rfl rfl (by unfold vp_in; decide) dX12_judge_27 ?_
        refine tp_i (v := (-1)) rfl ?_
        refine lv_iconst (v := (-1)) hx hb dX12_judge_28 (by decide) ?_
        refine lv_icmp_ne (tgt := 35) hx hb dX12_judge_29 (by decide) (fun h9 => absurd (by decide) h9) (fun _ => ?_)
        refine lv_bipush (v := (-6)) hx hb dX12_judge_32 (by decide) ?_
        exact kr_z hx hb hr rfl hlocks hP hD hS [] [] (by decide) rfl (Or.inl ⟨(Or.inl ⟨c2, c5, rfl⟩), rfl, rfl⟩) (by decide) (by decide) dX12_judge_34
      · refine va_iald hx hb hK.1 hP 1 1 rfl rfl (by unfold vp_in; decide) dX12_judge_27 ?_
        refine tp_i (v := (-1)) rfl ?_
        refine lv_iconst (v := (-1)) hx hb dX12_judge_28 (by decide) ?_
        refine lv_icmp_ne (tgt := 35) hx hb dX12_judge_29 (by decide) (fun h9 => absurd (by decide) h9) (fun _ => ?_)
        refine lv_bipush (v := (-6)) hx hb dX12_judge_32 (by decide) ?_
        exact kr_z hx hb hr rfl hlocks hP hD hS [] [] (by decide) rfl (Or.inl ⟨(Or.inr (Or.inl ⟨c2, c5, rfl⟩)), rfl, rfl⟩) (by decide) (by decide) dX12_judge_34
      · refine va_iald hx hb hK.1 hP 1 1 rfl rfl (by unfold vp_in; decide) dX12_judge_27 ?_
        refine tp_i (v := (-1)) rfl ?_
        refine lv_iconst (v := (-1)) hx hb dX12_judge_28 (by decide) ?_
        refine lv_icmp_ne (tgt := 35) hx hb dX12_judge_29 (by decide) (fun h9 => absurd (by decide) h9) (fun _ => ?_)
        refine lv_bipush (v := (-6)) hx hb dX12_judge_32 (by decide) ?_
        exact kr_z hx hb hr rfl hlocks hP hD hS [] [] (by decide) rfl (Or.inl ⟨(Or.inr (Or.inr (Or.inl ⟨c2, c5, rfl⟩))), rfl, rfl⟩) (by decide) (by decide) dX12_judge_34
      · refine va_iald hx hb hK.1 hP 1 1 rfl rfl (by unfold vp_in; decide) dX12_judge_27 ?_
        refine tp_i (v := (-1)) rfl ?_
        refine lv_iconst (v := (-1)) hx hb dX12_judge_28 (by decide) ?_
        refine lv_icmp_ne (tgt := 35) hx hb dX12_judge_29 (by decide) (fun h9 => absurd (by decide) h9) (fun _ => ?_)
        refine lv_bipush (v := (-6)) hx hb dX12_judge_32 (by decide) ?_
        exact kr_z hx hb hr rfl hlocks hP hD hS [] [] (by decide) rfl (Or.inl ⟨(Or.inr (Or.inr (Or.inr ⟨c2, c5, rfl⟩))), rfl, rfl⟩) (by decide) (by decide) dX12_judge_34
    · have hP : va_P D vwCl [(h0, .inr (12, [v0, v1, v2, v3, v4, v5, v6, v7, v8, v9, v10, v11, v12, v13, v14, v15, v16, v17, v18, v19, v20, v21, v22, v23, v24, v25, v26, v27, v28, v29, v30, v31, v32, v33, .ref h1, v34, v35, v36])), (h1, .inl (ty 1, 4, .inl (upd (upd (upd (upd (kf 0) 0 (-1)) 1 (-1)) 2 (-1)) 3 (-1))))] H := hP
      have hD : va_D A [(h0, .inr (12, [v0, v1, v2, v3, v4, v5, v6, v7, v8, v9, v10, v11, v12, v13, v14, v15, v16, v17, v18, v19, v20, v21, v22, v23, v24, v25, v26, v27, v28, v29, v30, v31, v32, v33, .ref h1, v34, v35, v36])), (h1, .inl (ty 1, 4, .inl (upd (upd (upd (upd (kf 0) 0 (-1)) 1 (-1)) 2 (-1)) 3 (-1))))] := hD
      refine lv_if_ne (tgt := 22) hx hb dX12_judge_16 (by decide) (fun h9 => absurd (by decide) h9) (fun _ => ?_)
      refine lv_bipush (v := (-2)) hx hb dX12_judge_19 (by decide) ?_
      exact kr_z hx hb hr rfl hlocks hP hD hS [] [] (by decide) rfl (Or.inr ⟨(Or.inl ⟨c2, c6⟩), rfl, rfl⟩) (by decide) (by decide) dX12_judge_21
  · have hP : va_P D vwCl [(h0, .inr (12, [v0, v1, v2, v3, v4, v5, v6, v7, v8, v9, v10, v11, v12, v13, v14, v15, v16, v17, v18, v19, v20, v21, v22, v23, v24, v25, v26, v27, v28, v29, v30, v31, v32, v33, .ref h1, v34, v35, v36])), (h1, .inl (ty 1, 4, .inl (upd (upd (upd (upd (kf 0) 0 (-1)) 1 (-1)) 2 (-1)) 3 (-1))))] H := hP
    have hD : va_D A [(h0, .inr (12, [v0, v1, v2, v3, v4, v5, v6, v7, v8, v9, v10, v11, v12, v13, v14, v15, v16, v17, v18, v19, v20, v21, v22, v23, v24, v25, v26, v27, v28, v29, v30, v31, v32, v33, .ref h1, v34, v35, v36])), (h1, .inl (ty 1, 4, .inl (upd (upd (upd (upd (kf 0) 0 (-1)) 1 (-1)) 2 (-1)) 3 (-1))))] := hD
    refine lv_if_eq (tgt := 19) hx hb dX12_judge_4 (by decide) (fun _ => ?_) (fun h9 => absurd (by decide) h9)
    refine lv_bipush (v := (-2)) hx hb dX12_judge_19 (by decide) ?_
    exact kr_z hx hb hr rfl hlocks hP hD hS [] [] (by decide) rfl (Or.inr ⟨(Or.inr c3), rfl, rfl⟩) (by decide) (by decide) dX12_judge_21
set_option maxHeartbeats 4000000 in
set_option maxRecDepth 100000 in
theorem c216_X12_sparesBy (l : Launch) (D : va_G) (ty : Nat → ClassId) (sz : Nat) (h0 : Nat) (h1 : Nat) (p0 : Int32) (v0 : Value) (v1 : Value) (v2 : Value) (v3 : Value) (v4 : Value) (v5 : Value) (v6 : Value) (v7 : Value) (v8 : Value) (v9 : Value) (v10 : Value) (v11 : Value) (v12 : Value) (v13 : Value) (v14 : Value) (v15 : Value) (v16 : Value) (v17 : Value) (v18 : Value) (v19 : Value) (v20 : Value) (v21 : Value) (v22 : Value) (v23 : Value) (v24 : Value) (v25 : Value) (v26 : Value) (v27 : Value) (v28 : Value) (v29 : Value) (v30 : Value) (v31 : Value) (v32 : Value) (v33 : Value) (v34 : Value) (v35 : Value) (v36 : Value) : cQ l yX12_sparesBy cX12_sparesBy 10 (some .int) 1 20 [.ref h0, .int 0, .int 1, .int p0] D ty [(h0, .inr (12, [v0, .ref h1, v1, v2, v3, v4, v5, v6, v7, v8, v9, v10, v11, v12, v13, v14, v15, v16, v17, v18, v19, v20, v21, v22, v23, v24, v25, v26, v27, v28, v29, v30, v31, v32, v33, v34, v35, v36])), (h1, .inl (ty 1, 304, .inl (upd (upd (kf 0) 1 2) 4 (-1))))] sz (qI (fun (r : Int32) (u : va_W) => 0 = r ∧ [(h0, .inr (12, [v0, .ref h1, v1, v2, v3, v4, v5, v6, v7, v8, v9, v10, v11, v12, v13, v14, v15, v16, v17, v18, v19, v20, v21, v22, v23, v24, v25, v26, v27, v28, v29, v30, v31, v32, v33, v34, v35, v36])), (h1, .inl (ty 1, 304, .inl (upd (upd (kf 0) 1 2) 4 (-1))))] = u)) 0 0 := by
  refine cQ.of (by decide) (Nat.le_of_ble_eq_true rfl) (fun p e s m below meth c A ls C hsz hP hK hD hA hl => ?_)
  obtain ⟨hx, hb, hml, hown, hB, hr, hlocks, hin⟩ := C
  have hown : s.vm.findClass RX12 = some m.cls := hown
  have hS : va_S A s.heap s.heap [] := va_S.rf
  have hl : lv_has ls 10 [(0, .ref h0), (1, .int 0), (2, .int 1), (3, .int p0)] := hl
  refine lv_iconst (v := 0) hx hb dX12_sparesBy_0 (by decide) ?_
  refine lv_istore (lv' := [(4, .int 0), (0, .ref h0), (1, .int 0), (2, .int 1), (3, .int p0)]) hx hb dX12_sparesBy_1 hl (by decide) rfl (fun ls hl => ?_)
  refine lv_iconst (v := 0) hx hb dX12_sparesBy_3 (by decide) ?_
  refine lv_istore (lv' := [(5, .int 0), (4, .int 0), (0, .ref h0), (1, .int 0), (2, .int 1), (3, .int p0)]) hx hb dX12_sparesBy_4 hl (by decide) rfl (fun ls hl => ?_)
  refine lv_iload hx hb dX12_sparesBy_6 (lv_at hl 0 rfl) ?_
  refine lv_aload_n hx hb dX12_sparesBy_8 rfl (lv_at hl 2 rfl) ?_
  refine kc_i (va_runV (As := []) (rest := [.int 0]) ⟨hx, hb, hml, hown, hB⟩ (c179_X12_journeys l D ty s.heap.size h0 h1 v0 v1 v2 v3 v4 v5 v6 v7 v8 v9 v10 v11 v12 v13 v14 v15 v16 v17 v18 v19 v20 v21 v22 v23 v24 v25 v26 v27 v28 v29 v30 v31 v32 v33 v34 v35 v36) (cwV 0 hB (bw_V mw_516 mw_517 mw_518 mw_211 mw_515) rfl rfl rfl (by decide +kernel) ⟨Nat.le_of_ble_eq_true rfl, Nat.le_of_ble_eq_true rfl⟩) (kp_V hK hP hD [0, 1] (by decide) rfl 0 rfl rfl rfl) rfl rfl hl.1 rfl (lv_room (Nat.le_of_ble_eq_true rfl)) dX12_sparesBy_9 ⟨Nat.le_of_ble_eq_true rfl, Nat.le_of_ble_eq_true rfl⟩) hP hD hS hA [0, 1] [] (wr := []) rfl rfl (by decide) (by decide) (fun r u H locs w1 hP hD hS => ?_)
  obtain ⟨rfl, rfl⟩ := w1
  have hP : va_P D vwCl [(h0, .inr (12, [v0, .ref h1, v1, v2, v3, v4, v5, v6, v7, v8, v9, v10, v11, v12, v13, v14, v15, v16, v17, v18, v19, v20, v21, v22, v23, v24, v25, v26, v27, v28, v29, v30, v31, v32, v33, v34, v35, v36])), (h1, .inl (ty 1, 304, .inl (upd (upd (kf 0) 1 2) 4 (-1))))] H := hP
  have hD : va_D A [(h0, .inr (12, [v0, .ref h1, v1, v2, v3, v4, v5, v6, v7, v8, v9, v10, v11, v12, v13, v14, v15, v16, v17, v18, v19, v20, v21, v22, v23, v24, v25, v26, v27, v28, v29, v30, v31, v32, v33, v34, v35, v36])), (h1, .inl (ty 1, 304, .inl (upd (upd (kf 0) 1 2) 4 (-1))))] := hD
  refine lv_icmp_ge (tgt := 133) hx hb dX12_sparesBy_12 (by decide) (fun _ => ?_) (fun h9 => absurd (by decide) h9)
  refine lv_iload hx hb dX12_sparesBy_133 (lv_at hl 1 rfl) ?_
  exact kr_z hx hb hr rfl hlocks hP hD hS [(h0, .inr (12, [v0, .ref h1, v1, v2, v3, v4, v5, v6, v7, v8, v9, v10, v11, v12, v13, v14, v15, v16, v17, v18, v19, v20, v21, v22, v23, v24, v25, v26, v27, v28, v29, v30, v31, v32, v33, v34, v35, v36])), (h1, .inl (ty 1, 304, .inl (upd (upd (kf 0) 1 2) 4 (-1))))] [0, 1] (by decide) rfl ⟨rfl, rfl⟩ (by decide) (by decide) dX12_sparesBy_135
set_option maxHeartbeats 4000000 in
set_option maxRecDepth 100000 in
theorem c215_X12_spare (l : Launch) (D : va_G) (ty : Nat → ClassId) (sz : Nat) (h0 : Nat) (h1 : Nat) (h2 : Nat) (h3 : Nat) (h4 : Nat) (p0 : Int32) (p1 : Int32) (v0 : Value) (v1 : Value) (v2 : Value) (v3 : Value) (v4 : Value) (v5 : Value) (v6 : Value) (v7 : Value) (v8 : Value) (v9 : Value) (v10 : Value) (v11 : Value) (v12 : Value) (v13 : Value) (v14 : Value) (v15 : Value) (v16 : Value) (v17 : Value) (v18 : Value) (v19 : Value) (v20 : Value) (v21 : Value) (v22 : Value) (v23 : Value) (v24 : Value) (v25 : Value) (v26 : Value) (v27 : Value) (v28 : Value) (v29 : Value) (v30 : Value) (v31 : Value) (v32 : Value) (v33 : Value) (f0 : Nat → Int32) (f1 : Nat → Int32) (f2 : Nat → Int32) : cQ l yX12_spare cX12_spare 7 (some .int) 4 89 [.ref h0, .int p0, .int p1] D ty [(h0, .inr (12, [v0, .ref h1, v1, v2, v3, v4, v5, v6, v7, v8, v9, v10, v11, v12, v13, v14, v15, .ref h3, .ref h2, v16, v17, v18, v19, v20, v21, v22, v23, v24, v25, v26, v27, v28, .ref h4, v29, v30, v31, v32, v33])), (h1, .inl (ty 1, 304, .inl (upd (upd (kf 0) 1 2) 4 (-1)))), (h2, .inl (ty 1, 256, .inl f0)), (h3, .inl (ty 1, 256, .inl f1)), (h4, .inl (ty 1, 2, .inl f2))] sz (qI (fun (r : Int32) (u : va_W) => (((((0 ≤ (Int32.toInt64 p0)) ∧ ((Int32.toInt64 p0) ≤ 1))) ∧ ((1 ≤ (Int32.toInt64 p1)) ∧ ((Int32.toInt64 p1) ≤ 60))) ∧ 0 = r ∧ [] = u) ∨ ((((((0 ≤ (Int32.toInt64 p0)) ∧ ((Int32.toInt64 p0) ≤ 1))) ∧ ((¬ (1 ≤ (Int32.toInt64 p1))) ∨ (¬ ((Int32.toInt64 p1) ≤ 60)))) ∨ ((((¬ (0 ≤ (Int32.toInt64 p0))) ∨ (¬ ((Int32.toInt64 p0) ≤ 1)))))) ∧ (-2) = r ∧ [] = u))) 0 0 := by
  refine cQ.of (by decide) (Nat.le_of_ble_eq_true rfl) (fun p e s m below meth c A ls C hsz hP hK hD hA hl => ?_)
  obtain ⟨hx, hb, hml, hown, hB, hr, hlocks, hin⟩ := C
  have hown : s.vm.findClass RX12 = some m.cls := hown
  have hS : va_S A s.heap s.heap [] := va_S.rf
  have hl : lv_has ls 7 [(0, .ref h0), (1, .int p0), (2, .int p1)] := hl
  refine lv_iload_n hx hb dX12_spare_0 rfl (lv_at hl 1 rfl) ?_
  refine kc_i (va_runS (As := [.int p0]) (rest := []) ⟨hx, hb, hml, hown, hB⟩ (c149_X12_isGiving l D ty s.heap.size p0) (va_cwS 1 hB (bw_S mw_469 mw_470 mw_211 mw_468) rfl rfl rfl (by decide +kernel) ⟨Nat.le_of_ble_eq_true rfl, Nat.le_of_ble_eq_true rfl⟩) (kp_S hK hP hD [] (by decide) rfl) rfl rfl hl.1 rfl (lv_room (Nat.le_of_ble_eq_true rfl)) dX12_spare_1 ⟨Nat.le_of_ble_eq_true rfl, Nat.le_of_ble_eq_true rfl⟩) hP hD hS hA [] [0, 1, 2, 3, 4] (wr := [(h0, .inr (12, [v0, .ref h1, v1, v2, v3, v4, v5, v6, v7, v8, v9, v10, v11, v12, v13, v14, v15, .ref h3, .ref h2, v16, v17, v18, v19, v20, v21, v22, v23, v24, v25, v26, v27, v28, .ref h4, v29, v30, v31, v32, v33])), (h1, .inl (ty 1, 304, .inl (upd (upd (kf 0) 1 2) 4 (-1)))), (h2, .inl (ty 1, 256, .inl f0)), (h3, .inl (ty 1, 256, .inl f1)), (h4, .inl (ty 1, 2, .inl f2))]) rfl rfl (by decide) (by decide) (fun r u H locs w1 hP hD hS => ?_)
  rcases w1 with ⟨c2, rfl, rfl⟩ | ⟨c3, rfl, rfl⟩
  · have hP : va_P D vwCl [(h0, .inr (12, [v0, .ref h1, v1, v2, v3, v4, v5, v6, v7, v8, v9, v10, v11, v12, v13, v14, v15, .ref h3, .ref h2, v16, v17, v18, v19, v20, v21, v22, v23, v24, v25, v26, v27, v28, .ref h4, v29, v30, v31, v32, v33])), (h1, .inl (ty 1, 304, .inl (upd (upd (kf 0) 1 2) 4 (-1)))), (h2, .inl (ty 1, 256, .inl f0)), (h3, .inl (ty 1, 256, .inl f1)), (h4, .inl (ty 1, 2, .inl f2))] H := hP
    have hD : va_D A [(h0, .inr (12, [v0, .ref h1, v1, v2, v3, v4, v5, v6, v7, v8, v9, v10, v11, v12, v13, v14, v15, .ref h3, .ref h2, v16, v17, v18, v19, v20, v21, v22, v23, v24, v25, v26, v27, v28, .ref h4, v29, v30, v31, v32, v33])), (h1, .inl (ty 1, 304, .inl (upd (upd (kf 0) 1 2) 4 (-1)))), (h2, .inl (ty 1, 256, .inl f0)), (h3, .inl (ty 1, 256, .inl f1)), (h4, .inl (ty 1, 2, .inl f2))] := hD
    refine lv_if_eq (tgt := 19) hx hb dX12_spare_4 (by decide) (fun h9 => absurd h9 (by decide)) (fun _ => ?_)
    refine lv_iload_n hx hb dX12_spare_7 rfl (lv_at hl 2 rfl) ?_
    refine lv_i2l (v := (Int32.toInt64 p1)) hx hb dX12_spare_8 rfl ?_
    refine lv_lconst (v := 1) hx hb dX12_spare_9 (by decide) ?_
    refine lv_ldc2 hx hb hown (hB _ mw_548) dX12_spare_10 ?_
    refine kc_i (va_runS (As := [.long (Int32.toInt64 p1), .long 1, .long 60]) (rest := []) ⟨hx, hb, hml, hown, hB⟩ (c_in l D ty H.size (Int32.toInt64 p1) 1 60) (va_cwS 3 hB (bw_S mw_445 mw_446 mw_211 mw_444) rfl rfl rfl (by decide +kernel) ⟨Nat.le_of_ble_eq_true rfl, Nat.le_of_ble_eq_true rfl⟩) (kp_S hK hP hD [] (by decide) rfl) rfl rfl hl.1 rfl (lv_room (Nat.le_of_ble_eq_true rfl)) dX12_spare_13 ⟨Nat.le_of_ble_eq_true rfl, Nat.le_of_ble_eq_true rfl⟩) hP hD hS hA [] [0, 1, 2, 3, 4] (wr := [(h0, .inr (12, [v0, .ref h1, v1, v2, v3, v4, v5, v6, v7, v8, v9, v10, v11, v12, v13, v14, v15, .ref h3, .ref h2, v16, v17, v18, v19, v20, v21, v22, v23, v24, v25, v26, v27, v28, .ref h4, v29, v30, v31, v32, v33])), (h1, .inl (ty 1, 304, .inl (upd (upd (kf 0) 1 2) 4 (-1)))), (h2, .inl (ty 1, 256, .inl f0)), (h3, .inl (ty 1, 256, .inl f1)), (h4, .inl (ty 1, 2, .inl f2))]) rfl rfl (by decide) (by decide) (fun r u H locs w4 hP hD hS => ?_)
    rcases w4 with ⟨c5, rfl, rfl⟩ | ⟨c6, rfl, rfl⟩
    · have hP : va_P D vwCl [(h0, .inr (12, [v0, .ref h1, v1, v2, v3, v4, v5, v6, v7, v8, v9, v10, v11, v12, v13, v14, v15, .ref h3, .ref h2, v16, v17, v18, v19, v20, v21, v22, v23, v24, v25, v26, v27, v28, .ref h4, v29, v30, v31, v32, v33])), (h1, .inl (ty 1, 304, .inl (upd (upd (kf 0) 1 2) 4 (-1)))), (h2, .inl (ty 1, 256, .inl f0)), (h3, .inl (ty 1, 256, .inl f1)), (h4, .inl (ty 1, 2, .inl f2))] H := hP
      have hD : va_D A [(h0, .inr (12, [v0, .ref h1, v1, v2, v3, v4, v5, v6, v7, v8, v9, v10, v11, v12, v13, v14, v15, .ref h3, .ref h2, v16, v17, v18, v19, v20, v21, v22, v23, v24, v25, v26, v27, v28, .ref h4, v29, v30, v31, v32, v33])), (h1, .inl (ty 1, 304, .inl (upd (upd (kf 0) 1 2) 4 (-1)))), (h2, .inl (ty 1, 256, .inl f0)), (h3, .inl (ty 1, 256, .inl f1)), (h4, .inl (ty 1, 2, .inl f2))] := hD
      refine lv_if_ne (tgt := 22) hx hb dX12_spare_16 (by decide) (fun _ => ?_) (fun h9 => absurd h9 (by decide))
      refine lv_aload_n hx hb dX12_spare_22 rfl (lv_at hl 0 rfl) ?_
      refine lv_iload_n hx hb dX12_spare_23 rfl (lv_at hl 1 rfl) ?_
      refine kc_v (va_runV (As := [.int p0]) (rest := []) ⟨hx, hb, hml, hown, hB⟩ (c156_X12_tries l D ty H.size h0 h1 p0 v0 v1 v2 v3 v4 v5 v6 v7 v8 v9 v10 v11 v12 v13 v14 v15 (.ref h3) (.ref h2) v16 v17 v18 v19 v20 v21 v22 v23 v24 v25 v26 v27 v28 (.ref h4) v29 v30 v31 v32 v33) (cwV 1 hB (bw_V mw_480 mw_481 mw_482 mw_211 mw_479) rfl rfl rfl (by decide +kernel) ⟨Nat.le_of_ble_eq_true rfl, Nat.le_of_ble_eq_true rfl⟩) (kp_V hK hP hD [0, 1] (by decide) rfl 0 rfl rfl rfl) rfl rfl hl.1 rfl (lv_room (Nat.le_of_ble_eq_true rfl)) dX12_spare_24 ⟨Nat.le_of_ble_eq_true rfl, Nat.le_of_ble_eq_true rfl⟩) hP hD hS hA [0, 1] [2, 3, 4] (wr := [(h2, .inl (ty 1, 256, .inl f0)), (h3, .inl (ty 1, 256, .inl f1)), (h4, .inl (ty 1, 2, .inl f2))]) rfl rfl (by decide) (by decide) (fun u H locs w7 hP hD hS => ?_)
      subst w7
      have hP : va_P D vwCl [(h2, .inl (ty 1, 256, .inl f0)), (h3, .inl (ty 1, 256, .inl f1)), (h4, .inl (ty 1, 2, .inl f2)), (h0, .inr (12, [v0, .ref h1, v1, v2, v3, v4, v5, v6, v7, v8, v9, v10, v11, v12, v13, v14, v15, .ref h3, .ref h2, v16, v17, v18, v19, v20, v21, v22, v23, v24, v25, v26, v27, v28, .ref h4, v29, v30, v31, v32, v33])), (h1, .inl (ty 1, 304, .inl (upd (upd (kf 0) 1 2) 4 (-1))))] H := hP
      have hD : va_D A [(h2, .inl (ty 1, 256, .inl f0)), (h3, .inl (ty 1, 256, .inl f1)), (h4, .inl (ty 1, 2, .inl f2)), (h0, .inr (12, [v0, .ref h1, v1, v2, v3, v4, v5, v6, v7, v8, v9, v10, v11, v12, v13, v14, v15, .ref h3, .ref h2, v16, v17, v18, v19, v20, v21, v22, v23, v24, v25, v26, v27, v28, .ref h4, v29, v30, v31, v32, v33])), (h1, .inl (ty 1, 304, .inl (upd (upd (kf 0) 1 2) 4 (-1))))] := hD
      refine lv_aload_n hx hb dX12_spare_27 rfl (lv_at hl 0 rfl) ?_
      refine lv_aload_n hx hb dX12_spare_28 rfl (lv_at hl 0 rfl) ?_
      refine va_get (D := D) (ci := 12) (v := .ref h2) (C := RX12) (T := TX12) (N := 38) hx hb hB inB_X12 hown hK.1 hP 3 rfl rfl 18 (by decide) (hB _ mw_193) (fun _ h9 => h9) rfl dX12_spare_29 ?_
      refine lv_iconst (v := 1) hx hb dX12_spare_32 (by decide) ?_
      refine kc_v (va_runV (As := [.ref h2, .int 1]) (rest := []) ⟨hx, hb, hml, hown, hB⟩ (c181_X12_measures l D ty H.size h0 h1 h2 v0 v1 v2 v3 v4 v5 v6 v7 v8 v9 v10 v11 v12 v13 v14 v15 (.ref h3) (.ref h2) v16 v17 v18 v19 v20 v21 v22 v23 v24 v25 v26 v27 v28 (.ref h4) v29 v30 v31 v32 v33 f0) (cwV 2 hB (bw_V mw_492 mw_493 mw_494 mw_211 mw_491) rfl rfl rfl (by decide +kernel) ⟨Nat.le_of_ble_eq_true rfl, Nat.le_of_ble_eq_true rfl⟩) (kp_V hK hP hD [3, 4, 0] (by decide) rfl 3 rfl rfl rfl) rfl rfl hl.1 rfl (lv_room (Nat.le_of_ble_eq_true rfl)) dX12_spare_33 ⟨Nat.le_of_ble_eq_true rfl, Nat.le_of_ble_eq_true rfl⟩) hP hD hS hA [3, 4, 0] [1, 2] (wr := [(h3, .inl (ty 1, 256, .inl f1)), (h4, .inl (ty 1, 2, .inl f2))]) rfl rfl (by decide) (by decide) (fun u H locs w8 hP hD hS => ?_)
      subst w8
      have hP : va_P D vwCl [(h3, .inl (ty 1, 256, .inl f1)), (h4, .inl (ty 1, 2, .inl f2)), (h0, .inr (12, [v0, .ref h1, v1, v2, v3, v4, v5, v6, v7, v8, v9, v10, v11, v12, v13, v14, v15, .ref h3, .ref h2, v16, v17, v18, v19, v20, v21, v22, v23, v24, v25, v26, v27, v28, .ref h4, v29, v30, v31, v32, v33])), (h1, .inl (ty 1, 304, .inl (upd (upd (kf 0) 1 2) 4 (-1)))), (h2, .inl (ty 1, 256, .inl (upd (upd (upd (upd f0 0 0) 1 1000000) 16 1000000) 17 0)))] H := hP
      have hD : va_D A [(h3, .inl (ty 1, 256, .inl f1)), (h4, .inl (ty 1, 2, .inl f2)), (h0, .inr (12, [v0, .ref h1, v1, v2, v3, v4, v5, v6, v7, v8, v9, v10, v11, v12, v13, v14, v15, .ref h3, .ref h2, v16, v17, v18, v19, v20, v21, v22, v23, v24, v25, v26, v27, v28, .ref h4, v29, v30, v31, v32, v33])), (h1, .inl (ty 1, 304, .inl (upd (upd (kf 0) 1 2) 4 (-1)))), (h2, .inl (ty 1, 256, .inl (upd (upd (upd (upd f0 0 0) 1 1000000) 16 1000000) 17 0)))] := hD
      refine lv_aload_n hx hb dX12_spare_36 rfl (lv_at hl 0 rfl) ?_
      refine kc_i (va_runV (As := []) (rest := []) ⟨hx, hb, hml, hown, hB⟩ (c182_X12_sumTried l D ty H.size h0 h1 h3 v0 v1 v2 v3 v4 v5 v6 v7 v8 v9 v10 v11 v12 v13 v14 v15 (.ref h2) v16 v17 v18 v19 v20 v21 v22 v23 v24 v25 v26 v27 v28 (.ref h4) v29 v30 v31 v32 v33 f1) (cwV 0 hB (bw_V mw_528 mw_529 mw_530 mw_211 mw_527) rfl rfl rfl (by decide +kernel) ⟨Nat.le_of_ble_eq_true rfl, Nat.le_of_ble_eq_true rfl⟩) (kp_V hK hP hD [2, 3, 0] (by decide) rfl 2 rfl rfl rfl) rfl rfl hl.1 rfl (lv_room (Nat.le_of_ble_eq_true rfl)) dX12_spare_37 ⟨Nat.le_of_ble_eq_true rfl, Nat.le_of_ble_eq_true rfl⟩) hP hD hS hA [2, 3, 0] [1, 4] (wr := [(h4, .inl (ty 1, 2, .inl f2)), (h2, .inl (ty 1, 256, .inl (upd (upd (upd (upd f0 0 0) 1 1000000) 16 1000000) 17 0)))]) rfl rfl (by decide) (by decide) (fun r u H locs w9 hP hD hS => ?_)
      obtain ⟨rfl, rfl⟩ := w9
      have hP : va_P D vwCl [(h4, .inl (ty 1, 2, .inl f2)), (h2, .inl (ty 1, 256, .inl (upd (upd (upd (upd f0 0 0) 1 1000000) 16 1000000) 17 0))), (h3, .inl (ty 1, 256, .inl (upd (upd (upd (upd f1 0 0) 1 1000000) 16 1000000) 17 0))), (h0, .inr (12, [v0, .ref h1, v1, v2, v3, v4, v5, v6, v7, v8, v9, v10, v11, v12, v13, v14, v15, .ref h3, .ref h2, v16, v17, v18, v19, v20, v21, v22, v23, v24, v25, v26, v27, v28, .ref h4, v29, v30, v31, v32, v33])), (h1, .inl (ty 1, 304, .inl (upd (upd (kf 0) 1 2) 4 (-1))))] H := hP
      have hD : va_D A [(h4, .inl (ty 1, 2, .inl f2)), (h2, .inl (ty 1, 256, .inl (upd (upd (upd (upd f0 0 0) 1 1000000) 16 1000000) 17 0))), (h3, .inl (ty 1, 256, .inl (upd (upd (upd (upd f1 0 0) 1 1000000) 16 1000000) 17 0))), (h0, .inr (12, [v0, .ref h1, v1, v2, v3, v4, v5, v6, v7, v8, v9, v10, v11, v12, v13, v14, v15, .ref h3, .ref h2, v16, v17, v18, v19, v20, v21, v22, v23, v24, v25, v26, v27, v28, .ref h4, v29, v30, v31, v32, v33])), (h1, .inl (ty 1, 304, .inl (upd (upd (kf 0) 1 2) 4 (-1))))] := hD
      refine lv_iconst (v := (-1)) hx hb dX12_spare_40 (by decide) ?_
      refine lv_icmp_ne (tgt := 47) hx hb dX12_spare_41 (by decide) (fun _ => ?_) (fun h9 => absurd h9 (by decide))
      refine lv_iconst (v := (-1)) hx hb dX12_spare_47 (by decide) ?_
      refine lv_istore_n (lv' := [(3, .int (-1)), (0, .ref h0), (1, .int p0), (2, .int p1)]) hx hb dX12_spare_48 rfl hl (by decide) rfl (fun ls hl => ?_)
      refine lv_iconst (v := 0) hx hb dX12_spare_49 (by decide) ?_
      refine lv_istore (lv' := [(4, .int 0), (3, .int (-1)), (0, .ref h0), (1, .int p0), (2, .int p1)]) hx hb dX12_spare_50 hl (by decide) rfl (fun ls hl => ?_)
      refine lv_iload hx hb dX12_spare_52 (lv_at hl 0 rfl) ?_
      refine lv_aload_n hx hb dX12_spare_54 rfl (lv_at hl 2 rfl) ?_
      refine kc_i (va_runV (As := []) (rest := [.int 0]) ⟨hx, hb, hml, hown, hB⟩ (c160_X12_corners l D ty H.size h0 h1 v0 v1 v2 v3 v4 v5 v6 v7 v8 v9 v10 v11 v12 v13 v14 v15 (.ref h3) (.ref h2) v16 v17 v18 v19 v20 v21 v22 v23 v24 v25 v26 v27 v28 (.ref h4) v29 v30 v31 v32 v33) (cwV 0 hB (bw_V mw_484 mw_485 mw_486 mw_211 mw_483) rfl rfl rfl (by decide +kernel) ⟨Nat.le_of_ble_eq_true rfl, Nat.le_of_ble_eq_true rfl⟩) (kp_V hK hP hD [3, 4] (by decide) rfl 3 rfl rfl rfl) rfl rfl hl.1 rfl (lv_room (Nat.le_of_ble_eq_true rfl)) dX12_spare_55 ⟨Nat.le_of_ble_eq_true rfl, Nat.le_of_ble_eq_true rfl⟩) hP hD hS hA [3, 4] [0, 1, 2] (wr := [(h4, .inl (ty 1, 2, .inl f2)), (h2, .inl (ty 1, 256, .inl (upd (upd (upd (upd f0 0 0) 1 1000000) 16 1000000) 17 0))), (h3, .inl (ty 1, 256, .inl (upd (upd (upd (upd f1 0 0) 1 1000000) 16 1000000) 17 0)))]) rfl rfl (by decide) (by decide) (fun r u H locs w10 hP hD hS => ?_)
      obtain ⟨rfl, rfl⟩ := w10
      have hP : va_P D vwCl [(h4, .inl (ty 1, 2, .inl f2)), (h2, .inl (ty 1, 256, .inl (upd (upd (upd (upd f0 0 0) 1 1000000) 16 1000000) 17 0))), (h3, .inl (ty 1, 256, .inl (upd (upd (upd (upd f1 0 0) 1 1000000) 16 1000000) 17 0))), (h0, .inr (12, [v0, .ref h1, v1, v2, v3, v4, v5, v6, v7, v8, v9, v10, v11, v12, v13, v14, v15, .ref h3, .ref h2, v16, v17, v18, v19, v20, v21, v22, v23, v24, v25, v26, v27, v28, .ref h4, v29, v30, v31, v32, v33])), (h1, .inl (ty 1, 304, .inl (upd (upd (kf 0) 1 2) 4 (-1))))] H := hP
      have hD : va_D A [(h4, .inl (ty 1, 2, .inl f2)), (h2, .inl (ty 1, 256, .inl (upd (upd (upd (upd f0 0 0) 1 1000000) 16 1000000) 17 0))), (h3, .inl (ty 1, 256, .inl (upd (upd (upd (upd f1 0 0) 1 1000000) 16 1000000) 17 0))), (h0, .inr (12, [v0, .ref h1, v1, v2, v3, v4, v5, v6, v7, v8, v9, v10, v11, v12, v13, v14, v15, .ref h3, .ref h2, v16, v17, v18, v19, v20, v21, v22, v23, v24, v25, v26, v27, v28, .ref h4, v29, v30, v31, v32, v33])), (h1, .inl (ty 1, 304, .inl (upd (upd (kf 0) 1 2) 4 (-1))))] := hD
      refine lv_icmp_ge (tgt := 127) hx hb dX12_spare_58 (by decide) (fun h9 => absurd h9 (by decide)) (fun _ => ?_)
      refine lv_iload hx hb dX12_spare_61 (lv_at hl 0 rfl) ?_
      refine lv_iconst (v := 1) hx hb dX12_spare_63 (by decide) ?_
      refine lv_iadd hx hb dX12_spare_64 ?_
      refine tp_i (v := 1) (by decide) ?_
      refine lv_istore (lv' := [(5, .int 1), (4, .int 0), (3, .int (-1)), (0, .ref h0), (1, .int p0), (2, .int p1)]) hx hb dX12_spare_65 hl (by decide) rfl (fun ls hl => ?_)
      refine lv_iload hx hb dX12_spare_67 (lv_at hl 0 rfl) ?_
      refine lv_aload_n hx hb dX12_spare_69 rfl (lv_at hl 3 rfl) ?_
      refine kc_i (va_runV (As := []) (rest := [.int 1]) ⟨hx, hb, hml, hown, hB⟩ (c160_X12_corners l D ty H.size h0 h1 v0 v1 v2 v3 v4 v5 v6 v7 v8 v9 v10 v11 v12 v13 v14 v15 (.ref h3) (.ref h2) v16 v17 v18 v19 v20 v21 v22 v23 v24 v25 v26 v27 v28 (.ref h4) v29 v30 v31 v32 v33) (cwV 0 hB (bw_V mw_484 mw_485 mw_486 mw_211 mw_483) rfl rfl rfl (by decide +kernel) ⟨Nat.le_of_ble_eq_true rfl, Nat.le_of_ble_eq_true rfl⟩) (kp_V hK hP hD [3, 4] (by decide) rfl 3 rfl rfl rfl) rfl rfl hl.1 rfl (lv_room (Nat.le_of_ble_eq_true rfl)) dX12_spare_70 ⟨Nat.le_of_ble_eq_true rfl, Nat.le_of_ble_eq_true rfl⟩) hP hD hS hA [3, 4] [0, 1, 2] (wr := [(h4, .inl (ty 1, 2, .inl f2)), (h2, .inl (ty 1, 256, .inl (upd (upd (upd (upd f0 0 0) 1 1000000) 16 1000000) 17 0))), (h3, .inl (ty 1, 256, .inl (upd (upd (upd (upd f1 0 0) 1 1000000) 16 1000000) 17 0)))]) rfl rfl (by decide) (by decide) (fun r u H locs w11 hP hD hS => ?_)
      obtain ⟨rfl, rfl⟩ := w11
      have hP : va_P D vwCl [(h4, .inl (ty 1, 2, .inl f2)), (h2, .inl (ty 1, 256, .inl (upd (upd (upd (upd f0 0 0) 1 1000000) 16 1000000) 17 0))), (h3, .inl (ty 1, 256, .inl (upd (upd (upd (upd f1 0 0) 1 1000000) 16 1000000) 17 0))), (h0, .inr (12, [v0, .ref h1, v1, v2, v3, v4, v5, v6, v7, v8, v9, v10, v11, v12, v13, v14, v15, .ref h3, .ref h2, v16, v17, v18, v19, v20, v21, v22, v23, v24, v25, v26, v27, v28, .ref h4, v29, v30, v31, v32, v33])), (h1, .inl (ty 1, 304, .inl (upd (upd (kf 0) 1 2) 4 (-1))))] H := hP
      have hD : va_D A [(h4, .inl (ty 1, 2, .inl f2)), (h2, .inl (ty 1, 256, .inl (upd (upd (upd (upd f0 0 0) 1 1000000) 16 1000000) 17 0))), (h3, .inl (ty 1, 256, .inl (upd (upd (upd (upd f1 0 0) 1 1000000) 16 1000000) 17 0))), (h0, .inr (12, [v0, .ref h1, v1, v2, v3, v4, v5, v6, v7, v8, v9, v10, v11, v12, v13, v14, v15, .ref h3, .ref h2, v16, v17, v18, v19, v20, v21, v22, v23, v24, v25, v26, v27, v28, .ref h4, v29, v30, v31, v32, v33])), (h1, .inl (ty 1, 304, .inl (upd (upd (kf 0) 1 2) 4 (-1))))] := hD
      refine lv_icmp_ge (tgt := 121) hx hb dX12_spare_73 (by decide) (fun h9 => absurd h9 (by decide)) (fun _ => ?_)
      refine lv_aload_n hx hb dX12_spare_76 rfl (lv_at hl 3 rfl) ?_
      refine lv_iload hx hb dX12_spare_77 (lv_at hl 1 rfl) ?_
      refine lv_iload hx hb dX12_spare_79 (lv_at hl 0 rfl) ?_
      refine lv_iload_n hx hb dX12_spare_81 rfl (lv_at hl 5 rfl) ?_
      refine kc_i (va_runV (As := [.int 0, .int 1, .int p1]) (rest := []) ⟨hx, hb, hml, hown, hB⟩ (c216_X12_sparesBy l D ty H.size h0 h1 p1 v0 v1 v2 v3 v4 v5 v6 v7 v8 v9 v10 v11 v12 v13 v14 v15 (.ref h3) (.ref h2) v16 v17 v18 v19 v20 v21 v22 v23 v24 v25 v26 v27 v28 (.ref h4) v29 v30 v31 v32 v33) (cwV 3 hB (bw_V mw_550 mw_551 mw_552 mw_211 mw_549) rfl rfl rfl (by decide +kernel) ⟨Nat.le_of_ble_eq_true rfl, Nat.le_of_ble_eq_true rfl⟩) (kp_V hK hP hD [3, 4] (by decide) rfl 3 rfl rfl rfl) rfl rfl hl.1 rfl (lv_room (Nat.le_of_ble_eq_true rfl)) dX12_spare_82 ⟨Nat.le_of_ble_eq_true rfl, Nat.le_of_ble_eq_true rfl⟩) hP hD hS hA [3, 4] [0, 1, 2] (wr := [(h4, .inl (ty 1, 2, .inl f2)), (h2, .inl (ty 1, 256, .inl (upd (upd (upd (upd f0 0 0) 1 1000000) 16 1000000) 17 0))), (h3, .inl (ty 1, 256, .inl (upd (upd (upd (upd f1 0 0) 1 1000000) 16 1000000) 17 0)))]) rfl rfl (by decide) (by decide) (fun r u H locs w12 hP hD hS => ?_)
      obtain ⟨rfl, rfl⟩ := w12
      have hP : va_P D vwCl [(h4, .inl (ty 1, 2, .inl f2)), (h2, .inl (ty 1, 256, .inl (upd (upd (upd (upd f0 0 0) 1 1000000) 16 1000000) 17 0))), (h3, .inl (ty 1, 256, .inl (upd (upd (upd (upd f1 0 0) 1 1000000) 16 1000000) 17 0))), (h0, .inr (12, [v0, .ref h1, v1, v2, v3, v4, v5, v6, v7, v8, v9, v10, v11, v12, v13, v14, v15, .ref h3, .ref h2, v16, v17, v18, v19, v20, v21, v22, v23, v24, v25, v26, v27, v28, .ref h4, v29, v30, v31, v32, v33])), (h1, .inl (ty 1, 304, .inl (upd (upd (kf 0) 1 2) 4 (-1))))] H := hP
      have hD : va_D A [(h4, .inl (ty 1, 2, .inl f2)), (h2, .inl (ty 1, 256, .inl (upd (upd (upd (upd f0 0 0) 1 1000000) 16 1000000) 17 0))), (h3, .inl (ty 1, 256, .inl (upd (upd (upd (upd f1 0 0) 1 1000000) 16 1000000) 17 0))), (h0, .inr (12, [v0, .ref h1, v1, v2, v3, v4, v5, v6, v7, v8, v9, v10, v11, v12, v13, v14, v15, .ref h3, .ref h2, v16, v17, v18, v19, v20, v21, v22, v23, v24, v25, v26, v27, v28, .ref h4, v29, v30, v31, v32, v33])), (h1, .inl (ty 1, 304, .inl (upd (upd (kf 0) 1 2) 4 (-1))))] := hD
      refine lv_istore (lv' := [(6, .int 0), (5, .int 1), (4, .int 0), (3, .int (-1)), (0, .ref h0), (1, .int p0), (2, .int p1)]) hx hb dX12_spare_85 hl (by decide) rfl (fun ls hl => ?_)
      refine lv_iload hx hb dX12_spare_87 (lv_at hl 0 rfl) ?_
      refine lv_iload_n hx hb dX12_spare_89 rfl (lv_at hl 3 rfl) ?_
      refine lv_icmp_gt (tgt := 96) hx hb dX12_spare_90 (by decide) (fun _ => ?_) (fun h9 => absurd (by decide) h9)
      refine lv_iload hx hb dX12_spare_96 (lv_at hl 0 rfl) ?_
      refine lv_istore_n (lv' := [(3, .int 0), (6, .int 0), (5, .int 1), (4, .int 0), (0, .ref h0), (1, .int p0), (2, .int p1)]) hx hb dX12_spare_98 rfl hl (by decide) rfl (fun ls hl => ?_)
      refine lv_aload_n hx hb dX12_spare_99 rfl (lv_at hl 4 rfl) ?_
      refine va_get (D := D) (ci := 12) (v := .ref h4) (C := RX12) (T := TX12) (N := 38) hx hb hB inB_X12 hown hK.1 hP 3 rfl rfl 32 (by decide) (hB _ mw_203) (fun _ h9 => h9) rfl dX12_spare_100 ?_
      refine lv_iconst (v := 0) hx hb dX12_spare_103 (by decide) ?_
      refine lv_iload hx hb dX12_spare_104 (lv_at hl 3 rfl) ?_
      refine wy_iast hx hb hK hP hD hS 0 1 rfl rfl (by unfold vp_in; decide) dX12_spare_106 (j := 0) (by decide) (ws' := [(h4, .inl (ty 1, 2, .inl (upd f2 0 0))), (h2, .inl (ty 1, 256, .inl (upd (upd (upd (upd f0 0 0) 1 1000000) 16 1000000) 17 0))), (h3, .inl (ty 1, 256, .inl (upd (upd (upd (upd f1 0 0) 1 1000000) 16 1000000) 17 0))), (h0, .inr (12, [v0, .ref h1, v1, v2, v3, v4, v5, v6, v7, v8, v9, v10, v11, v12, v13, v14, v15, .ref h3, .ref h2, v16, v17, v18, v19, v20, v21, v22, v23, v24, v25, v26, v27, v28, .ref h4, v29, v30, v31, v32, v33])), (h1, .inl (ty 1, 304, .inl (upd (upd (kf 0) 1 2) 4 (-1))))]) rfl (fun H locs hP hD hS => ?_)
      refine lv_aload_n hx hb dX12_spare_107 rfl (lv_at hl 4 rfl) ?_
      refine va_get (D := D) (ci := 12) (v := .ref h4) (C := RX12) (T := TX12) (N := 38) hx hb hB inB_X12 hown hK.1 hP 3 rfl rfl 32 (by decide) (hB _ mw_203) (fun _ h9 => h9) rfl dX12_spare_108 ?_
      refine lv_iconst (v := 1) hx hb dX12_spare_111 (by decide) ?_
      refine lv_iload hx hb dX12_spare_112 (lv_at hl 2 rfl) ?_
      refine wy_iast hx hb hK hP hD hS 0 1 rfl rfl (by unfold vp_in; decide) dX12_spare_114 (j := 1) (by decide) (ws' := [(h4, .inl (ty 1, 2, .inl (upd (upd f2 0 0) 1 1))), (h2, .inl (ty 1, 256, .inl (upd (upd (upd (upd f0 0 0) 1 1000000) 16 1000000) 17 0))), (h3, .inl (ty 1, 256, .inl (upd (upd (upd (upd f1 0 0) 1 1000000) 16 1000000) 17 0))), (h0, .inr (12, [v0, .ref h1, v1, v2, v3, v4, v5, v6, v7, v8, v9, v10, v11, v12, v13, v14, v15, .ref h3, .ref h2, v16, v17, v18, v19, v20, v21, v22, v23, v24, v25, v26, v27, v28, .ref h4, v29, v30, v31, v32, v33])), (h1, .inl (ty 1, 304, .inl (upd (upd (kf 0) 1 2) 4 (-1))))]) rfl (fun H locs hP hD hS => ?_)
      refine lv_iinc (v := 2) (lv' := [(5, .int 2), (3, .int 0), (6, .int 0), (4, .int 0), (0, .ref h0), (1, .int p0), (2, .int p1)]) hx hb dX12_spare_115 hl (k := 2) rfl (by decide) (by decide) rfl (fun ls hl => ?_)
      refine lv_goto (tgt := 67) hx hb dX12_spare_118 (by decide) ?_
      refine lv_iload hx hb dX12_spare_67 (lv_at hl 0 rfl) ?_
      refine lv_aload_n hx hb dX12_spare_69 rfl (lv_at hl 4 rfl) ?_
      refine kc_i (va_runV (As := []) (rest := [.int 2]) ⟨hx, hb, hml, hown, hB⟩ (c160_X12_corners l D ty H.size h0 h1 v0 v1 v2 v3 v4 v5 v6 v7 v8 v9 v10 v11 v12 v13 v14 v15 (.ref h3) (.ref h2) v16 v17 v18 v19 v20 v21 v22 v23 v24 v25 v26 v27 v28 (.ref h4) v29 v30 v31 v32 v33) (cwV 0 hB (bw_V mw_484 mw_485 mw_486 mw_211 mw_483) rfl rfl rfl (by decide +kernel) ⟨Nat.le_of_ble_eq_true rfl, Nat.le_of_ble_eq_true rfl⟩) (kp_V hK hP hD [3, 4] (by decide) rfl 3 rfl rfl rfl) rfl rfl hl.1 rfl (lv_room (Nat.le_of_ble_eq_true rfl)) dX12_spare_70 ⟨Nat.le_of_ble_eq_true rfl, Nat.le_of_ble_eq_true rfl⟩) hP hD hS hA [3, 4] [0, 1, 2] (wr := [(h4, .inl (ty 1, 2, .inl (upd (upd f2 0 0) 1 1))), (h2, .inl (ty 1, 256, .inl (upd (upd (upd (upd f0 0 0) 1 1000000) 16 1000000) 17 0))), (h3, .inl (ty 1, 256, .inl (upd (upd (upd (upd f1 0 0) 1 1000000) 16 1000000) 17 0)))]) rfl rfl (by decide) (by decide) (fun r u H locs w13 hP hD hS => ?_)
      obtain ⟨rfl, rfl⟩ := w13
      have hP : va_P D vwCl [(h4, .inl (ty 1, 2, .inl (upd (upd f2 0 0) 1 1))), (h2, .inl (ty 1, 256, .inl (upd (upd (upd (upd f0 0 0) 1 1000000) 16 1000000) 17 0))), (h3, .inl (ty 1, 256, .inl (upd (upd (upd (upd f1 0 0) 1 1000000) 16 1000000) 17 0))), (h0, .inr (12, [v0, .ref h1, v1, v2, v3, v4, v5, v6, v7, v8, v9, v10, v11, v12, v13, v14, v15, .ref h3, .ref h2, v16, v17, v18, v19, v20, v21, v22, v23, v24, v25, v26, v27, v28, .ref h4, v29, v30, v31, v32, v33])), (h1, .inl (ty 1, 304, .inl (upd (upd (kf 0) 1 2) 4 (-1))))] H := hP
      have hD : va_D A [(h4, .inl (ty 1, 2, .inl (upd (upd f2 0 0) 1 1))), (h2, .inl (ty 1, 256, .inl (upd (upd (upd (upd f0 0 0) 1 1000000) 16 1000000) 17 0))), (h3, .inl (ty 1, 256, .inl (upd (upd (upd (upd f1 0 0) 1 1000000) 16 1000000) 17 0))), (h0, .inr (12, [v0, .ref h1, v1, v2, v3, v4, v5, v6, v7, v8, v9, v10, v11, v12, v13, v14, v15, .ref h3, .ref h2, v16, v17, v18, v19, v20, v21, v22, v23, v24, v25, v26, v27, v28, .ref h4, v29, v30, v31, v32, v33])), (h1, .inl (ty 1, 304, .inl (upd (upd (kf 0) 1 2) 4 (-1))))] := hD
      refine lv_icmp_ge (tgt := 121) hx hb dX12_spare_73 (by decide) (fun _ => ?_) (fun h9 => absurd (by decide) h9)
      refine lv_iinc (v := 1) (lv' := [(4, .int 1), (5, .int 2), (3, .int 0), (6, .int 0), (0, .ref h0), (1, .int p0), (2, .int p1)]) hx hb dX12_spare_121 hl (k := 3) rfl (by decide) (by decide) rfl (fun ls hl => ?_)
      refine lv_goto (tgt := 52) hx hb dX12_spare_124 (by decide) ?_
      refine lv_iload hx hb dX12_spare_52 (lv_at hl 0 rfl) ?_
      refine lv_aload_n hx hb dX12_spare_54 rfl (lv_at hl 4 rfl) ?_
      refine kc_i (va_runV (As := []) (rest := [.int 1]) ⟨hx, hb, hml, hown, hB⟩ (c160_X12_corners l D ty H.size h0 h1 v0 v1 v2 v3 v4 v5 v6 v7 v8 v9 v10 v11 v12 v13 v14 v15 (.ref h3) (.ref h2) v16 v17 v18 v19 v20 v21 v22 v23 v24 v25 v26 v27 v28 (.ref h4) v29 v30 v31 v32 v33) (cwV 0 hB (bw_V mw_484 mw_485 mw_486 mw_211 mw_483) rfl rfl rfl (by decide +kernel) ⟨Nat.le_of_ble_eq_true rfl, Nat.le_of_ble_eq_true rfl⟩) (kp_V hK hP hD [3, 4] (by decide) rfl 3 rfl rfl rfl) rfl rfl hl.1 rfl (lv_room (Nat.le_of_ble_eq_true rfl)) dX12_spare_55 ⟨Nat.le_of_ble_eq_true rfl, Nat.le_of_ble_eq_true rfl⟩) hP hD hS hA [3, 4] [0, 1, 2] (wr := [(h4, .inl (ty 1, 2, .inl (upd (upd f2 0 0) 1 1))), (h2, .inl (ty 1, 256, .inl (upd (upd (upd (upd f0 0 0) 1 1000000) 16 1000000) 17 0))), (h3, .inl (ty 1, 256, .inl (upd (upd (upd (upd f1 0 0) 1 1000000) 16 1000000) 17 0)))]) rfl rfl (by decide) (by decide) (fun r u H locs w14 hP hD hS => ?_)
      obtain ⟨rfl, rfl⟩ := w14
      have hP : va_P D vwCl [(h4, .inl (ty 1, 2, .inl (upd (upd f2 0 0) 1 1))), (h2, .inl (ty 1, 256, .inl (upd (upd (upd (upd f0 0 0) 1 1000000) 16 1000000) 17 0))), (h3, .inl (ty 1, 256, .inl (upd (upd (upd (upd f1 0 0) 1 1000000) 16 1000000) 17 0))), (h0, .inr (12, [v0, .ref h1, v1, v2, v3, v4, v5, v6, v7, v8, v9, v10, v11, v12, v13, v14, v15, .ref h3, .ref h2, v16, v17, v18, v19, v20, v21, v22, v23, v24, v25, v26, v27, v28, .ref h4, v29, v30, v31, v32, v33])), (h1, .inl (ty 1, 304, .inl (upd (upd (kf 0) 1 2) 4 (-1))))] H := hP
      have hD : va_D A [(h4, .inl (ty 1, 2, .inl (upd (upd f2 0 0) 1 1))), (h2, .inl (ty 1, 256, .inl (upd (upd (upd (upd f0 0 0) 1 1000000) 16 1000000) 17 0))), (h3, .inl (ty 1, 256, .inl (upd (upd (upd (upd f1 0 0) 1 1000000) 16 1000000) 17 0))), (h0, .inr (12, [v0, .ref h1, v1, v2, v3, v4, v5, v6, v7, v8, v9, v10, v11, v12, v13, v14, v15, .ref h3, .ref h2, v16, v17, v18, v19, v20, v21, v22, v23, v24, v25, v26, v27, v28, .ref h4, v29, v30, v31, v32, v33])), (h1, .inl (ty 1, 304, .inl (upd (upd (kf 0) 1 2) 4 (-1))))] := hD
      refine lv_icmp_ge (tgt := 127) hx hb dX12_spare_58 (by decide) (fun h9 => absurd h9 (by decide)) (fun _ => ?_)
      refine lv_iload hx hb dX12_spare_61 (lv_at hl 0 rfl) ?_
      refine lv_iconst (v := 1) hx hb dX12_spare_63 (by decide) ?_
      refine lv_iadd hx hb dX12_spare_64 ?_
      refine tp_i (v := 2) (by decide) ?_
      refine lv_istore (lv' := [(5, .int 2), (4, .int 1), (3, .int 0), (6, .int 0), (0, .ref h0), (1, .int p0), (2, .int p1)]) hx hb dX12_spare_65 hl (by decide) rfl (fun ls hl => ?_)
      refine lv_iload hx hb dX12_spare_67 (lv_at hl 0 rfl) ?_
      refine lv_aload_n hx hb dX12_spare_69 rfl (lv_at hl 4 rfl) ?_
      refine kc_i (va_runV (As := []) (rest := [.int 2]) ⟨hx, hb, hml, hown, hB⟩ (c160_X12_corners l D ty H.size h0 h1 v0 v1 v2 v3 v4 v5 v6 v7 v8 v9 v10 v11 v12 v13 v14 v15 (.ref h3) (.ref h2) v16 v17 v18 v19 v20 v21 v22 v23 v24 v25 v26 v27 v28 (.ref h4) v29 v30 v31 v32 v33) (cwV 0 hB (bw_V mw_484 mw_485 mw_486 mw_211 mw_483) rfl rfl rfl (by decide +kernel) ⟨Nat.le_of_ble_eq_true rfl, Nat.le_of_ble_eq_true rfl⟩) (kp_V hK hP hD [3, 4] (by decide) rfl 3 rfl rfl rfl) rfl rfl hl.1 rfl (lv_room (Nat.le_of_ble_eq_true rfl)) dX12_spare_70 ⟨Nat.le_of_ble_eq_true rfl, Nat.le_of_ble_eq_true rfl⟩) hP hD hS hA [3, 4] [0, 1, 2] (wr := [(h4, .inl (ty 1, 2, .inl (upd (upd f2 0 0) 1 1))), (h2, .inl (ty 1, 256, .inl (upd (upd (upd (upd f0 0 0) 1 1000000) 16 1000000) 17 0))), (h3, .inl (ty 1, 256, .inl (upd (upd (upd (upd f1 0 0) 1 1000000) 16 1000000) 17 0)))]) rfl rfl (by decide) (by decide) (fun r u H locs w15 hP hD hS => ?_)
      obtain ⟨rfl, rfl⟩ := w15
      have hP : va_P D vwCl [(h4, .inl (ty 1, 2, .inl (upd (upd f2 0 0) 1 1))), (h2, .inl (ty 1, 256, .inl (upd (upd (upd (upd f0 0 0) 1 1000000) 16 1000000) 17 0))), (h3, .inl (ty 1, 256, .inl (upd (upd (upd (upd f1 0 0) 1 1000000) 16 1000000) 17 0))), (h0, .inr (12, [v0, .ref h1, v1, v2, v3, v4, v5, v6, v7, v8, v9, v10, v11, v12, v13, v14, v15, .ref h3, .ref h2, v16, v17, v18, v19, v20, v21, v22, v23, v24, v25, v26, v27, v28, .ref h4, v29, v30, v31, v32, v33])), (h1, .inl (ty 1, 304, .inl (upd (upd (kf 0) 1 2) 4 (-1))))] H := hP
      have hD : va_D A [(h4, .inl (ty 1, 2, .inl (upd (upd f2 0 0) 1 1))), (h2, .inl (ty 1, 256, .inl (upd (upd (upd (upd f0 0 0) 1 1000000) 16 1000000) 17 0))), (h3, .inl (ty 1, 256, .inl (upd (upd (upd (upd f1 0 0) 1 1000000) 16 1000000) 17 0))), (h0, .inr (12, [v0, .ref h1, v1, v2, v3, v4, v5, v6, v7, v8, v9, v10, v11, v12, v13, v14, v15, .ref h3, .ref h2, v16, v17, v18, v19, v20, v21, v22, v23, v24, v25, v26, v27, v28, .ref h4, v29, v30, v31, v32, v33])), (h1, .inl (ty 1, 304, .inl (upd (upd (kf 0) 1 2) 4 (-1))))] := hD
      refine lv_icmp_ge (tgt := 121) hx hb dX12_spare_73 (by decide) (fun _ => ?_) (fun h9 => absurd (by decide) h9)
      refine lv_iinc (v := 2) (lv' := [(4, .int 2), (5, .int 2), (3, .int 0), (6, .int 0), (0, .ref h0), (1, .int p0), (2, .int p1)]) hx hb dX12_spare_121 hl (k := 1) rfl (by decide) (by decide) rfl (fun ls hl => ?_)
      refine lv_goto (tgt := 52) hx hb dX12_spare_124 (by decide) ?_
      refine lv_iload hx hb dX12_spare_52 (lv_at hl 0 rfl) ?_
      refine lv_aload_n hx hb dX12_spare_54 rfl (lv_at hl 4 rfl) ?_
      refine kc_i (va_runV (As := []) (rest := [.int 2]) ⟨hx, hb, hml, hown, hB⟩ (c160_X12_corners l D ty H.size h0 h1 v0 v1 v2 v3 v4 v5 v6 v7 v8 v9 v10 v11 v12 v13 v14 v15 (.ref h3) (.ref h2) v16 v17 v18 v19 v20 v21 v22 v23 v24 v25 v26 v27 v28 (.ref h4) v29 v30 v31 v32 v33) (cwV 0 hB (bw_V mw_484 mw_485 mw_486 mw_211 mw_483) rfl rfl rfl (by decide +kernel) ⟨Nat.le_of_ble_eq_true rfl, Nat.le_of_ble_eq_true rfl⟩) (kp_V hK hP hD [3, 4] (by decide) rfl 3 rfl rfl rfl) rfl rfl hl.1 rfl (lv_room (Nat.le_of_ble_eq_true rfl)) dX12_spare_55 ⟨Nat.le_of_ble_eq_true rfl, Nat.le_of_ble_eq_true rfl⟩) hP hD hS hA [3, 4] [0, 1, 2] (wr := [(h4, .inl (ty 1, 2, .inl (upd (upd f2 0 0) 1 1))), (h2, .inl (ty 1, 256, .inl (upd (upd (upd (upd f0 0 0) 1 1000000) 16 1000000) 17 0))), (h3, .inl (ty 1, 256, .inl (upd (upd (upd (upd f1 0 0) 1 1000000) 16 1000000) 17 0)))]) rfl rfl (by decide) (by decide) (fun r u H locs w16 hP hD hS => ?_)
      obtain ⟨rfl, rfl⟩ := w16
      have hP : va_P D vwCl [(h4, .inl (ty 1, 2, .inl (upd (upd f2 0 0) 1 1))), (h2, .inl (ty 1, 256, .inl (upd (upd (upd (upd f0 0 0) 1 1000000) 16 1000000) 17 0))), (h3, .inl (ty 1, 256, .inl (upd (upd (upd (upd f1 0 0) 1 1000000) 16 1000000) 17 0))), (h0, .inr (12, [v0, .ref h1, v1, v2, v3, v4, v5, v6, v7, v8, v9, v10, v11, v12, v13, v14, v15, .ref h3, .ref h2, v16, v17, v18, v19, v20, v21, v22, v23, v24, v25, v26, v27, v28, .ref h4, v29, v30, v31, v32, v33])), (h1, .inl (ty 1, 304, .inl (upd (upd (kf 0) 1 2) 4 (-1))))] H := hP
      have hD : va_D A [(h4, .inl (ty 1, 2, .inl (upd (upd f2 0 0) 1 1))), (h2, .inl (ty 1, 256, .inl (upd (upd (upd (upd f0 0 0) 1 1000000) 16 1000000) 17 0))), (h3, .inl (ty 1, 256, .inl (upd (upd (upd (upd f1 0 0) 1 1000000) 16 1000000) 17 0))), (h0, .inr (12, [v0, .ref h1, v1, v2, v3, v4, v5, v6, v7, v8, v9, v10, v11, v12, v13, v14, v15, .ref h3, .ref h2, v16, v17, v18, v19, v20, v21, v22, v23, v24, v25, v26, v27, v28, .ref h4, v29, v30, v31, v32, v33])), (h1, .inl (ty 1, 304, .inl (upd (upd (kf 0) 1 2) 4 (-1))))] := hD
      refine lv_icmp_ge (tgt := 127) hx hb dX12_spare_58 (by decide) (fun _ => ?_) (fun h9 => absurd (by decide) h9)
      refine lv_aload_n hx hb dX12_spare_127 rfl (lv_at hl 4 rfl) ?_
      refine lv_iconst (v := 1) hx hb dX12_spare_128 (by decide) ?_
      refine wy_put (D := D) (ci := 12) (v := .int 1) (fty := .boolean) (C := RX12) (T := TX12) (N := 38) hx hb hB inB_X12 tyX12 tyX12_ok nmX12 hown hK hP hD hS 3 rfl rfl 33 (by decide) mw_553 (fun _ h9 => h9) rfl (by decide +kernel) rfl rfl (Nat.le_of_ble_eq_true rfl) dX12_spare_129 (ws' := [(h4, .inl (ty 1, 2, .inl (upd (upd f2 0 0) 1 1))), (h2, .inl (ty 1, 256, .inl (upd (upd (upd (upd f0 0 0) 1 1000000) 16 1000000) 17 0))), (h3, .inl (ty 1, 256, .inl (upd (upd (upd (upd f1 0 0) 1 1000000) 16 1000000) 17 0))), (h0, .inr (12, [v0, .ref h1, v1, v2, v3, v4, v5, v6, v7, v8, v9, v10, v11, v12, v13, v14, v15, .ref h3, .ref h2, v16, v17, v18, v19, v20, v21, v22, v23, v24, v25, v26, v27, v28, .ref h4, .int 1, v30, v31, v32, v33])), (h1, .inl (ty 1, 304, .inl (upd (upd (kf 0) 1 2) 4 (-1))))]) rfl (fun H locs hP hD hS => ?_)
      refine lv_iload_n hx hb dX12_spare_132 rfl (lv_at hl 2 rfl) ?_
      exact kr_z hx hb hr rfl hlocks hP hD hS [] [] (by decide) rfl (Or.inl ⟨⟨c2, c5⟩, rfl, rfl⟩) (by decide) (by decide) dX12_spare_133
    · have hP : va_P D vwCl [(h0, .inr (12, [v0, .ref h1, v1, v2, v3, v4, v5, v6, v7, v8, v9, v10, v11, v12, v13, v14, v15, .ref h3, .ref h2, v16, v17, v18, v19, v20, v21, v22, v23, v24, v25, v26, v27, v28, .ref h4, v29, v30, v31, v32, v33])), (h1, .inl (ty 1, 304, .inl (upd (upd (kf 0) 1 2) 4 (-1)))), (h2, .inl (ty 1, 256, .inl f0)), (h3, .inl (ty 1, 256, .inl f1)), (h4, .inl (ty 1, 2, .inl f2))] H := hP
      have hD : va_D A [(h0, .inr (12, [v0, .ref h1, v1, v2, v3, v4, v5, v6, v7, v8, v9, v10, v11, v12, v13, v14, v15, .ref h3, .ref h2, v16, v17, v18, v19, v20, v21, v22, v23, v24, v25, v26, v27, v28, .ref h4, v29, v30, v31, v32, v33])), (h1, .inl (ty 1, 304, .inl (upd (upd (kf 0) 1 2) 4 (-1)))), (h2, .inl (ty 1, 256, .inl f0)), (h3, .inl (ty 1, 256, .inl f1)), (h4, .inl (ty 1, 2, .inl f2))] := hD
      refine lv_if_ne (tgt := 22) hx hb dX12_spare_16 (by decide) (fun h9 => absurd (by decide) h9) (fun _ => ?_)
      refine lv_bipush (v := (-2)) hx hb dX12_spare_19 (by decide) ?_
      exact kr_z hx hb hr rfl hlocks hP hD hS [] [] (by decide) rfl (Or.inr ⟨(Or.inl ⟨c2, c6⟩), rfl, rfl⟩) (by decide) (by decide) dX12_spare_21
  · have hP : va_P D vwCl [(h0, .inr (12, [v0, .ref h1, v1, v2, v3, v4, v5, v6, v7, v8, v9, v10, v11, v12, v13, v14, v15, .ref h3, .ref h2, v16, v17, v18, v19, v20, v21, v22, v23, v24, v25, v26, v27, v28, .ref h4, v29, v30, v31, v32, v33])), (h1, .inl (ty 1, 304, .inl (upd (upd (kf 0) 1 2) 4 (-1)))), (h2, .inl (ty 1, 256, .inl f0)), (h3, .inl (ty 1, 256, .inl f1)), (h4, .inl (ty 1, 2, .inl f2))] H := hP
    have hD : va_D A [(h0, .inr (12, [v0, .ref h1, v1, v2, v3, v4, v5, v6, v7, v8, v9, v10, v11, v12, v13, v14, v15, .ref h3, .ref h2, v16, v17, v18, v19, v20, v21, v22, v23, v24, v25, v26, v27, v28, .ref h4, v29, v30, v31, v32, v33])), (h1, .inl (ty 1, 304, .inl (upd (upd (kf 0) 1 2) 4 (-1)))), (h2, .inl (ty 1, 256, .inl f0)), (h3, .inl (ty 1, 256, .inl f1)), (h4, .inl (ty 1, 2, .inl f2))] := hD
    refine lv_if_eq (tgt := 19) hx hb dX12_spare_4 (by decide) (fun _ => ?_) (fun h9 => absurd (by decide) h9)
    refine lv_bipush (v := (-2)) hx hb dX12_spare_19 (by decide) ?_
    exact kr_z hx hb hr rfl hlocks hP hD hS [] [] (by decide) rfl (Or.inr ⟨(Or.inr c3), rfl, rfl⟩) (by decide) (by decide) dX12_spare_21
set_option maxHeartbeats 4000000 in
set_option maxRecDepth 100000 in
theorem c217_X12_spared (l : Launch) (D : va_G) (ty : Nat → ClassId) (sz : Nat) (h0 : Nat) (p0 : Int32) (v0 : Value) (v1 : Value) (v2 : Value) (v3 : Value) (v4 : Value) (v5 : Value) (v6 : Value) (v7 : Value) (v8 : Value) (v9 : Value) (v10 : Value) (v11 : Value) (v12 : Value) (v13 : Value) (v14 : Value) (v15 : Value) (v16 : Value) (v17 : Value) (v18 : Value) (v19 : Value) (v20 : Value) (v21 : Value) (v22 : Value) (v23 : Value) (v24 : Value) (v25 : Value) (v26 : Value) (v27 : Value) (v28 : Value) (v29 : Value) (v30 : Value) (v31 : Value) (v32 : Value) (v33 : Value) (v34 : Value) (v35 : Value) (v36 : Value) : cQ l yX12_spared cX12_spared 2 (some .int) 0 0 [.ref h0, .int p0] D ty [(h0, .inr (12, [v0, v1, v2, v3, v4, v5, v6, v7, v8, v9, v10, v11, v12, v13, v14, v15, v16, v17, v18, v19, v20, v21, v22, v23, v24, v25, v26, v27, v28, v29, v30, v31, v32, .int 0, v33, v34, v35, v36]))] sz (qI (fun (r : Int32) (u : va_W) => (-1) = r ∧ [] = u)) 0 0 := by
  refine cQ.of (by decide) (Nat.le_of_ble_eq_true rfl) (fun p e s m below meth c A ls C hsz hP hK hD hA hl => ?_)
  obtain ⟨hx, hb, hml, hown, hB, hr, hlocks, hin⟩ := C
  have hown : s.vm.findClass RX12 = some m.cls := hown
  have hS : va_S A s.heap s.heap [] := va_S.rf
  have hl : lv_has ls 2 [(0, .ref h0), (1, .int p0)] := hl
  refine lv_aload_n hx hb dX12_spared_0 rfl (lv_at hl 0 rfl) ?_
  refine va_get (D := D) (ci := 12) (v := .int 0) (C := RX12) (T := TX12) (N := 38) hx hb hB inB_X12 hown hK.1 hP 0 rfl rfl 33 (by decide) (hB _ mw_553) (fun _ h9 => h9) rfl dX12_spared_1 ?_
  refine lv_if_eq (tgt := 26) hx hb dX12_spared_4 (by decide) (fun _ => ?_) (fun h9 => absurd (by decide) h9)
  refine lv_iconst (v := (-1)) hx hb dX12_spared_26 (by decide) ?_
  exact kr_z hx hb hr rfl hlocks hP hD hS [] [] (by decide) rfl ⟨rfl, rfl⟩ (by decide) (by decide) dX12_spared_27
set_option maxHeartbeats 4000000 in
set_option maxRecDepth 100000 in
theorem c218_X12_alley (l : Launch) (D : va_G) (ty : Nat → ClassId) (sz : Nat) (h0 : Nat) (h1 : Nat) (p0 : Int32) (p1 : Int32) (v0 : Value) (v1 : Value) (v2 : Value) (v3 : Value) (v4 : Value) (v5 : Value) (v6 : Value) (v7 : Value) (v8 : Value) (v9 : Value) (v10 : Value) (v11 : Value) (v12 : Value) (v13 : Value) (v14 : Value) (v15 : Value) (v16 : Value) (v17 : Value) (v18 : Value) (v19 : Value) (v20 : Value) (v21 : Value) (v22 : Value) (v23 : Value) (v24 : Value) (v25 : Value) (v26 : Value) (v27 : Value) (v28 : Value) (v29 : Value) (v30 : Value) (v31 : Value) (v32 : Value) (v33 : Value) (v34 : Value) (v35 : Value) (v36 : Value) : cQ l yX12_alley cX12_alley 3 (some .int) 2 46 [.ref h0, .int p0, .int p1] D ty [(h0, .inr (12, [v0, .ref h1, v1, v2, v3, v4, v5, v6, v7, v8, v9, v10, v11, v12, v13, v14, v15, v16, v17, v18, v19, v20, v21, v22, v23, v24, v25, v26, v27, v28, v29, v30, v31, v32, v33, v34, v35, v36])), (h1, .inl (ty 1, 304, .inl (upd (upd (kf 0) 1 2) 4 (-1))))] sz (qI (fun (r : Int32) (u : va_W) => (-2000000000) = r ∧ [] = u)) 0 0 := by
  refine cQ.of (by decide) (Nat.le_of_ble_eq_true rfl) (fun p e s m below meth c A ls C hsz hP hK hD hA hl => ?_)
  obtain ⟨hx, hb, hml, hown, hB, hr, hlocks, hin⟩ := C
  have hown : s.vm.findClass RX12 = some m.cls := hown
  have hS : va_S A s.heap s.heap [] := va_S.rf
  have hl : lv_has ls 3 [(0, .ref h0), (1, .int p0), (2, .int p1)] := hl
  refine lv_aload_n hx hb dX12_alley_0 rfl (lv_at hl 0 rfl) ?_
  refine lv_iload_n hx hb dX12_alley_1 rfl (lv_at hl 1 rfl) ?_
  refine kc_i (va_runV (As := [.int p0]) (rest := []) ⟨hx, hb, hml, hown, hB⟩ (c150_X12_isAlley l D ty s.heap.size h0 h1 p0 v0 v1 v2 v3 v4 v5 v6 v7 v8 v9 v10 v11 v12 v13 v14 v15 v16 v17 v18 v19 v20 v21 v22 v23 v24 v25 v26 v27 v28 v29 v30 v31 v32 v33 v34 v35 v36) (cwV 1 hB (bw_V mw_472 mw_473 mw_474 mw_211 mw_471) rfl rfl rfl (by decide +kernel) ⟨Nat.le_of_ble_eq_true rfl, Nat.le_of_ble_eq_true rfl⟩) (kp_V hK hP hD [0, 1] (by decide) rfl 0 rfl rfl rfl) rfl rfl hl.1 rfl (lv_room (Nat.le_of_ble_eq_true rfl)) dX12_alley_2 ⟨Nat.le_of_ble_eq_true rfl, Nat.le_of_ble_eq_true rfl⟩) hP hD hS hA [0, 1] [] (wr := []) rfl rfl (by decide) (by decide) (fun r u H locs w1 hP hD hS => ?_)
  obtain ⟨rfl, rfl⟩ := w1
  have hP : va_P D vwCl [(h0, .inr (12, [v0, .ref h1, v1, v2, v3, v4, v5, v6, v7, v8, v9, v10, v11, v12, v13, v14, v15, v16, v17, v18, v19, v20, v21, v22, v23, v24, v25, v26, v27, v28, v29, v30, v31, v32, v33, v34, v35, v36])), (h1, .inl (ty 1, 304, .inl (upd (upd (kf 0) 1 2) 4 (-1))))] H := hP
  have hD : va_D A [(h0, .inr (12, [v0, .ref h1, v1, v2, v3, v4, v5, v6, v7, v8, v9, v10, v11, v12, v13, v14, v15, v16, v17, v18, v19, v20, v21, v22, v23, v24, v25, v26, v27, v28, v29, v30, v31, v32, v33, v34, v35, v36])), (h1, .inl (ty 1, 304, .inl (upd (upd (kf 0) 1 2) 4 (-1))))] := hD
  refine lv_if_eq (tgt := 29) hx hb dX12_alley_5 (by decide) (fun _ => ?_) (fun h9 => absurd (by decide) h9)
  refine lv_ldcw hx hb hown (hB _ mw_554) dX12_alley_29 ?_
  exact kr_z hx hb hr rfl hlocks hP hD hS [] [] (by decide) rfl ⟨rfl, rfl⟩ (by decide) (by decide) dX12_alley_32
set_option maxHeartbeats 4000000 in
set_option maxRecDepth 100000 in
theorem c219_X12_street (l : Launch) (D : va_G) (ty : Nat → ClassId) (sz : Nat) (h0 : Nat) (h1 : Nat) (p0 : Int32) (p1 : Int32) (v0 : Value) (v1 : Value) (v2 : Value) (v3 : Value) (v4 : Value) (v5 : Value) (v6 : Value) (v7 : Value) (v8 : Value) (v9 : Value) (v10 : Value) (v11 : Value) (v12 : Value) (v13 : Value) (v14 : Value) (v15 : Value) (v16 : Value) (v17 : Value) (v18 : Value) (v19 : Value) (v20 : Value) (v21 : Value) (v22 : Value) (v23 : Value) (v24 : Value) (v25 : Value) (v26 : Value) (v27 : Value) (v28 : Value) (v29 : Value) (v30 : Value) (v31 : Value) (v32 : Value) (v33 : Value) (v34 : Value) (v35 : Value) (v36 : Value) : cQ l yX12_street cX12_street 4 (some .int) 1 25 [.ref h0, .int p0, .int p1] D ty [(h0, .inr (12, [v0, .ref h1, v1, v2, v3, v4, v5, v6, v7, v8, v9, v10, v11, v12, v13, v14, v15, v16, v17, v18, v19, v20, v21, v22, v23, v24, v25, v26, v27, v28, v29, v30, v31, v32, v33, v34, v35, v36])), (h1, .inl (ty 1, 304, .inl (upd (upd (kf 0) 1 2) 4 (-1))))] sz (qI (fun (r : Int32) (u : va_W) => (-1) = r ∧ [] = u)) 0 0 := by
  refine cQ.of (by decide) (Nat.le_of_ble_eq_true rfl) (fun p e s m below meth c A ls C hsz hP hK hD hA hl => ?_)
  obtain ⟨hx, hb, hml, hown, hB, hr, hlocks, hin⟩ := C
  have hown : s.vm.findClass RX12 = some m.cls := hown
  have hS : va_S A s.heap s.heap [] := va_S.rf
  have hl : lv_has ls 4 [(0, .ref h0), (1, .int p0), (2, .int p1)] := hl
  refine lv_iload_n hx hb dX12_street_0 rfl (lv_at hl 1 rfl) ?_
  refine lv_i2l (v := (Int32.toInt64 p0)) hx hb dX12_street_1 rfl ?_
  refine lv_lconst (v := 0) hx hb dX12_street_2 (by decide) ?_
  refine lv_aload_n hx hb dX12_street_3 rfl (lv_at hl 0 rfl) ?_
  refine va_get (D := D) (ci := 12) (v := .ref h1) (C := RX12) (T := TX12) (N := 38) hx hb hB inB_X12 hown hK.1 hP 0 rfl rfl 1 (by decide) (hB _ mw_182) (fun _ h9 => h9) rfl dX12_street_4 ?_
  refine lv_iconst (v := 5) hx hb dX12_street_7 (by decide) ?_
  refine va_iald hx hb hK.1 hP 1 1 rfl rfl (by unfold vp_in; decide) dX12_street_8 ?_
  refine tp_i (v := 0) rfl ?_
  refine lv_iconst (v := 1) hx hb dX12_street_9 (by decide) ?_
  refine lv_isub hx hb dX12_street_10 ?_
  refine tp_i (v := (-1)) (by decide) ?_
  refine lv_i2l (v := (-1)) hx hb dX12_street_11 (by decide) ?_
  refine kc_i (va_runS (As := [.long (Int32.toInt64 p0), .long 0, .long (-1)]) (rest := []) ⟨hx, hb, hml, hown, hB⟩ (c_in l D ty s.heap.size (Int32.toInt64 p0) 0 (-1)) (va_cwS 3 hB (bw_S mw_445 mw_446 mw_211 mw_444) rfl rfl rfl (by decide +kernel) ⟨Nat.le_of_ble_eq_true rfl, Nat.le_of_ble_eq_true rfl⟩) (kp_S hK hP hD [] (by decide) rfl) rfl rfl hl.1 rfl (lv_room (Nat.le_of_ble_eq_true rfl)) dX12_street_12 ⟨Nat.le_of_ble_eq_true rfl, Nat.le_of_ble_eq_true rfl⟩) hP hD hS hA [] [0, 1] (wr := [(h0, .inr (12, [v0, .ref h1, v1, v2, v3, v4, v5, v6, v7, v8, v9, v10, v11, v12, v13, v14, v15, v16, v17, v18, v19, v20, v21, v22, v23, v24, v25, v26, v27, v28, v29, v30, v31, v32, v33, v34, v35, v36])), (h1, .inl (ty 1, 304, .inl (upd (upd (kf 0) 1 2) 4 (-1))))]) rfl rfl (by decide) (by decide) (fun r u H locs w1 hP hD hS => ?_)
  rcases w1 with ⟨c2, rfl, rfl⟩ | ⟨c3, rfl, rfl⟩
  · exact (ps_5 p0  c2).elim
  · have hP : va_P D vwCl [(h0, .inr (12, [v0, .ref h1, v1, v2, v3, v4, v5, v6, v7, v8, v9, v10, v11, v12, v13, v14, v15, v16, v17, v18, v19, v20, v21, v22, v23, v24, v25, v26, v27, v28, v29, v30, v31, v32, v33, v34, v35, v36])), (h1, .inl (ty 1, 304, .inl (upd (upd (kf 0) 1 2) 4 (-1))))] H := hP
    have hD : va_D A [(h0, .inr (12, [v0, .ref h1, v1, v2, v3, v4, v5, v6, v7, v8, v9, v10, v11, v12, v13, v14, v15, v16, v17, v18, v19, v20, v21, v22, v23, v24, v25, v26, v27, v28, v29, v30, v31, v32, v33, v34, v35, v36])), (h1, .inl (ty 1, 304, .inl (upd (upd (kf 0) 1 2) 4 (-1))))] := hD
    refine lv_if_ne (tgt := 20) hx hb dX12_street_15 (by decide) (fun h9 => absurd (by decide) h9) (fun _ => ?_)
    refine lv_iconst (v := (-1)) hx hb dX12_street_18 (by decide) ?_
    exact kr_z hx hb hr rfl hlocks hP hD hS [] [] (by decide) rfl ⟨rfl, rfl⟩ (by decide) (by decide) dX12_street_19
set_option maxHeartbeats 4000000 in
set_option maxRecDepth 100000 in
theorem c220_X12_journey (l : Launch) (D : va_G) (ty : Nat → ClassId) (sz : Nat) (h0 : Nat) (h1 : Nat) (p0 : Int32) (p1 : Int32) (v0 : Value) (v1 : Value) (v2 : Value) (v3 : Value) (v4 : Value) (v5 : Value) (v6 : Value) (v7 : Value) (v8 : Value) (v9 : Value) (v10 : Value) (v11 : Value) (v12 : Value) (v13 : Value) (v14 : Value) (v15 : Value) (v16 : Value) (v17 : Value) (v18 : Value) (v19 : Value) (v20 : Value) (v21 : Value) (v22 : Value) (v23 : Value) (v24 : Value) (v25 : Value) (v26 : Value) (v27 : Value) (v28 : Value) (v29 : Value) (v30 : Value) (v31 : Value) (v32 : Value) (v33 : Value) (v34 : Value) (v35 : Value) (v36 : Value) : cQ l yX12_journey cX12_journey 4 (some .int) 2 46 [.ref h0, .int p0, .int p1] D ty [(h0, .inr (12, [v0, .ref h1, v1, v2, v3, v4, v5, v6, v7, v8, v9, v10, v11, v12, v13, v14, v15, v16, v17, v18, v19, v20, v21, v22, v23, v24, v25, v26, v27, v28, v29, v30, v31, v32, v33, v34, v35, v36])), (h1, .inl (ty 1, 304, .inl (upd (upd (kf 0) 1 2) 4 (-1))))] sz (qI (fun (r : Int32) (u : va_W) => (-2000000000) = r ∧ [] = u)) 0 0 := by
  refine cQ.of (by decide) (Nat.le_of_ble_eq_true rfl) (fun p e s m below meth c A ls C hsz hP hK hD hA hl => ?_)
  obtain ⟨hx, hb, hml, hown, hB, hr, hlocks, hin⟩ := C
  have hown : s.vm.findClass RX12 = some m.cls := hown
  have hS : va_S A s.heap s.heap [] := va_S.rf
  have hl : lv_has ls 4 [(0, .ref h0), (1, .int p0), (2, .int p1)] := hl
  refine lv_aload_n hx hb dX12_journey_0 rfl (lv_at hl 0 rfl) ?_
  refine lv_iload_n hx hb dX12_journey_1 rfl (lv_at hl 1 rfl) ?_
  refine kc_i (va_runV (As := [.int p0]) (rest := []) ⟨hx, hb, hml, hown, hB⟩ (c178_X12_isJourney l D ty s.heap.size h0 h1 p0 v0 v1 v2 v3 v4 v5 v6 v7 v8 v9 v10 v11 v12 v13 v14 v15 v16 v17 v18 v19 v20 v21 v22 v23 v24 v25 v26 v27 v28 v29 v30 v31 v32 v33 v34 v35 v36) (cwV 1 hB (bw_V mw_520 mw_521 mw_522 mw_211 mw_519) rfl rfl rfl (by decide +kernel) ⟨Nat.le_of_ble_eq_true rfl, Nat.le_of_ble_eq_true rfl⟩) (kp_V hK hP hD [0, 1] (by decide) rfl 0 rfl rfl rfl) rfl rfl hl.1 rfl (lv_room (Nat.le_of_ble_eq_true rfl)) dX12_journey_2 ⟨Nat.le_of_ble_eq_true rfl, Nat.le_of_ble_eq_true rfl⟩) hP hD hS hA [0, 1] [] (wr := []) rfl rfl (by decide) (by decide) (fun r u H locs w1 hP hD hS => ?_)
  obtain ⟨rfl, rfl⟩ := w1
  have hP : va_P D vwCl [(h0, .inr (12, [v0, .ref h1, v1, v2, v3, v4, v5, v6, v7, v8, v9, v10, v11, v12, v13, v14, v15, v16, v17, v18, v19, v20, v21, v22, v23, v24, v25, v26, v27, v28, v29, v30, v31, v32, v33, v34, v35, v36])), (h1, .inl (ty 1, 304, .inl (upd (upd (kf 0) 1 2) 4 (-1))))] H := hP
  have hD : va_D A [(h0, .inr (12, [v0, .ref h1, v1, v2, v3, v4, v5, v6, v7, v8, v9, v10, v11, v12, v13, v14, v15, v16, v17, v18, v19, v20, v21, v22, v23, v24, v25, v26, v27, v28, v29, v30, v31, v32, v33, v34, v35, v36])), (h1, .inl (ty 1, 304, .inl (upd (upd (kf 0) 1 2) 4 (-1))))] := hD
  refine lv_if_eq (tgt := 20) hx hb dX12_journey_5 (by decide) (fun _ => ?_) (fun h9 => absurd (by decide) h9)
  refine lv_ldcw hx hb hown (hB _ mw_554) dX12_journey_20 ?_
  exact kr_z hx hb hr rfl hlocks hP hD hS [] [] (by decide) rfl ⟨rfl, rfl⟩ (by decide) (by decide) dX12_journey_23
set_option maxHeartbeats 4000000 in
set_option maxRecDepth 100000 in
theorem c222_X12_openOf (l : Launch) (D : va_G) (ty : Nat → ClassId) (sz : Nat) (h0 : Nat) (h1 : Nat) (v0 : Value) (v1 : Value) (v2 : Value) (v3 : Value) (v4 : Value) (v5 : Value) (v6 : Value) (v7 : Value) (v8 : Value) (v9 : Value) (v10 : Value) (v11 : Value) (v12 : Value) (v13 : Value) (v14 : Value) (v15 : Value) (v16 : Value) (v17 : Value) (v18 : Value) (v19 : Value) (v20 : Value) (v21 : Value) (v22 : Value) (v23 : Value) (v24 : Value) (v25 : Value) (v26 : Value) (v27 : Value) (v28 : Value) (v29 : Value) (v30 : Value) (v31 : Value) (v32 : Value) (v33 : Value) (v34 : Value) (v35 : Value) (v36 : Value) : cQ l yX12_openOf cX12_openOf 4 (some .int) 1 20 [.ref h0, .int 0] D ty [(h0, .inr (12, [v0, .ref h1, v1, v2, v3, v4, v5, v6, v7, v8, v9, v10, v11, v12, v13, v14, v15, v16, v17, v18, v19, v20, v21, v22, v23, v24, v25, v26, v27, v28, v29, v30, v31, v32, v33, v34, v35, v36])), (h1, .inl (ty 1, 304, .inl (upd (upd (kf 0) 1 2) 4 (-1))))] sz (qI (fun (r : Int32) (u : va_W) => 0 = r ∧ [(h0, .inr (12, [v0, .ref h1, v1, v2, v3, v4, v5, v6, v7, v8, v9, v10, v11, v12, v13, v14, v15, v16, v17, v18, v19, v20, v21, v22, v23, v24, v25, v26, v27, v28, v29, v30, v31, v32, v33, v34, v35, v36])), (h1, .inl (ty 1, 304, .inl (upd (upd (kf 0) 1 2) 4 (-1))))] = u)) 0 0 := by
  refine cQ.of (by decide) (Nat.le_of_ble_eq_true rfl) (fun p e s m below meth c A ls C hsz hP hK hD hA hl => ?_)
  obtain ⟨hx, hb, hml, hown, hB, hr, hlocks, hin⟩ := C
  have hown : s.vm.findClass RX12 = some m.cls := hown
  have hS : va_S A s.heap s.heap [] := va_S.rf
  have hl : lv_has ls 4 [(0, .ref h0), (1, .int 0)] := hl
  refine lv_iconst (v := 0) hx hb dX12_openOf_0 (by decide) ?_
  refine lv_istore_n (lv' := [(2, .int 0), (0, .ref h0), (1, .int 0)]) hx hb dX12_openOf_1 rfl hl (by decide) rfl (fun ls hl => ?_)
  refine lv_iconst (v := 0) hx hb dX12_openOf_2 (by decide) ?_
  refine lv_istore_n (lv' := [(3, .int 0), (2, .int 0), (0, .ref h0), (1, .int 0)]) hx hb dX12_openOf_3 rfl hl (by decide) rfl (fun ls hl => ?_)
  refine lv_iload_n hx hb dX12_openOf_4 rfl (lv_at hl 0 rfl) ?_
  refine lv_aload_n hx hb dX12_openOf_5 rfl (lv_at hl 2 rfl) ?_
  refine kc_i (va_runV (As := []) (rest := [.int 0]) ⟨hx, hb, hml, hown, hB⟩ (c146_X12_alleys l D ty s.heap.size h0 h1 v0 v1 v2 v3 v4 v5 v6 v7 v8 v9 v10 v11 v12 v13 v14 v15 v16 v17 v18 v19 v20 v21 v22 v23 v24 v25 v26 v27 v28 v29 v30 v31 v32 v33 v34 v35 v36) (cwV 0 hB (bw_V mw_465 mw_466 mw_467 mw_211 mw_464) rfl rfl rfl (by decide +kernel) ⟨Nat.le_of_ble_eq_true rfl, Nat.le_of_ble_eq_true rfl⟩) (kp_V hK hP hD [0, 1] (by decide) rfl 0 rfl rfl rfl) rfl rfl hl.1 rfl (lv_room (Nat.le_of_ble_eq_true rfl)) dX12_openOf_6 ⟨Nat.le_of_ble_eq_true rfl, Nat.le_of_ble_eq_true rfl⟩) hP hD hS hA [0, 1] [] (wr := []) rfl rfl (by decide) (by decide) (fun r u H locs w1 hP hD hS => ?_)
  obtain ⟨rfl, rfl⟩ := w1
  have hP : va_P D vwCl [(h0, .inr (12, [v0, .ref h1, v1, v2, v3, v4, v5, v6, v7, v8, v9, v10, v11, v12, v13, v14, v15, v16, v17, v18, v19, v20, v21, v22, v23, v24, v25, v26, v27, v28, v29, v30, v31, v32, v33, v34, v35, v36])), (h1, .inl (ty 1, 304, .inl (upd (upd (kf 0) 1 2) 4 (-1))))] H := hP
  have hD : va_D A [(h0, .inr (12, [v0, .ref h1, v1, v2, v3, v4, v5, v6, v7, v8, v9, v10, v11, v12, v13, v14, v15, v16, v17, v18, v19, v20, v21, v22, v23, v24, v25, v26, v27, v28, v29, v30, v31, v32, v33, v34, v35, v36])), (h1, .inl (ty 1, 304, .inl (upd (upd (kf 0) 1 2) 4 (-1))))] := hD
  refine lv_icmp_ge (tgt := 35) hx hb dX12_openOf_9 (by decide) (fun _ => ?_) (fun h9 => absurd (by decide) h9)
  refine lv_iload_n hx hb dX12_openOf_35 rfl (lv_at hl 1 rfl) ?_
  exact kr_z hx hb hr rfl hlocks hP hD hS [(h0, .inr (12, [v0, .ref h1, v1, v2, v3, v4, v5, v6, v7, v8, v9, v10, v11, v12, v13, v14, v15, v16, v17, v18, v19, v20, v21, v22, v23, v24, v25, v26, v27, v28, v29, v30, v31, v32, v33, v34, v35, v36])), (h1, .inl (ty 1, 304, .inl (upd (upd (kf 0) 1 2) 4 (-1))))] [0, 1] (by decide) rfl ⟨rfl, rfl⟩ (by decide) (by decide) dX12_openOf_36
set_option maxHeartbeats 4000000 in
set_option maxRecDepth 100000 in
theorem c223_X12_openOf (l : Launch) (D : va_G) (ty : Nat → ClassId) (sz : Nat) (h0 : Nat) (h1 : Nat) (v0 : Value) (v1 : Value) (v2 : Value) (v3 : Value) (v4 : Value) (v5 : Value) (v6 : Value) (v7 : Value) (v8 : Value) (v9 : Value) (v10 : Value) (v11 : Value) (v12 : Value) (v13 : Value) (v14 : Value) (v15 : Value) (v16 : Value) (v17 : Value) (v18 : Value) (v19 : Value) (v20 : Value) (v21 : Value) (v22 : Value) (v23 : Value) (v24 : Value) (v25 : Value) (v26 : Value) (v27 : Value) (v28 : Value) (v29 : Value) (v30 : Value) (v31 : Value) (v32 : Value) (v33 : Value) (v34 : Value) (v35 : Value) (v36 : Value) : cQ l yX12_openOf cX12_openOf 4 (some .int) 1 20 [.ref h0, .int 1] D ty [(h0, .inr (12, [v0, .ref h1, v1, v2, v3, v4, v5, v6, v7, v8, v9, v10, v11, v12, v13, v14, v15, v16, v17, v18, v19, v20, v21, v22, v23, v24, v25, v26, v27, v28, v29, v30, v31, v32, v33, v34, v35, v36])), (h1, .inl (ty 1, 304, .inl (upd (upd (kf 0) 1 2) 4 (-1))))] sz (qI (fun (r : Int32) (u : va_W) => 0 = r ∧ [(h0, .inr (12, [v0, .ref h1, v1, v2, v3, v4, v5, v6, v7, v8, v9, v10, v11, v12, v13, v14, v15, v16, v17, v18, v19, v20, v21, v22, v23, v24, v25, v26, v27, v28, v29, v30, v31, v32, v33, v34, v35, v36])), (h1, .inl (ty 1, 304, .inl (upd (upd (kf 0) 1 2) 4 (-1))))] = u)) 0 0 := by
  refine cQ.of (by decide) (Nat.le_of_ble_eq_true rfl) (fun p e s m below meth c A ls C hsz hP hK hD hA hl => ?_)
  obtain ⟨hx, hb, hml, hown, hB, hr, hlocks, hin⟩ := C
  have hown : s.vm.findClass RX12 = some m.cls := hown
  have hS : va_S A s.heap s.heap [] := va_S.rf
  have hl : lv_has ls 4 [(0, .ref h0), (1, .int 1)] := hl
  refine lv_iconst (v := 0) hx hb dX12_openOf_0 (by decide) ?_
  refine lv_istore_n (lv' := [(2, .int 0), (0, .ref h0), (1, .int 1)]) hx hb dX12_openOf_1 rfl hl (by decide) rfl (fun ls hl => ?_)
  refine lv_iconst (v := 0) hx hb dX12_openOf_2 (by decide) ?_
  refine lv_istore_n (lv' := [(3, .int 0), (2, .int 0), (0, .ref h0), (1, .int 1)]) hx hb dX12_openOf_3 rfl hl (by decide) rfl (fun ls hl => ?_)
  refine lv_iload_n hx hb dX12_openOf_4 rfl (lv_at hl 0 rfl) ?_
  refine lv_aload_n hx hb dX12_openOf_5 rfl (lv_at hl 2 rfl) ?_
  refine kc_i (va_runV (As := []) (rest := [.int 0]) ⟨hx, hb, hml, hown, hB⟩ (c146_X12_alleys l D ty s.heap.size h0 h1 v0 v1 v2 v3 v4 v5 v6 v7 v8 v9 v10 v11 v12 v13 v14 v15 v16 v17 v18 v19 v20 v21 v22 v23 v24 v25 v26 v27 v28 v29 v30 v31 v32 v33 v34 v35 v36) (cwV 0 hB (bw_V mw_465 mw_466 mw_467 mw_211 mw_464) rfl rfl rfl (by decide +kernel) ⟨Nat.le_of_ble_eq_true rfl, Nat.le_of_ble_eq_true rfl⟩) (kp_V hK hP hD [0, 1] (by decide) rfl 0 rfl rfl rfl) rfl rfl hl.1 rfl (lv_room (Nat.le_of_ble_eq_true rfl)) dX12_openOf_6 ⟨Nat.le_of_ble_eq_true rfl, Nat.le_of_ble_eq_true rfl⟩) hP hD hS hA [0, 1] [] (wr := []) rfl rfl (by decide) (by decide) (fun r u H locs w1 hP hD hS => ?_)
  obtain ⟨rfl, rfl⟩ := w1
  have hP : va_P D vwCl [(h0, .inr (12, [v0, .ref h1, v1, v2, v3, v4, v5, v6, v7, v8, v9, v10, v11, v12, v13, v14, v15, v16, v17, v18, v19, v20, v21, v22, v23, v24, v25, v26, v27, v28, v29, v30, v31, v32, v33, v34, v35, v36])), (h1, .inl (ty 1, 304, .inl (upd (upd (kf 0) 1 2) 4 (-1))))] H := hP
  have hD : va_D A [(h0, .inr (12, [v0, .ref h1, v1, v2, v3, v4, v5, v6, v7, v8, v9, v10, v11, v12, v13, v14, v15, v16, v17, v18, v19, v20, v21, v22, v23, v24, v25, v26, v27, v28, v29, v30, v31, v32, v33, v34, v35, v36])), (h1, .inl (ty 1, 304, .inl (upd (upd (kf 0) 1 2) 4 (-1))))] := hD
  refine lv_icmp_ge (tgt := 35) hx hb dX12_openOf_9 (by decide) (fun _ => ?_) (fun h9 => absurd (by decide) h9)
  refine lv_iload_n hx hb dX12_openOf_35 rfl (lv_at hl 1 rfl) ?_
  exact kr_z hx hb hr rfl hlocks hP hD hS [(h0, .inr (12, [v0, .ref h1, v1, v2, v3, v4, v5, v6, v7, v8, v9, v10, v11, v12, v13, v14, v15, v16, v17, v18, v19, v20, v21, v22, v23, v24, v25, v26, v27, v28, v29, v30, v31, v32, v33, v34, v35, v36])), (h1, .inl (ty 1, 304, .inl (upd (upd (kf 0) 1 2) 4 (-1))))] [0, 1] (by decide) rfl ⟨rfl, rfl⟩ (by decide) (by decide) dX12_openOf_36
set_option maxHeartbeats 4000000 in
set_option maxRecDepth 100000 in
theorem c224_X12_gridAlleys (l : Launch) (D : va_G) (ty : Nat → ClassId) (sz : Nat) (h0 : Nat) (h1 : Nat) (v0 : Value) (v1 : Value) (v2 : Value) (v3 : Value) (v4 : Value) (v5 : Value) (v6 : Value) (v7 : Value) (v8 : Value) (v9 : Value) (v10 : Value) (v11 : Value) (v12 : Value) (v13 : Value) (v14 : Value) (v15 : Value) (v16 : Value) (v17 : Value) (v18 : Value) (v19 : Value) (v20 : Value) (v21 : Value) (v22 : Value) (v23 : Value) (v24 : Value) (v25 : Value) (v26 : Value) (v27 : Value) (v28 : Value) (v29 : Value) (v30 : Value) (v31 : Value) (v32 : Value) (v33 : Value) (v34 : Value) (v35 : Value) (v36 : Value) : cQ l yX12_gridAlleys cX12_gridAlleys 1 (some .int) 0 0 [.ref h0] D ty [(h0, .inr (12, [v0, .ref h1, v1, v2, v3, v4, v5, v6, v7, v8, v9, v10, v11, v12, v13, v14, v15, v16, v17, v18, v19, v20, v21, v22, v23, v24, v25, v26, v27, v28, v29, v30, v31, v32, v33, v34, v35, v36])), (h1, .inl (ty 1, 304, .inl (upd (upd (kf 0) 1 2) 4 (-1))))] sz (qI (fun (r : Int32) (u : va_W) => 0 = r ∧ [(h0, .inr (12, [v0, .ref h1, v1, v2, v3, v4, v5, v6, v7, v8, v9, v10, v11, v12, v13, v14, v15, v16, v17, v18, v19, v20, v21, v22, v23, v24, v25, v26, v27, v28, v29, v30, v31, v32, v33, v34, v35, v36])), (h1, .inl (ty 1, 304, .inl (upd (upd (kf 0) 1 2) 4 (-1))))] = u)) 0 0 := by
  refine cQ.of (by decide) (Nat.le_of_ble_eq_true rfl) (fun p e s m below meth c A ls C hsz hP hK hD hA hl => ?_)
  obtain ⟨hx, hb, hml, hown, hB, hr, hlocks, hin⟩ := C
  have hown : s.vm.findClass RX12 = some m.cls := hown
  have hS : va_S A s.heap s.heap [] := va_S.rf
  have hl : lv_has ls 1 [(0, .ref h0)] := hl
  refine lv_aload_n hx hb dX12_gridAlleys_0 rfl (lv_at hl 0 rfl) ?_
  refine va_get (D := D) (ci := 12) (v := .ref h1) (C := RX12) (T := TX12) (N := 38) hx hb hB inB_X12 hown hK.1 hP 0 rfl rfl 1 (by decide) (hB _ mw_182) (fun _ h9 => h9) rfl dX12_gridAlleys_1 ?_
  refine lv_bipush (v := 6) hx hb dX12_gridAlleys_4 (by decide) ?_
  refine va_iald hx hb hK.1 hP 1 1 rfl rfl (by unfold vp_in; decide) dX12_gridAlleys_6 ?_
  refine tp_i (v := 0) rfl ?_
  refine lv_if_ne (tgt := 14) hx hb dX12_gridAlleys_7 (by decide) (fun h9 => absurd (by decide) h9) (fun _ => ?_)
  refine lv_iconst (v := 0) hx hb dX12_gridAlleys_10 (by decide) ?_
  refine lv_goto (tgt := 49) hx hb dX12_gridAlleys_11 (by decide) ?_
  exact kr_z hx hb hr rfl hlocks hP hD hS [(h0, .inr (12, [v0, .ref h1, v1, v2, v3, v4, v5, v6, v7, v8, v9, v10, v11, v12, v13, v14, v15, v16, v17, v18, v19, v20, v21, v22, v23, v24, v25, v26, v27, v28, v29, v30, v31, v32, v33, v34, v35, v36])), (h1, .inl (ty 1, 304, .inl (upd (upd (kf 0) 1 2) 4 (-1))))] [0, 1] (by decide) rfl ⟨rfl, rfl⟩ (by decide) (by decide) dX12_gridAlleys_49
set_option maxHeartbeats 4000000 in
set_option maxRecDepth 100000 in
theorem c221_X12_count (l : Launch) (D : va_G) (ty : Nat → ClassId) (sz : Nat) (h0 : Nat) (h1 : Nat) (h2 : Nat) (p0 : Int32) (v0 : Value) (v1 : Value) (v2 : Value) (v3 : Value) (v4 : Value) (v5 : Value) (v6 : Value) (v7 : Value) (v8 : Value) (v9 : Value) (v10 : Value) (v11 : Value) (v12 : Value) (v13 : Value) (v14 : Value) (v15 : Value) (v16 : Value) (v17 : Value) (v18 : Value) (v19 : Value) (v20 : Value) (v21 : Value) (v22 : Value) (v23 : Value) (v24 : Value) (v25 : Value) (v26 : Value) (v27 : Value) (v28 : Value) (v29 : Value) (v30 : Value) (v31 : Value) (v32 : Value) (v33 : Value) (v34 : Value) : cQ l yX12_count cX12_count 4 (some .int) 2 43 [.ref h0, .int p0] D ty [(h0, .inr (12, [v0, .ref h1, v1, v2, v3, .int 0, v4, v5, v6, v7, v8, v9, v10, v11, v12, v13, v14, v15, v16, v17, v18, v19, v20, v21, v22, v23, v24, v25, v26, v27, v28, v29, v30, v31, .ref h2, v32, v33, v34])), (h1, .inl (ty 1, 304, .inl (upd (upd (kf 0) 1 2) 4 (-1)))), (h2, .inl (ty 1, 4, .inl (upd (upd (upd (upd (kf 0) 0 (-1)) 1 (-1)) 2 (-1)) 3 (-1))))] sz (qI (fun (r : Int32) (u : va_W) => ((((p0.toInt < 0 ∨ 11 < p0.toInt)) ∨ ((p0 = 8))) ∧ (-1) = r ∧ [] = u) ∨ ((((p0 = 0)) ∨ ((p0 = 2)) ∨ ((p0 = 3)) ∨ ((p0 = 4)) ∨ ((p0 = 5)) ∨ ((p0 = 6)) ∨ ((p0 = 7)) ∨ ((p0 = 9)) ∨ ((p0 = 10)) ∨ ((p0 = 11))) ∧ 0 = r ∧ [] = u) ∨ (((p0 = 1)) ∧ 2 = r ∧ [] = u))) 0 0 := by
  refine cQ.of (by decide) (Nat.le_of_ble_eq_true rfl) (fun p e s m below meth c A ls C hsz hP hK hD hA hl => ?_)
  obtain ⟨hx, hb, hml, hown, hB, hr, hlocks, hin⟩ := C
  have hown : s.vm.findClass RX12 = some m.cls := hown
  have hS : va_S A s.heap s.heap [] := va_S.rf
  have hl : lv_has ls 4 [(0, .ref h0), (1, .int p0)] := hl
  refine lv_iconst (v := 0) hx hb dX12_count_0 (by decide) ?_
  refine lv_istore_n (lv' := [(2, .int 0), (0, .ref h0), (1, .int p0)]) hx hb dX12_count_1 rfl hl (by decide) rfl (fun ls hl => ?_)
  refine lv_iload_n hx hb dX12_count_2 rfl (lv_at hl 2 rfl) ?_
  rcases ps_3 p0 with c1 | rfl | rfl | rfl | rfl | rfl | rfl | rfl | rfl | rfl | rfl | rfl | rfl
  · refine lv_tableOut (tgt := 179) hx hb dX12_count_3 c1 (by decide) ?_
    refine lv_iconst (v := (-1)) hx hb dX12_count_179 (by decide) ?_
    exact kr_z hx hb hr rfl hlocks hP hD hS [] [] (by decide) rfl (Or.inl ⟨(Or.inl c1), rfl, rfl⟩) (by decide) (by decide) dX12_count_180
  · refine lv_tableIn (off := 61) (tgt := 64) hx hb dX12_count_3 (by decide) (by decide) (by decide) (by decide) ?_
    refine lv_aload_n hx hb dX12_count_64 rfl (lv_at hl 1 rfl) ?_
    refine va_get (D := D) (ci := 12) (v := .ref h1) (C := RX12) (T := TX12) (N := 38) hx hb hB inB_X12 hown hK.1 hP 0 rfl rfl 1 (by decide) (hB _ mw_182) (fun _ h9 => h9) rfl dX12_count_65 ?_
    refine lv_iconst (v := 0) hx hb dX12_count_68 (by decide) ?_
    refine va_iald hx hb hK.1 hP 1 1 rfl rfl (by unfold vp_in; decide) dX12_count_69 ?_
    refine tp_i (v := 0) rfl ?_
    exact kr_z hx hb hr rfl hlocks hP hD hS [] [] (by decide) rfl (Or.inr (Or.inl ⟨(Or.inl rfl), rfl, rfl⟩)) (by decide) (by decide) dX12_count_70
  · refine lv_tableIn (off := 68) (tgt := 71) hx hb dX12_count_3 (by decide) (by decide) (by decide) (by decide) ?_
    refine lv_aload_n hx hb dX12_count_71 rfl (lv_at hl 1 rfl) ?_
    refine kc_i (va_runV (As := []) (rest := []) ⟨hx, hb, hml, hown, hB⟩ (c160_X12_corners l D ty s.heap.size h0 h1 v0 v1 v2 v3 (.int 0) v4 v5 v6 v7 v8 v9 v10 v11 v12 v13 v14 v15 v16 v17 v18 v19 v20 v21 v22 v23 v24 v25 v26 v27 v28 v29 v30 v31 (.ref h2) v32 v33 v34) (cwV 0 hB (bw_V mw_484 mw_485 mw_486 mw_211 mw_483) rfl rfl rfl (by decide +kernel) ⟨Nat.le_of_ble_eq_true rfl, Nat.le_of_ble_eq_true rfl⟩) (kp_V hK hP hD [0, 1] (by decide) rfl 0 rfl rfl rfl) rfl rfl hl.1 rfl (lv_room (Nat.le_of_ble_eq_true rfl)) dX12_count_72 ⟨Nat.le_of_ble_eq_true rfl, Nat.le_of_ble_eq_true rfl⟩) hP hD hS hA [0, 1] [2] (wr := [(h2, .inl (ty 1, 4, .inl (upd (upd (upd (upd (kf 0) 0 (-1)) 1 (-1)) 2 (-1)) 3 (-1))))]) rfl rfl (by decide) (by decide) (fun r u H locs w2 hP hD hS => ?_)
    obtain ⟨rfl, rfl⟩ := w2
    have hP : va_P D vwCl [(h2, .inl (ty 1, 4, .inl (upd (upd (upd (upd (kf 0) 0 (-1)) 1 (-1)) 2 (-1)) 3 (-1)))), (h0, .inr (12, [v0, .ref h1, v1, v2, v3, .int 0, v4, v5, v6, v7, v8, v9, v10, v11, v12, v13, v14, v15, v16, v17, v18, v19, v20, v21, v22, v23, v24, v25, v26, v27, v28, v29, v30, v31, .ref h2, v32, v33, v34])), (h1, .inl (ty 1, 304, .inl (upd (upd (kf 0) 1 2) 4 (-1))))] H := hP
    have hD : va_D A [(h2, .inl (ty 1, 4, .inl (upd (upd (upd (upd (kf 0) 0 (-1)) 1 (-1)) 2 (-1)) 3 (-1)))), (h0, .inr (12, [v0, .ref h1, v1, v2, v3, .int 0, v4, v5, v6, v7, v8, v9, v10, v11, v12, v13, v14, v15, v16, v17, v18, v19, v20, v21, v22, v23, v24, v25, v26, v27, v28, v29, v30, v31, .ref h2, v32, v33, v34])), (h1, .inl (ty 1, 304, .inl (upd (upd (kf 0) 1 2) 4 (-1))))] := hD
    exact kr_z hx hb hr rfl hlocks hP hD hS [] [] (by decide) rfl (Or.inr (Or.inr ⟨rfl, rfl, rfl⟩)) (by decide) (by decide) dX12_count_75
  · refine lv_tableIn (off := 73) (tgt := 76) hx hb dX12_count_3 (by decide) (by decide) (by decide) (by decide) ?_
    refine lv_aload_n hx hb dX12_count_76 rfl (lv_at hl 1 rfl) ?_
    refine kc_i (va_runV (As := []) (rest := []) ⟨hx, hb, hml, hown, hB⟩ (c146_X12_alleys l D ty s.heap.size h0 h1 v0 v1 v2 v3 (.int 0) v4 v5 v6 v7 v8 v9 v10 v11 v12 v13 v14 v15 v16 v17 v18 v19 v20 v21 v22 v23 v24 v25 v26 v27 v28 v29 v30 v31 (.ref h2) v32 v33 v34) (cwV 0 hB (bw_V mw_465 mw_466 mw_467 mw_211 mw_464) rfl rfl rfl (by decide +kernel) ⟨Nat.le_of_ble_eq_true rfl, Nat.le_of_ble_eq_true rfl⟩) (kp_V hK hP hD [0, 1] (by decide) rfl 0 rfl rfl rfl) rfl rfl hl.1 rfl (lv_room (Nat.le_of_ble_eq_true rfl)) dX12_count_77 ⟨Nat.le_of_ble_eq_true rfl, Nat.le_of_ble_eq_true rfl⟩) hP hD hS hA [0, 1] [2] (wr := [(h2, .inl (ty 1, 4, .inl (upd (upd (upd (upd (kf 0) 0 (-1)) 1 (-1)) 2 (-1)) 3 (-1))))]) rfl rfl (by decide) (by decide) (fun r u H locs w3 hP hD hS => ?_)
    obtain ⟨rfl, rfl⟩ := w3
    have hP : va_P D vwCl [(h2, .inl (ty 1, 4, .inl (upd (upd (upd (upd (kf 0) 0 (-1)) 1 (-1)) 2 (-1)) 3 (-1)))), (h0, .inr (12, [v0, .ref h1, v1, v2, v3, .int 0, v4, v5, v6, v7, v8, v9, v10, v11, v12, v13, v14, v15, v16, v17, v18, v19, v20, v21, v22, v23, v24, v25, v26, v27, v28, v29, v30, v31, .ref h2, v32, v33, v34])), (h1, .inl (ty 1, 304, .inl (upd (upd (kf 0) 1 2) 4 (-1))))] H := hP
    have hD : va_D A [(h2, .inl (ty 1, 4, .inl (upd (upd (upd (upd (kf 0) 0 (-1)) 1 (-1)) 2 (-1)) 3 (-1)))), (h0, .inr (12, [v0, .ref h1, v1, v2, v3, .int 0, v4, v5, v6, v7, v8, v9, v10, v11, v12, v13, v14, v15, v16, v17, v18, v19, v20, v21, v22, v23, v24, v25, v26, v27, v28, v29, v30, v31, .ref h2, v32, v33, v34])), (h1, .inl (ty 1, 304, .inl (upd (upd (kf 0) 1 2) 4 (-1))))] := hD
    exact kr_z hx hb hr rfl hlocks hP hD hS [] [] (by decide) rfl (Or.inr (Or.inl ⟨(Or.inr (Or.inl rfl)), rfl, rfl⟩)) (by decide) (by decide) dX12_count_80
  · refine lv_tableIn (off := 78) (tgt := 81) hx hb dX12_count_3 (by decide) (by decide) (by decide) (by decide) ?_
    refine lv_aload_n hx hb dX12_count_81 rfl (lv_at hl 1 rfl) ?_
    refine kc_i (va_runV (As := []) (rest := []) ⟨hx, hb, hml, hown, hB⟩ (c179_X12_journeys l D ty s.heap.size h0 h1 v0 v1 v2 v3 (.int 0) v4 v5 v6 v7 v8 v9 v10 v11 v12 v13 v14 v15 v16 v17 v18 v19 v20 v21 v22 v23 v24 v25 v26 v27 v28 v29 v30 v31 (.ref h2) v32 v33 v34) (cwV 0 hB (bw_V mw_516 mw_517 mw_518 mw_211 mw_515) rfl rfl rfl (by decide +kernel) ⟨Nat.le_of_ble_eq_true rfl, Nat.le_of_ble_eq_true rfl⟩) (kp_V hK hP hD [0, 1] (by decide) rfl 0 rfl rfl rfl) rfl rfl hl.1 rfl (lv_room (Nat.le_of_ble_eq_true rfl)) dX12_count_82 ⟨Nat.le_of_ble_eq_true rfl, Nat.le_of_ble_eq_true rfl⟩) hP hD hS hA [0, 1] [2] (wr := [(h2, .inl (ty 1, 4, .inl (upd (upd (upd (upd (kf 0) 0 (-1)) 1 (-1)) 2 (-1)) 3 (-1))))]) rfl rfl (by decide) (by decide) (fun r u H locs w4 hP hD hS => ?_)
    obtain ⟨rfl, rfl⟩ := w4
    have hP : va_P D vwCl [(h2, .inl (ty 1, 4, .inl (upd (upd (upd (upd (kf 0) 0 (-1)) 1 (-1)) 2 (-1)) 3 (-1)))), (h0, .inr (12, [v0, .ref h1, v1, v2, v3, .int 0, v4, v5, v6, v7, v8, v9, v10, v11, v12, v13, v14, v15, v16, v17, v18, v19, v20, v21, v22, v23, v24, v25, v26, v27, v28, v29, v30, v31, .ref h2, v32, v33, v34])), (h1, .inl (ty 1, 304, .inl (upd (upd (kf 0) 1 2) 4 (-1))))] H := hP
    have hD : va_D A [(h2, .inl (ty 1, 4, .inl (upd (upd (upd (upd (kf 0) 0 (-1)) 1 (-1)) 2 (-1)) 3 (-1)))), (h0, .inr (12, [v0, .ref h1, v1, v2, v3, .int 0, v4, v5, v6, v7, v8, v9, v10, v11, v12, v13, v14, v15, v16, v17, v18, v19, v20, v21, v22, v23, v24, v25, v26, v27, v28, v29, v30, v31, .ref h2, v32, v33, v34])), (h1, .inl (ty 1, 304, .inl (upd (upd (kf 0) 1 2) 4 (-1))))] := hD
    exact kr_z hx hb hr rfl hlocks hP hD hS [] [] (by decide) rfl (Or.inr (Or.inl ⟨(Or.inr (Or.inr (Or.inl rfl))), rfl, rfl⟩)) (by decide) (by decide) dX12_count_85
  · refine lv_tableIn (off := 83) (tgt := 86) hx hb dX12_count_3 (by decide) (by decide) (by decide) (by decide) ?_
    refine lv_iconst (v := 0) hx hb dX12_count_86 (by decide) ?_
    refine lv_istore_n (lv' := [(3, .int 0), (2, .int 0), (0, .ref h0), (1, .int 4)]) hx hb dX12_count_87 rfl hl (by decide) rfl (fun ls hl => ?_)
    refine lv_iload_n hx hb dX12_count_88 rfl (lv_at hl 0 rfl) ?_
    refine lv_aload_n hx hb dX12_count_89 rfl (lv_at hl 2 rfl) ?_
    refine kc_i (va_runV (As := []) (rest := [.int 0]) ⟨hx, hb, hml, hown, hB⟩ (c146_X12_alleys l D ty s.heap.size h0 h1 v0 v1 v2 v3 (.int 0) v4 v5 v6 v7 v8 v9 v10 v11 v12 v13 v14 v15 v16 v17 v18 v19 v20 v21 v22 v23 v24 v25 v26 v27 v28 v29 v30 v31 (.ref h2) v32 v33 v34) (cwV 0 hB (bw_V mw_465 mw_466 mw_467 mw_211 mw_464) rfl rfl rfl (by decide +kernel) ⟨Nat.le_of_ble_eq_true rfl, Nat.le_of_ble_eq_true rfl⟩) (kp_V hK hP hD [0, 1] (by decide) rfl 0 rfl rfl rfl) rfl rfl hl.1 rfl (lv_room (Nat.le_of_ble_eq_true rfl)) dX12_count_90 ⟨Nat.le_of_ble_eq_true rfl, Nat.le_of_ble_eq_true rfl⟩) hP hD hS hA [0, 1] [2] (wr := [(h2, .inl (ty 1, 4, .inl (upd (upd (upd (upd (kf 0) 0 (-1)) 1 (-1)) 2 (-1)) 3 (-1))))]) rfl rfl (by decide) (by decide) (fun r u H locs w5 hP hD hS => ?_)
    obtain ⟨rfl, rfl⟩ := w5
    have hP : va_P D vwCl [(h2, .inl (ty 1, 4, .inl (upd (upd (upd (upd (kf 0) 0 (-1)) 1 (-1)) 2 (-1)) 3 (-1)))), (h0, .inr (12, [v0, .ref h1, v1, v2, v3, .int 0, v4, v5, v6, v7, v8, v9, v10, v11, v12, v13, v14, v15, v16, v17, v18, v19, v20, v21, v22, v23, v24, v25, v26, v27, v28, v29, v30, v31, .ref h2, v32, v33, v34])), (h1, .inl (ty 1, 304, .inl (upd (upd (kf 0) 1 2) 4 (-1))))] H := hP
    have hD : va_D A [(h2, .inl (ty 1, 4, .inl (upd (upd (upd (upd (kf 0) 0 (-1)) 1 (-1)) 2 (-1)) 3 (-1)))), (h0, .inr (12, [v0, .ref h1, v1, v2, v3, .int 0, v4, v5, v6, v7, v8, v9, v10, v11, v12, v13, v14, v15, v16, v17, v18, v19, v20, v21, v22, v23, v24, v25, v26, v27, v28, v29, v30, v31, .ref h2, v32, v33, v34])), (h1, .inl (ty 1, 304, .inl (upd (upd (kf 0) 1 2) 4 (-1))))] := hD
    refine lv_icmp_ge (tgt := 111) hx hb dX12_count_93 (by decide) (fun _ => ?_) (fun h9 => absurd (by decide) h9)
    refine lv_iload_n hx hb dX12_count_111 rfl (lv_at hl 1 rfl) ?_
    exact kr_z hx hb hr rfl hlocks hP hD hS [] [] (by decide) rfl (Or.inr (Or.inl ⟨(Or.inr (Or.inr (Or.inr (Or.inl rfl)))), rfl, rfl⟩)) (by decide) (by decide) dX12_count_112
  · refine lv_tableIn (off := 110) (tgt := 113) hx hb dX12_count_3 (by decide) (by decide) (by decide) (by decide) ?_
    refine lv_aload_n hx hb dX12_count_113 rfl (lv_at hl 1 rfl) ?_
    refine va_get (D := D) (ci := 12) (v := .int 0) (C := RX12) (T := TX12) (N := 38) hx hb hB inB_X12 hown hK.1 hP 0 rfl rfl 5 (by decide) (hB _ mw_443) (fun _ h9 => h9) rfl dX12_count_114 ?_
    exact kr_z hx hb hr rfl hlocks hP hD hS [] [] (by decide) rfl (Or.inr (Or.inl ⟨(Or.inr (Or.inr (Or.inr (Or.inr (Or.inl rfl))))), rfl, rfl⟩)) (by decide) (by decide) dX12_count_117
  · refine lv_tableIn (off := 115) (tgt := 118) hx hb dX12_count_3 (by decide) (by decide) (by decide) (by decide) ?_
    refine lv_aload_n hx hb dX12_count_118 rfl (lv_at hl 1 rfl) ?_
    refine lv_iload_n hx hb dX12_count_119 rfl (lv_at hl 2 rfl) ?_
    refine lv_bipush (v := 6) hx hb dX12_count_120 (by decide) ?_
    refine lv_isub hx hb dX12_count_122 ?_
    refine tp_i (v := 0) (by decide) ?_
    refine kc_i (va_runV (As := [.int 0]) (rest := []) ⟨hx, hb, hml, hown, hB⟩ (c222_X12_openOf l D ty s.heap.size h0 h1 v0 v1 v2 v3 (.int 0) v4 v5 v6 v7 v8 v9 v10 v11 v12 v13 v14 v15 v16 v17 v18 v19 v20 v21 v22 v23 v24 v25 v26 v27 v28 v29 v30 v31 (.ref h2) v32 v33 v34) (cwV 1 hB (bw_V mw_556 mw_557 mw_558 mw_211 mw_555) rfl rfl rfl (by decide +kernel) ⟨Nat.le_of_ble_eq_true rfl, Nat.le_of_ble_eq_true rfl⟩) (kp_V hK hP hD [0, 1] (by decide) rfl 0 rfl rfl rfl) rfl rfl hl.1 rfl (lv_room (Nat.le_of_ble_eq_true rfl)) dX12_count_123 ⟨Nat.le_of_ble_eq_true rfl, Nat.le_of_ble_eq_true rfl⟩) hP hD hS hA [0, 1] [2] (wr := [(h2, .inl (ty 1, 4, .inl (upd (upd (upd (upd (kf 0) 0 (-1)) 1 (-1)) 2 (-1)) 3 (-1))))]) rfl rfl (by decide) (by decide) (fun r u H locs w6 hP hD hS => ?_)
    obtain ⟨rfl, rfl⟩ := w6
    have hP : va_P D vwCl [(h2, .inl (ty 1, 4, .inl (upd (upd (upd (upd (kf 0) 0 (-1)) 1 (-1)) 2 (-1)) 3 (-1)))), (h0, .inr (12, [v0, .ref h1, v1, v2, v3, .int 0, v4, v5, v6, v7, v8, v9, v10, v11, v12, v13, v14, v15, v16, v17, v18, v19, v20, v21, v22, v23, v24, v25, v26, v27, v28, v29, v30, v31, .ref h2, v32, v33, v34])), (h1, .inl (ty 1, 304, .inl (upd (upd (kf 0) 1 2) 4 (-1))))] H := hP
    have hD : va_D A [(h2, .inl (ty 1, 4, .inl (upd (upd (upd (upd (kf 0) 0 (-1)) 1 (-1)) 2 (-1)) 3 (-1)))), (h0, .inr (12, [v0, .ref h1, v1, v2, v3, .int 0, v4, v5, v6, v7, v8, v9, v10, v11, v12, v13, v14, v15, v16, v17, v18, v19, v20, v21, v22, v23, v24, v25, v26, v27, v28, v29, v30, v31, .ref h2, v32, v33, v34])), (h1, .inl (ty 1, 304, .inl (upd (upd (kf 0) 1 2) 4 (-1))))] := hD
    exact kr_z hx hb hr rfl hlocks hP hD hS [] [] (by decide) rfl (Or.inr (Or.inl ⟨(Or.inr (Or.inr (Or.inr (Or.inr (Or.inr (Or.inl rfl)))))), rfl, rfl⟩)) (by decide) (by decide) dX12_count_126
  · refine lv_tableIn (off := 115) (tgt := 118) hx hb dX12_count_3 (by decide) (by decide) (by decide) (by decide) ?_
    refine lv_aload_n hx hb dX12_count_118 rfl (lv_at hl 1 rfl) ?_
    refine lv_iload_n hx hb dX12_count_119 rfl (lv_at hl 2 rfl) ?_
    refine lv_bipush (v := 6) hx hb dX12_count_120 (by decide) ?_
    refine lv_isub hx hb dX12_count_122 ?_
    refine tp_i (v := 1) (by decide) ?_
    refine kc_i (va_runV (As := [.int 1]) (rest := []) ⟨hx, hb, hml, hown, hB⟩ (c223_X12_openOf l D ty s.heap.size h0 h1 v0 v1 v2 v3 (.int 0) v4 v5 v6 v7 v8 v9 v10 v11 v12 v13 v14 v15 v16 v17 v18 v19 v20 v21 v22 v23 v24 v25 v26 v27 v28 v29 v30 v31 (.ref h2) v32 v33 v34) (cwV 1 hB (bw_V mw_556 mw_557 mw_558 mw_211 mw_555) rfl rfl rfl (by decide +kernel) ⟨Nat.le_of_ble_eq_true rfl, Nat.le_of_ble_eq_true rfl⟩) (kp_V hK hP hD [0, 1] (by decide) rfl 0 rfl rfl rfl) rfl rfl hl.1 rfl (lv_room (Nat.le_of_ble_eq_true rfl)) dX12_count_123 ⟨Nat.le_of_ble_eq_true rfl, Nat.le_of_ble_eq_true rfl⟩) hP hD hS hA [0, 1] [2] (wr := [(h2, .inl (ty 1, 4, .inl (upd (upd (upd (upd (kf 0) 0 (-1)) 1 (-1)) 2 (-1)) 3 (-1))))]) rfl rfl (by decide) (by decide) (fun r u H locs w7 hP hD hS => ?_)
    obtain ⟨rfl, rfl⟩ := w7
    have hP : va_P D vwCl [(h2, .inl (ty 1, 4, .inl (upd (upd (upd (upd (kf 0) 0 (-1)) 1 (-1)) 2 (-1)) 3 (-1)))), (h0, .inr (12, [v0, .ref h1, v1, v2, v3, .int 0, v4, v5, v6, v7, v8, v9, v10, v11, v12, v13, v14, v15, v16, v17, v18, v19, v20, v21, v22, v23, v24, v25, v26, v27, v28, v29, v30, v31, .ref h2, v32, v33, v34])), (h1, .inl (ty 1, 304, .inl (upd (upd (kf 0) 1 2) 4 (-1))))] H := hP
    have hD : va_D A [(h2, .inl (ty 1, 4, .inl (upd (upd (upd (upd (kf 0) 0 (-1)) 1 (-1)) 2 (-1)) 3 (-1)))), (h0, .inr (12, [v0, .ref h1, v1, v2, v3, .int 0, v4, v5, v6, v7, v8, v9, v10, v11, v12, v13, v14, v15, v16, v17, v18, v19, v20, v21, v22, v23, v24, v25, v26, v27, v28, v29, v30, v31, .ref h2, v32, v33, v34])), (h1, .inl (ty 1, 304, .inl (upd (upd (kf 0) 1 2) 4 (-1))))] := hD
    exact kr_z hx hb hr rfl hlocks hP hD hS [] [] (by decide) rfl (Or.inr (Or.inl ⟨(Or.inr (Or.inr (Or.inr (Or.inr (Or.inr (Or.inr (Or.inl rfl))))))), rfl, rfl⟩)) (by decide) (by decide) dX12_count_126
  · refine lv_tableIn (off := 124) (tgt := 127) hx hb dX12_count_3 (by decide) (by decide) (by decide) (by decide) ?_
    refine lv_aload_n hx hb dX12_count_127 rfl (lv_at hl 1 rfl) ?_
    refine va_get (D := D) (ci := 12) (v := .ref h1) (C := RX12) (T := TX12) (N := 38) hx hb hB inB_X12 hown hK.1 hP 0 rfl rfl 1 (by decide) (hB _ mw_182) (fun _ h9 => h9) rfl dX12_count_128 ?_
    refine lv_iconst (v := 4) hx hb dX12_count_131 (by decide) ?_
    refine va_iald hx hb hK.1 hP 1 1 rfl rfl (by unfold vp_in; decide) dX12_count_132 ?_
    refine tp_i (v := (-1)) rfl ?_
    exact kr_z hx hb hr rfl hlocks hP hD hS [] [] (by decide) rfl (Or.inl ⟨(Or.inr rfl), rfl, rfl⟩) (by decide) (by decide) dX12_count_133
  · refine lv_tableIn (off := 131) (tgt := 134) hx hb dX12_count_3 (by decide) (by decide) (by decide) (by decide) ?_
    refine lv_iconst (v := 0) hx hb dX12_count_134 (by decide) ?_
    refine lv_istore_n (lv' := [(3, .int 0), (2, .int 0), (0, .ref h0), (1, .int 9)]) hx hb dX12_count_135 rfl hl (by decide) rfl (fun ls hl => ?_)
    refine lv_iload_n hx hb dX12_count_136 rfl (lv_at hl 0 rfl) ?_
    refine lv_iconst (v := 4) hx hb dX12_count_137 (by decide) ?_
    refine lv_icmp_ge (tgt := 165) hx hb dX12_count_138 (by decide) (fun h9 => absurd h9 (by decide)) (fun _ => ?_)
    refine lv_iload_n hx hb dX12_count_141 rfl (lv_at hl 1 rfl) ?_
    refine lv_aload_n hx hb dX12_count_142 rfl (lv_at hl 2 rfl) ?_
    refine va_get (D := D) (ci := 12) (v := .ref h2) (C := RX12) (T := TX12) (N := 38) hx hb hB inB_X12 hown hK.1 hP 0 rfl rfl 34 (by decide) (hB _ mw_204) (fun _ h9 => h9) rfl dX12_count_143 ?_
    refine lv_iload_n hx hb dX12_count_146 rfl (lv_at hl 0 rfl) ?_
    refine va_iald hx hb hK.1 hP 2 1 rfl rfl (by unfold vp_in; decide) dX12_count_147 ?_
    refine tp_i (v := (-1)) rfl ?_
    refine lv_iconst (v := (-1)) hx hb dX12_count_148 (by decide) ?_
    refine lv_icmp_ne (tgt := 156) hx hb dX12_count_149 (by decide) (fun h9 => absurd (by decide) h9) (fun _ => ?_)
    refine lv_iconst (v := 0) hx hb dX12_count_152 (by decide) ?_
    refine lv_goto (tgt := 157) hx hb dX12_count_153 (by decide) ?_
    refine lv_iadd hx hb dX12_count_157 ?_
    refine tp_i (v := 0) (by decide) ?_
    refine lv_istore_n (lv' := [(2, .int 0), (3, .int 0), (0, .ref h0), (1, .int 9)]) hx hb dX12_count_158 rfl hl (by decide) rfl (fun ls hl => ?_)
    refine lv_iinc (v := 1) (lv' := [(3, .int 1), (2, .int 0), (0, .ref h0), (1, .int 9)]) hx hb dX12_count_159 hl (k := 1) rfl (by decide) (by decide) rfl (fun ls hl => ?_)
    refine lv_goto (tgt := 136) hx hb dX12_count_162 (by decide) ?_
    refine lv_iload_n hx hb dX12_count_136 rfl (lv_at hl 0 rfl) ?_
    refine lv_iconst (v := 4) hx hb dX12_count_137 (by decide) ?_
    refine lv_icmp_ge (tgt := 165) hx hb dX12_count_138 (by decide) (fun h9 => absurd h9 (by decide)) (fun _ => ?_)
    refine lv_iload_n hx hb dX12_count_141 rfl (lv_at hl 1 rfl) ?_
    refine lv_aload_n hx hb dX12_count_142 rfl (lv_at hl 2 rfl) ?_
    refine va_get (D := D) (ci := 12) (v := .ref h2) (C := RX12) (T := TX12) (N := 38) hx hb hB inB_X12 hown hK.1 hP 0 rfl rfl 34 (by decide) (hB _ mw_204) (fun _ h9 => h9) rfl dX12_count_143 ?_
    refine lv_iload_n hx hb dX12_count_146 rfl (lv_at hl 0 rfl) ?_
    refine va_iald hx hb hK.1 hP 2 1 rfl rfl (by unfold vp_in; decide) dX12_count_147 ?_
    refine tp_i (v := (-1)) rfl ?_
    refine lv_iconst (v := (-1)) hx hb dX12_count_148 (by decide) ?_
    refine lv_icmp_ne (tgt := 156) hx hb dX12_count_149 (by decide) (fun h9 => absurd (by decide) h9) (fun _ => ?_)
    refine lv_iconst (v := 0) hx hb dX12_count_152 (by decide) ?_
    refine lv_goto (tgt := 157) hx hb dX12_count_153 (by decide) ?_
    refine lv_iadd hx hb dX12_count_157 ?_
    refine tp_i (v := 0) (by decide) ?_
    refine lv_istore_n (lv' := [(2, .int 0), (3, .int 1), (0, .ref h0), (1, .int 9)]) hx hb dX12_count_158 rfl hl (by decide) rfl (fun ls hl => ?_)
    refine lv_iinc (v := 2) (lv' := [(3, .int 2), (2, .int 0), (0, .ref h0), (1, .int 9)]) hx hb dX12_count_159 hl (k := 1) rfl (by decide) (by decide) rfl (fun ls hl => ?_)
    refine lv_goto (tgt := 136) hx hb dX12_count_162 (by decide) ?_
    refine lv_iload_n hx hb dX12_count_136 rfl (lv_at hl 0 rfl) ?_
    refine lv_iconst (v := 4) hx hb dX12_count_137 (by decide) ?_
    refine lv_icmp_ge (tgt := 165) hx hb dX12_count_138 (by decide) (fun h9 => absurd h9 (by decide)) (fun _ => ?_)
    refine lv_iload_n hx hb dX12_count_141 rfl (lv_at hl 1 rfl) ?_
    refine lv_aload_n hx hb dX12_count_142 rfl (lv_at hl 2 rfl) ?_
    refine va_get (D := D) (ci := 12) (v := .ref h2) (C := RX12) (T := TX12) (N := 38) hx hb hB inB_X12 hown hK.1 hP 0 rfl rfl 34 (by decide) (hB _ mw_204) (fun _ h9 => h9) rfl dX12_count_143 ?_
    refine lv_iload_n hx hb dX12_count_146 rfl (lv_at hl 0 rfl) ?_
    refine va_iald hx hb hK.1 hP 2 1 rfl rfl (by unfold vp_in; decide) dX12_count_147 ?_
    refine tp_i (v := (-1)) rfl ?_
    refine lv_iconst (v := (-1)) hx hb dX12_count_148 (by decide) ?_
    refine lv_icmp_ne (tgt := 156) hx hb dX12_count_149 (by decide) (fun h9 => absurd (by decide) h9) (fun _ => ?_)
    refine lv_iconst (v := 0) hx hb dX12_count_152 (by decide) ?_
    refine lv_goto (tgt := 157) hx hb dX12_count_153 (by decide) ?_
    refine lv_iadd hx hb dX12_count_157 ?_
    refine tp_i (v := 0) (by decide) ?_
    refine lv_istore_n (lv' := [(2, .int 0), (3, .int 2), (0, .ref h0), (1, .int 9)]) hx hb dX12_count_158 rfl hl (by decide) rfl (fun ls hl => ?_)
    refine lv_iinc (v := 3) (lv' := [(3, .int 3), (2, .int 0), (0, .ref h0), (1, .int 9)]) hx hb dX12_count_159 hl (k := 1) rfl (by decide) (by decide) rfl (fun ls hl => ?_)
    refine lv_goto (tgt := 136) hx hb dX12_count_162 (by decide) ?_
    refine lv_iload_n hx hb dX12_count_136 rfl (lv_at hl 0 rfl) ?_
    refine lv_iconst (v := 4) hx hb dX12_count_137 (by decide) ?_
    refine lv_icmp_ge (tgt := 165) hx hb dX12_count_138 (by decide) (fun h9 => absurd h9 (by decide)) (fun _ => ?_)
    refine lv_iload_n hx hb dX12_count_141 rfl (lv_at hl 1 rfl) ?_
    refine lv_aload_n hx hb dX12_count_142 rfl (lv_at hl 2 rfl) ?_
    refine va_get (D := D) (ci := 12) (v := .ref h2) (C := RX12) (T := TX12) (N := 38) hx hb hB inB_X12 hown hK.1 hP 0 rfl rfl 34 (by decide) (hB _ mw_204) (fun _ h9 => h9) rfl dX12_count_143 ?_
    refine lv_iload_n hx hb dX12_count_146 rfl (lv_at hl 0 rfl) ?_
    refine va_iald hx hb hK.1 hP 2 1 rfl rfl (by unfold vp_in; decide) dX12_count_147 ?_
    refine tp_i (v := (-1)) rfl ?_
    refine lv_iconst (v := (-1)) hx hb dX12_count_148 (by decide) ?_
    refine lv_icmp_ne (tgt := 156) hx hb dX12_count_149 (by decide) (fun h9 => absurd (by decide) h9) (fun _ => ?_)
    refine lv_iconst (v := 0) hx hb dX12_count_152 (by decide) ?_
    refine lv_goto (tgt := 157) hx hb dX12_count_153 (by decide) ?_
    refine lv_iadd hx hb dX12_count_157 ?_
    refine tp_i (v := 0) (by decide) ?_
    refine lv_istore_n (lv' := [(2, .int 0), (3, .int 3), (0, .ref h0), (1, .int 9)]) hx hb dX12_count_158 rfl hl (by decide) rfl (fun ls hl => ?_)
    refine lv_iinc (v := 4) (lv' := [(3, .int 4), (2, .int 0), (0, .ref h0), (1, .int 9)]) hx hb dX12_count_159 hl (k := 1) rfl (by decide) (by decide) rfl (fun ls hl => ?_)
    refine lv_goto (tgt := 136) hx hb dX12_count_162 (by decide) ?_
    refine lv_iload_n hx hb dX12_count_136 rfl (lv_at hl 0 rfl) ?_
    refine lv_iconst (v := 4) hx hb dX12_count_137 (by decide) ?_
    refine lv_icmp_ge (tgt := 165) hx hb dX12_count_138 (by decide) (fun _ => ?_) (fun h9 => absurd (by decide) h9)
    refine lv_iload_n hx hb dX12_count_165 rfl (lv_at hl 1 rfl) ?_
    exact kr_z hx hb hr rfl hlocks hP hD hS [] [] (by decide) rfl (Or.inr (Or.inl ⟨(Or.inr (Or.inr (Or.inr (Or.inr (Or.inr (Or.inr (Or.inr (Or.inl rfl)))))))), rfl, rfl⟩)) (by decide) (by decide) dX12_count_166
  · refine lv_tableIn (off := 164) (tgt := 167) hx hb dX12_count_3 (by decide) (by decide) (by decide) (by decide) ?_
    refine lv_aload_n hx hb dX12_count_167 rfl (lv_at hl 1 rfl) ?_
    refine va_get (D := D) (ci := 12) (v := .ref h1) (C := RX12) (T := TX12) (N := 38) hx hb hB inB_X12 hown hK.1 hP 0 rfl rfl 1 (by decide) (hB _ mw_182) (fun _ h9 => h9) rfl dX12_count_168 ?_
    refine lv_iconst (v := 5) hx hb dX12_count_171 (by decide) ?_
    refine va_iald hx hb hK.1 hP 1 1 rfl rfl (by unfold vp_in; decide) dX12_count_172 ?_
    refine tp_i (v := 0) rfl ?_
    exact kr_z hx hb hr rfl hlocks hP hD hS [] [] (by decide) rfl (Or.inr (Or.inl ⟨(Or.inr (Or.inr (Or.inr (Or.inr (Or.inr (Or.inr (Or.inr (Or.inr (Or.inl rfl))))))))), rfl, rfl⟩)) (by decide) (by decide) dX12_count_173
  · refine lv_tableIn (off := 171) (tgt := 174) hx hb dX12_count_3 (by decide) (by decide) (by decide) (by decide) ?_
    refine lv_aload_n hx hb dX12_count_174 rfl (lv_at hl 1 rfl) ?_
    refine kc_i (va_runV (As := []) (rest := []) ⟨hx, hb, hml, hown, hB⟩ (c224_X12_gridAlleys l D ty s.heap.size h0 h1 v0 v1 v2 v3 (.int 0) v4 v5 v6 v7 v8 v9 v10 v11 v12 v13 v14 v15 v16 v17 v18 v19 v20 v21 v22 v23 v24 v25 v26 v27 v28 v29 v30 v31 (.ref h2) v32 v33 v34) (cwV 0 hB (bw_V mw_560 mw_561 mw_562 mw_211 mw_559) rfl rfl rfl (by decide +kernel) ⟨Nat.le_of_ble_eq_true rfl, Nat.le_of_ble_eq_true rfl⟩) (kp_V hK hP hD [0, 1] (by decide) rfl 0 rfl rfl rfl) rfl rfl hl.1 rfl (lv_room (Nat.le_of_ble_eq_true rfl)) dX12_count_175 ⟨Nat.le_of_ble_eq_true rfl, Nat.le_of_ble_eq_true rfl⟩) hP hD hS hA [0, 1] [2] (wr := [(h2, .inl (ty 1, 4, .inl (upd (upd (upd (upd (kf 0) 0 (-1)) 1 (-1)) 2 (-1)) 3 (-1))))]) rfl rfl (by decide) (by decide) (fun r u H locs w8 hP hD hS => ?_)
    obtain ⟨rfl, rfl⟩ := w8
    have hP : va_P D vwCl [(h2, .inl (ty 1, 4, .inl (upd (upd (upd (upd (kf 0) 0 (-1)) 1 (-1)) 2 (-1)) 3 (-1)))), (h0, .inr (12, [v0, .ref h1, v1, v2, v3, .int 0, v4, v5, v6, v7, v8, v9, v10, v11, v12, v13, v14, v15, v16, v17, v18, v19, v20, v21, v22, v23, v24, v25, v26, v27, v28, v29, v30, v31, .ref h2, v32, v33, v34])), (h1, .inl (ty 1, 304, .inl (upd (upd (kf 0) 1 2) 4 (-1))))] H := hP
    have hD : va_D A [(h2, .inl (ty 1, 4, .inl (upd (upd (upd (upd (kf 0) 0 (-1)) 1 (-1)) 2 (-1)) 3 (-1)))), (h0, .inr (12, [v0, .ref h1, v1, v2, v3, .int 0, v4, v5, v6, v7, v8, v9, v10, v11, v12, v13, v14, v15, v16, v17, v18, v19, v20, v21, v22, v23, v24, v25, v26, v27, v28, v29, v30, v31, .ref h2, v32, v33, v34])), (h1, .inl (ty 1, 304, .inl (upd (upd (kf 0) 1 2) 4 (-1))))] := hD
    exact kr_z hx hb hr rfl hlocks hP hD hS [] [] (by decide) rfl (Or.inr (Or.inl ⟨(Or.inr (Or.inr (Or.inr (Or.inr (Or.inr (Or.inr (Or.inr (Or.inr (Or.inr rfl))))))))), rfl, rfl⟩)) (by decide) (by decide) dX12_count_178
