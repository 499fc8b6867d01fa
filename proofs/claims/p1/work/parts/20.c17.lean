set_option maxHeartbeats 4000000 in
set_option maxRecDepth 100000 in
theorem c197_X12_next (l : Launch) (D : va_G) (ty : Nat → ClassId) (sz : Nat) (h0 : Nat) (h1 : Nat) (h2 : Nat) (p0 : Int32) (p1 : Int32) (v0 : Value) (v1 : Value) (v2 : Value) (v3 : Value) (v4 : Value) (v5 : Value) (v6 : Value) (v7 : Value) (v8 : Value) (v9 : Value) (v10 : Value) (v11 : Value) (v12 : Value) (v13 : Value) (v14 : Value) (v15 : Value) (v16 : Value) (v17 : Value) (v18 : Value) (v19 : Value) (v20 : Value) (v21 : Value) (v22 : Value) (v23 : Value) (v24 : Value) (v25 : Value) (v26 : Value) (v27 : Value) (v28 : Value) (v29 : Value) (v30 : Value) (v31 : Value) (v32 : Value) (v33 : Value) (v34 : Value) (v35 : Value) (f0 : Nat → Int32) : cQ l yX12_next cX12_next 6 (some .int) 5 110 [.ref h0, .int p0, .int p1] D ty [(h0, .inr (12, [v0, .ref h1, v1, v2, v3, v4, v5, v6, v7, v8, v9, v10, v11, v12, v13, v14, v15, .ref h2, v16, v17, v18, v19, v20, v21, v22, v23, v24, v25, v26, v27, v28, v29, v30, v31, v32, v33, v34, v35])), (h1, .inl (ty 1, 304, .inl (upd (upd (kf 0) 1 2) 4 (-1)))), (h2, .inl (ty 1, 256, .inl f0))] sz (qI (fun (r : Int32) (u : va_W) => (((((0 ≤ (Int32.toInt64 p0)) ∧ ((Int32.toInt64 p0) ≤ 1))) ∧ ((0 ≤ (Int32.toInt64 p1)) ∧ ((Int32.toInt64 p1) ≤ 9999))) ∧ (-5) = r ∧ [] = u) ∨ ((((((0 ≤ (Int32.toInt64 p0)) ∧ ((Int32.toInt64 p0) ≤ 1))) ∧ ((¬ (0 ≤ (Int32.toInt64 p1))) ∨ (¬ ((Int32.toInt64 p1) ≤ 9999)))) ∨ ((((¬ (0 ≤ (Int32.toInt64 p0))) ∨ (¬ ((Int32.toInt64 p0) ≤ 1)))))) ∧ (-2) = r ∧ [] = u))) 0 0 := by
  refine cQ.of (by decide) (Nat.le_of_ble_eq_true rfl) (fun p e s m below meth c A ls C hsz hP hK hD hA hl => ?_)
  obtain ⟨hx, hb, hml, hown, hB, hr, hlocks, hin⟩ := C
  have hown : s.vm.findClass RX12 = some m.cls := hown
  have hS : va_S A s.heap s.heap [] := va_S.rf
  have hl : lv_has ls 6 [(0, .ref h0), (1, .int p0), (2, .int p1)] := hl
  refine lv_iload_n hx hb dX12_next_0 rfl (lv_at hl 1 rfl) ?_
  refine kc_i (va_runS (As := [.int p0]) (rest := []) ⟨hx, hb, hml, hown, hB⟩ (c149_X12_isGiving l D ty s.heap.size p0) (va_cwS 1 hB (bw_S mw_469 mw_470 mw_211 mw_468) rfl rfl rfl (by decide +kernel) ⟨Nat.le_of_ble_eq_true rfl, Nat.le_of_ble_eq_true rfl⟩) (kp_S hK hP hD [] (by decide) rfl) rfl rfl hl.1 rfl (lv_room (Nat.le_of_ble_eq_true rfl)) dX12_next_1 ⟨Nat.le_of_ble_eq_true rfl, Nat.le_of_ble_eq_true rfl⟩) hP hD hS hA [] [0, 1, 2] (wr := [(h0, .inr (12, [v0, .ref h1, v1, v2, v3, v4, v5, v6, v7, v8, v9, v10, v11, v12, v13, v14, v15, .ref h2, v16, v17, v18, v19, v20, v21, v22, v23, v24, v25, v26, v27, v28, v29, v30, v31, v32, v33, v34, v35])), (h1, .inl (ty 1, 304, .inl (upd (upd (kf 0) 1 2) 4 (-1)))), (h2, .inl (ty 1, 256, .inl f0))]) rfl rfl (by decide) (by decide) (fun r u H locs w1 hP hD hS => ?_)
  rcases w1 with ⟨c2, rfl, rfl⟩ | ⟨c3, rfl, rfl⟩
  · have hP : va_P D vwCl [(h0, .inr (12, [v0, .ref h1, v1, v2, v3, v4, v5, v6, v7, v8, v9, v10, v11, v12, v13, v14, v15, .ref h2, v16, v17, v18, v19, v20, v21, v22, v23, v24, v25, v26, v27, v28, v29, v30, v31, v32, v33, v34, v35])), (h1, .inl (ty 1, 304, .inl (upd (upd (kf 0) 1 2) 4 (-1)))), (h2, .inl (ty 1, 256, .inl f0))] H := hP
    have hD : va_D A [(h0, .inr (12, [v0, .ref h1, v1, v2, v3, v4, v5, v6, v7, v8, v9, v10, v11, v12, v13, v14, v15, .ref h2, v16, v17, v18, v19, v20, v21, v22, v23, v24, v25, v26, v27, v28, v29, v30, v31, v32, v33, v34, v35])), (h1, .inl (ty 1, 304, .inl (upd (upd (kf 0) 1 2) 4 (-1)))), (h2, .inl (ty 1, 256, .inl f0))] := hD
    refine lv_if_eq (tgt := 19) hx hb dX12_next_4 (by decide) (fun h9 => absurd h9 (by decide)) (fun _ => ?_)
    refine lv_iload_n hx hb dX12_next_7 rfl (lv_at hl 2 rfl) ?_
    refine lv_i2l (v := (Int32.toInt64 p1)) hx hb dX12_next_8 rfl ?_
    refine lv_lconst (v := 0) hx hb dX12_next_9 (by decide) ?_
    refine lv_ldc2 hx hb hown (hB _ mw_540) dX12_next_10 ?_
    refine kc_i (va_runS (As := [.long (Int32.toInt64 p1), .long 0, .long 9999]) (rest := []) ⟨hx, hb, hml, hown, hB⟩ (c_in l D ty H.size (Int32.toInt64 p1) 0 9999) (va_cwS 3 hB (bw_S mw_445 mw_446 mw_211 mw_444) rfl rfl rfl (by decide +kernel) ⟨Nat.le_of_ble_eq_true rfl, Nat.le_of_ble_eq_true rfl⟩) (kp_S hK hP hD [] (by decide) rfl) rfl rfl hl.1 rfl (lv_room (Nat.le_of_ble_eq_true rfl)) dX12_next_13 ⟨Nat.le_of_ble_eq_true rfl, Nat.le_of_ble_eq_true rfl⟩) hP hD hS hA [] [0, 1, 2] (wr := [(h0, .inr (12, [v0, .ref h1, v1, v2, v3, v4, v5, v6, v7, v8, v9, v10, v11, v12, v13, v14, v15, .ref h2, v16, v17, v18, v19, v20, v21, v22, v23, v24, v25, v26, v27, v28, v29, v30, v31, v32, v33, v34, v35])), (h1, .inl (ty 1, 304, .inl (upd (upd (kf 0) 1 2) 4 (-1)))), (h2, .inl (ty 1, 256, .inl f0))]) rfl rfl (by decide) (by decide) (fun r u H locs w4 hP hD hS => ?_)
    rcases w4 with ⟨c5, rfl, rfl⟩ | ⟨c6, rfl, rfl⟩
    · have hP : va_P D vwCl [(h0, .inr (12, [v0, .ref h1, v1, v2, v3, v4, v5, v6, v7, v8, v9, v10, v11, v12, v13, v14, v15, .ref h2, v16, v17, v18, v19, v20, v21, v22, v23, v24, v25, v26, v27, v28, v29, v30, v31, v32, v33, v34, v35])), (h1, .inl (ty 1, 304, .inl (upd (upd (kf 0) 1 2) 4 (-1)))), (h2, .inl (ty 1, 256, .inl f0))] H := hP
      have hD : va_D A [(h0, .inr (12, [v0, .ref h1, v1, v2, v3, v4, v5, v6, v7, v8, v9, v10, v11, v12, v13, v14, v15, .ref h2, v16, v17, v18, v19, v20, v21, v22, v23, v24, v25, v26, v27, v28, v29, v30, v31, v32, v33, v34, v35])), (h1, .inl (ty 1, 304, .inl (upd (upd (kf 0) 1 2) 4 (-1)))), (h2, .inl (ty 1, 256, .inl f0))] := hD
      refine lv_if_ne (tgt := 22) hx hb dX12_next_16 (by decide) (fun _ => ?_) (fun h9 => absurd h9 (by decide))
      refine lv_aload_n hx hb dX12_next_22 rfl (lv_at hl 0 rfl) ?_
      refine lv_iload_n hx hb dX12_next_23 rfl (lv_at hl 1 rfl) ?_
      refine kc_v (va_runV (As := [.int p0]) (rest := []) ⟨hx, hb, hml, hown, hB⟩ (c156_X12_tries l D ty H.size h0 h1 p0 v0 v1 v2 v3 v4 v5 v6 v7 v8 v9 v10 v11 v12 v13 v14 v15 (.ref h2) v16 v17 v18 v19 v20 v21 v22 v23 v24 v25 v26 v27 v28 v29 v30 v31 v32 v33 v34 v35) (cwV 1 hB (bw_V mw_480 mw_481 mw_482 mw_211 mw_479) rfl rfl rfl (by decide +kernel) ⟨Nat.le_of_ble_eq_true rfl, Nat.le_of_ble_eq_true rfl⟩) (kp_V hK hP hD [0, 1] (by decide) rfl 0 rfl rfl rfl) rfl rfl hl.1 rfl (lv_room (Nat.le_of_ble_eq_true rfl)) dX12_next_24 ⟨Nat.le_of_ble_eq_true rfl, Nat.le_of_ble_eq_true rfl⟩) hP hD hS hA [0, 1] [2] (wr := [(h2, .inl (ty 1, 256, .inl f0))]) rfl rfl (by decide) (by decide) (fun u H locs w7 hP hD hS => ?_)
      subst w7
      have hP : va_P D vwCl [(h2, .inl (ty 1, 256, .inl f0)), (h0, .inr (12, [v0, .ref h1, v1, v2, v3, v4, v5, v6, v7, v8, v9, v10, v11, v12, v13, v14, v15, .ref h2, v16, v17, v18, v19, v20, v21, v22, v23, v24, v25, v26, v27, v28, v29, v30, v31, v32, v33, v34, v35])), (h1, .inl (ty 1, 304, .inl (upd (upd (kf 0) 1 2) 4 (-1))))] H := hP
      have hD : va_D A [(h2, .inl (ty 1, 256, .inl f0)), (h0, .inr (12, [v0, .ref h1, v1, v2, v3, v4, v5, v6, v7, v8, v9, v10, v11, v12, v13, v14, v15, .ref h2, v16, v17, v18, v19, v20, v21, v22, v23, v24, v25, v26, v27, v28, v29, v30, v31, v32, v33, v34, v35])), (h1, .inl (ty 1, 304, .inl (upd (upd (kf 0) 1 2) 4 (-1))))] := hD
      refine lv_aload_n hx hb dX12_next_27 rfl (lv_at hl 0 rfl) ?_
      refine kc_i (va_runV (As := []) (rest := []) ⟨hx, hb, hml, hown, hB⟩ (c188_X12_isEnded l D ty H.size h0 h1 h2 v0 v1 v2 v3 v4 v5 v6 v7 v8 v9 v10 v11 v12 v13 v14 v15 v16 v17 v18 v19 v20 v21 v22 v23 v24 v25 v26 v27 v28 v29 v30 v31 v32 v33 v34 v35 f0) (cwV 0 hB (bw_V mw_536 mw_537 mw_538 mw_211 mw_535) rfl rfl rfl (by decide +kernel) ⟨Nat.le_of_ble_eq_true rfl, Nat.le_of_ble_eq_true rfl⟩) (kp_V hK hP hD [1, 2, 0] (by decide) rfl 1 rfl rfl rfl) rfl rfl hl.1 rfl (lv_room (Nat.le_of_ble_eq_true rfl)) dX12_next_28 ⟨Nat.le_of_ble_eq_true rfl, Nat.le_of_ble_eq_true rfl⟩) hP hD hS hA [1, 2, 0] [] (wr := []) rfl rfl (by decide) (by decide) (fun r u H locs w8 hP hD hS => ?_)
      obtain ⟨rfl, rfl⟩ := w8
      have hP : va_P D vwCl [(h2, .inl (ty 1, 256, .inl (upd (upd (upd (upd f0 0 0) 1 1000000) 16 1000000) 17 0))), (h0, .inr (12, [v0, .ref h1, v1, v2, v3, v4, v5, v6, v7, v8, v9, v10, v11, v12, v13, v14, v15, .ref h2, v16, v17, v18, v19, v20, v21, v22, v23, v24, v25, v26, v27, v28, v29, v30, v31, v32, v33, v34, v35])), (h1, .inl (ty 1, 304, .inl (upd (upd (kf 0) 1 2) 4 (-1))))] H := hP
      have hD : va_D A [(h2, .inl (ty 1, 256, .inl (upd (upd (upd (upd f0 0 0) 1 1000000) 16 1000000) 17 0))), (h0, .inr (12, [v0, .ref h1, v1, v2, v3, v4, v5, v6, v7, v8, v9, v10, v11, v12, v13, v14, v15, .ref h2, v16, v17, v18, v19, v20, v21, v22, v23, v24, v25, v26, v27, v28, v29, v30, v31, v32, v33, v34, v35])), (h1, .inl (ty 1, 304, .inl (upd (upd (kf 0) 1 2) 4 (-1))))] := hD
      refine lv_if_ne (tgt := 37) hx hb dX12_next_31 (by decide) (fun h9 => absurd (by decide) h9) (fun _ => ?_)
      refine lv_bipush (v := (-5)) hx hb dX12_next_34 (by decide) ?_
      exact kr_z hx hb hr rfl hlocks hP hD hS [] [] (by decide) rfl (Or.inl ⟨⟨c2, c5⟩, rfl, rfl⟩) (by decide) (by decide) dX12_next_36
    · have hP : va_P D vwCl [(h0, .inr (12, [v0, .ref h1, v1, v2, v3, v4, v5, v6, v7, v8, v9, v10, v11, v12, v13, v14, v15, .ref h2, v16, v17, v18, v19, v20, v21, v22, v23, v24, v25, v26, v27, v28, v29, v30, v31, v32, v33, v34, v35])), (h1, .inl (ty 1, 304, .inl (upd (upd (kf 0) 1 2) 4 (-1)))), (h2, .inl (ty 1, 256, .inl f0))] H := hP
      have hD : va_D A [(h0, .inr (12, [v0, .ref h1, v1, v2, v3, v4, v5, v6, v7, v8, v9, v10, v11, v12, v13, v14, v15, .ref h2, v16, v17, v18, v19, v20, v21, v22, v23, v24, v25, v26, v27, v28, v29, v30, v31, v32, v33, v34, v35])), (h1, .inl (ty 1, 304, .inl (upd (upd (kf 0) 1 2) 4 (-1)))), (h2, .inl (ty 1, 256, .inl f0))] := hD
      refine lv_if_ne (tgt := 22) hx hb dX12_next_16 (by decide) (fun h9 => absurd (by decide) h9) (fun _ => ?_)
      refine lv_bipush (v := (-2)) hx hb dX12_next_19 (by decide) ?_
      exact kr_z hx hb hr rfl hlocks hP hD hS [] [] (by decide) rfl (Or.inr ⟨(Or.inl ⟨c2, c6⟩), rfl, rfl⟩) (by decide) (by decide) dX12_next_21
  · have hP : va_P D vwCl [(h0, .inr (12, [v0, .ref h1, v1, v2, v3, v4, v5, v6, v7, v8, v9, v10, v11, v12, v13, v14, v15, .ref h2, v16, v17, v18, v19, v20, v21, v22, v23, v24, v25, v26, v27, v28, v29, v30, v31, v32, v33, v34, v35])), (h1, .inl (ty 1, 304, .inl (upd (upd (kf 0) 1 2) 4 (-1)))), (h2, .inl (ty 1, 256, .inl f0))] H := hP
    have hD : va_D A [(h0, .inr (12, [v0, .ref h1, v1, v2, v3, v4, v5, v6, v7, v8, v9, v10, v11, v12, v13, v14, v15, .ref h2, v16, v17, v18, v19, v20, v21, v22, v23, v24, v25, v26, v27, v28, v29, v30, v31, v32, v33, v34, v35])), (h1, .inl (ty 1, 304, .inl (upd (upd (kf 0) 1 2) 4 (-1)))), (h2, .inl (ty 1, 256, .inl f0))] := hD
    refine lv_if_eq (tgt := 19) hx hb dX12_next_4 (by decide) (fun _ => ?_) (fun h9 => absurd (by decide) h9)
    refine lv_bipush (v := (-2)) hx hb dX12_next_19 (by decide) ?_
    exact kr_z hx hb hr rfl hlocks hP hD hS [] [] (by decide) rfl (Or.inr ⟨(Or.inr c3), rfl, rfl⟩) (by decide) (by decide) dX12_next_21
set_option maxHeartbeats 4000000 in
set_option maxRecDepth 100000 in
theorem c198_X12_paid (l : Launch) (D : va_G) (ty : Nat → ClassId) (sz : Nat) (h0 : Nat) (h1 : Nat) (p0 : Int32) (v0 : Value) (v1 : Value) (v2 : Value) (v3 : Value) (v4 : Value) (v5 : Value) (v6 : Value) (v7 : Value) (v8 : Value) (v9 : Value) (v10 : Value) (v11 : Value) (v12 : Value) (v13 : Value) (v14 : Value) (v15 : Value) (v16 : Value) (v17 : Value) (v18 : Value) (v19 : Value) (v20 : Value) (v21 : Value) (v22 : Value) (v23 : Value) (v24 : Value) (v25 : Value) (v26 : Value) (v27 : Value) (v28 : Value) (v29 : Value) (v30 : Value) (v31 : Value) (v32 : Value) (v33 : Value) (v34 : Value) (v35 : Value) (v36 : Value) : cQ l yX12_paid cX12_paid 4 (some .int) 2 45 [.ref h0, .int p0] D ty [(h0, .inr (12, [v0, .ref h1, v1, v2, v3, v4, v5, v6, v7, v8, v9, v10, v11, v12, v13, v14, v15, v16, v17, v18, v19, v20, v21, v22, v23, v24, v25, v26, v27, v28, v29, v30, v31, v32, v33, v34, v35, v36])), (h1, .inl (ty 1, 304, .inl (upd (upd (kf 0) 1 2) 4 (-1))))] sz (qI (fun (r : Int32) (u : va_W) => (((((0 ≤ (Int32.toInt64 p0)) ∧ ((Int32.toInt64 p0) ≤ 1)))) ∧ 0 = r ∧ [] = u) ∨ (((((¬ (0 ≤ (Int32.toInt64 p0))) ∨ (¬ ((Int32.toInt64 p0) ≤ 1))))) ∧ (-2) = r ∧ [] = u))) 0 0 := by
  refine cQ.of (by decide) (Nat.le_of_ble_eq_true rfl) (fun p e s m below meth c A ls C hsz hP hK hD hA hl => ?_)
  obtain ⟨hx, hb, hml, hown, hB, hr, hlocks, hin⟩ := C
  have hown : s.vm.findClass RX12 = some m.cls := hown
  have hS : va_S A s.heap s.heap [] := va_S.rf
  have hl : lv_has ls 4 [(0, .ref h0), (1, .int p0)] := hl
  refine lv_iload_n hx hb dX12_paid_0 rfl (lv_at hl 1 rfl) ?_
  refine kc_i (va_runS (As := [.int p0]) (rest := []) ⟨hx, hb, hml, hown, hB⟩ (c149_X12_isGiving l D ty s.heap.size p0) (va_cwS 1 hB (bw_S mw_469 mw_470 mw_211 mw_468) rfl rfl rfl (by decide +kernel) ⟨Nat.le_of_ble_eq_true rfl, Nat.le_of_ble_eq_true rfl⟩) (kp_S hK hP hD [] (by decide) rfl) rfl rfl hl.1 rfl (lv_room (Nat.le_of_ble_eq_true rfl)) dX12_paid_1 ⟨Nat.le_of_ble_eq_true rfl, Nat.le_of_ble_eq_true rfl⟩) hP hD hS hA [] [0, 1] (wr := [(h0, .inr (12, [v0, .ref h1, v1, v2, v3, v4, v5, v6, v7, v8, v9, v10, v11, v12, v13, v14, v15, v16, v17, v18, v19, v20, v21, v22, v23, v24, v25, v26, v27, v28, v29, v30, v31, v32, v33, v34, v35, v36])), (h1, .inl (ty 1, 304, .inl (upd (upd (kf 0) 1 2) 4 (-1))))]) rfl rfl (by decide) (by decide) (fun r u H locs w1 hP hD hS => ?_)
  rcases w1 with ⟨c2, rfl, rfl⟩ | ⟨c3, rfl, rfl⟩
  · have hP : va_P D vwCl [(h0, .inr (12, [v0, .ref h1, v1, v2, v3, v4, v5, v6, v7, v8, v9, v10, v11, v12, v13, v14, v15, v16, v17, v18, v19, v20, v21, v22, v23, v24, v25, v26, v27, v28, v29, v30, v31, v32, v33, v34, v35, v36])), (h1, .inl (ty 1, 304, .inl (upd (upd (kf 0) 1 2) 4 (-1))))] H := hP
    have hD : va_D A [(h0, .inr (12, [v0, .ref h1, v1, v2, v3, v4, v5, v6, v7, v8, v9, v10, v11, v12, v13, v14, v15, v16, v17, v18, v19, v20, v21, v22, v23, v24, v25, v26, v27, v28, v29, v30, v31, v32, v33, v34, v35, v36])), (h1, .inl (ty 1, 304, .inl (upd (upd (kf 0) 1 2) 4 (-1))))] := hD
    refine lv_if_ne (tgt := 10) hx hb dX12_paid_4 (by decide) (fun _ => ?_) (fun h9 => absurd h9 (by decide))
    refine lv_iconst (v := 0) hx hb dX12_paid_10 (by decide) ?_
    refine lv_istore_n (lv' := [(2, .int 0), (0, .ref h0), (1, .int p0)]) hx hb dX12_paid_11 rfl hl (by decide) rfl (fun ls hl => ?_)
    refine lv_iconst (v := 0) hx hb dX12_paid_12 (by decide) ?_
    refine lv_istore_n (lv' := [(3, .int 0), (2, .int 0), (0, .ref h0), (1, .int p0)]) hx hb dX12_paid_13 rfl hl (by decide) rfl (fun ls hl => ?_)
    refine lv_iload_n hx hb dX12_paid_14 rfl (lv_at hl 0 rfl) ?_
    refine lv_aload_n hx hb dX12_paid_15 rfl (lv_at hl 2 rfl) ?_
    refine kc_i (va_runV (As := []) (rest := [.int 0]) ⟨hx, hb, hml, hown, hB⟩ (c146_X12_alleys l D ty H.size h0 h1 v0 v1 v2 v3 v4 v5 v6 v7 v8 v9 v10 v11 v12 v13 v14 v15 v16 v17 v18 v19 v20 v21 v22 v23 v24 v25 v26 v27 v28 v29 v30 v31 v32 v33 v34 v35 v36) (cwV 0 hB (bw_V mw_465 mw_466 mw_467 mw_211 mw_464) rfl rfl rfl (by decide +kernel) ⟨Nat.le_of_ble_eq_true rfl, Nat.le_of_ble_eq_true rfl⟩) (kp_V hK hP hD [0, 1] (by decide) rfl 0 rfl rfl rfl) rfl rfl hl.1 rfl (lv_room (Nat.le_of_ble_eq_true rfl)) dX12_paid_16 ⟨Nat.le_of_ble_eq_true rfl, Nat.le_of_ble_eq_true rfl⟩) hP hD hS hA [0, 1] [] (wr := []) rfl rfl (by decide) (by decide) (fun r u H locs w4 hP hD hS => ?_)
    obtain ⟨rfl, rfl⟩ := w4
    have hP : va_P D vwCl [(h0, .inr (12, [v0, .ref h1, v1, v2, v3, v4, v5, v6, v7, v8, v9, v10, v11, v12, v13, v14, v15, v16, v17, v18, v19, v20, v21, v22, v23, v24, v25, v26, v27, v28, v29, v30, v31, v32, v33, v34, v35, v36])), (h1, .inl (ty 1, 304, .inl (upd (upd (kf 0) 1 2) 4 (-1))))] H := hP
    have hD : va_D A [(h0, .inr (12, [v0, .ref h1, v1, v2, v3, v4, v5, v6, v7, v8, v9, v10, v11, v12, v13, v14, v15, v16, v17, v18, v19, v20, v21, v22, v23, v24, v25, v26, v27, v28, v29, v30, v31, v32, v33, v34, v35, v36])), (h1, .inl (ty 1, 304, .inl (upd (upd (kf 0) 1 2) 4 (-1))))] := hD
    refine lv_icmp_ge (tgt := 51) hx hb dX12_paid_19 (by decide) (fun _ => ?_) (fun h9 => absurd (by decide) h9)
    refine lv_iload_n hx hb dX12_paid_51 rfl (lv_at hl 1 rfl) ?_
    exact kr_z hx hb hr rfl hlocks hP hD hS [] [] (by decide) rfl (Or.inl ⟨c2, rfl, rfl⟩) (by decide) (by decide) dX12_paid_52
  · have hP : va_P D vwCl [(h0, .inr (12, [v0, .ref h1, v1, v2, v3, v4, v5, v6, v7, v8, v9, v10, v11, v12, v13, v14, v15, v16, v17, v18, v19, v20, v21, v22, v23, v24, v25, v26, v27, v28, v29, v30, v31, v32, v33, v34, v35, v36])), (h1, .inl (ty 1, 304, .inl (upd (upd (kf 0) 1 2) 4 (-1))))] H := hP
    have hD : va_D A [(h0, .inr (12, [v0, .ref h1, v1, v2, v3, v4, v5, v6, v7, v8, v9, v10, v11, v12, v13, v14, v15, v16, v17, v18, v19, v20, v21, v22, v23, v24, v25, v26, v27, v28, v29, v30, v31, v32, v33, v34, v35, v36])), (h1, .inl (ty 1, 304, .inl (upd (upd (kf 0) 1 2) 4 (-1))))] := hD
    refine lv_if_ne (tgt := 10) hx hb dX12_paid_4 (by decide) (fun h9 => absurd (by decide) h9) (fun _ => ?_)
    refine lv_bipush (v := (-2)) hx hb dX12_paid_7 (by decide) ?_
    exact kr_z hx hb hr rfl hlocks hP hD hS [] [] (by decide) rfl (Or.inr ⟨c3, rfl, rfl⟩) (by decide) (by decide) dX12_paid_9
set_option maxHeartbeats 4000000 in
set_option maxRecDepth 100000 in
theorem c199_X12_fire (l : Launch) (D : va_G) (ty : Nat → ClassId) (sz : Nat) (h0 : Nat) (h1 : Nat) (p0 : Int32) (p1 : Int32) (v0 : Value) (v1 : Value) (v2 : Value) (v3 : Value) (v4 : Value) (v5 : Value) (v6 : Value) (v7 : Value) (v8 : Value) (v9 : Value) (v10 : Value) (v11 : Value) (v12 : Value) (v13 : Value) (v14 : Value) (v15 : Value) (v16 : Value) (v17 : Value) (v18 : Value) (v19 : Value) (v20 : Value) (v21 : Value) (v22 : Value) (v23 : Value) (v24 : Value) (v25 : Value) (v26 : Value) (v27 : Value) (v28 : Value) (v29 : Value) (v30 : Value) (v31 : Value) (v32 : Value) (v33 : Value) (v34 : Value) (v35 : Value) (v36 : Value) : cQ l yX12_fire cX12_fire 3 (some .int) 2 46 [.ref h0, .int p0, .int p1] D ty [(h0, .inr (12, [v0, .ref h1, v1, v2, v3, v4, v5, v6, v7, v8, v9, v10, v11, v12, v13, v14, v15, v16, v17, v18, v19, v20, v21, v22, v23, v24, v25, v26, v27, v28, v29, v30, v31, v32, v33, v34, v35, v36])), (h1, .inl (ty 1, 304, .inl (upd (upd (kf 0) 1 2) 4 (-1))))] sz (qI (fun (r : Int32) (u : va_W) => (((((0 ≤ (Int32.toInt64 p0)) ∧ ((Int32.toInt64 p0) ≤ 1))) ∧ (((0 ≤ (Int32.toInt64 p1)) ∧ ((Int32.toInt64 p1) ≤ 1)))) ∧ (-6) = r ∧ [] = u) ∨ ((((((0 ≤ (Int32.toInt64 p0)) ∧ ((Int32.toInt64 p0) ≤ 1))) ∧ (((¬ (0 ≤ (Int32.toInt64 p1))) ∨ (¬ ((Int32.toInt64 p1) ≤ 1))))) ∨ ((((¬ (0 ≤ (Int32.toInt64 p0))) ∨ (¬ ((Int32.toInt64 p0) ≤ 1)))))) ∧ (-2) = r ∧ [] = u))) 0 0 := by
  refine cQ.of (by decide) (Nat.le_of_ble_eq_true rfl) (fun p e s m below meth c A ls C hsz hP hK hD hA hl => ?_)
  obtain ⟨hx, hb, hml, hown, hB, hr, hlocks, hin⟩ := C
  have hown : s.vm.findClass RX12 = some m.cls := hown
  have hS : va_S A s.heap s.heap [] := va_S.rf
  have hl : lv_has ls 3 [(0, .ref h0), (1, .int p0), (2, .int p1)] := hl
  refine lv_iload_n hx hb dX12_fire_0 rfl (lv_at hl 1 rfl) ?_
  refine kc_i (va_runS (As := [.int p0]) (rest := []) ⟨hx, hb, hml, hown, hB⟩ (c149_X12_isGiving l D ty s.heap.size p0) (va_cwS 1 hB (bw_S mw_469 mw_470 mw_211 mw_468) rfl rfl rfl (by decide +kernel) ⟨Nat.le_of_ble_eq_true rfl, Nat.le_of_ble_eq_true rfl⟩) (kp_S hK hP hD [] (by decide) rfl) rfl rfl hl.1 rfl (lv_room (Nat.le_of_ble_eq_true rfl)) dX12_fire_1 ⟨Nat.le_of_ble_eq_true rfl, Nat.le_of_ble_eq_true rfl⟩) hP hD hS hA [] [0, 1] (wr := [(h0, .inr (12, [v0, .ref h1, v1, v2, v3, v4, v5, v6, v7, v8, v9, v10, v11, v12, v13, v14, v15, v16, v17, v18, v19, v20, v21, v22, v23, v24, v25, v26, v27, v28, v29, v30, v31, v32, v33, v34, v35, v36])), (h1, .inl (ty 1, 304, .inl (upd (upd (kf 0) 1 2) 4 (-1))))]) rfl rfl (by decide) (by decide) (fun r u H locs w1 hP hD hS => ?_)
  rcases w1 with ⟨c2, rfl, rfl⟩ | ⟨c3, rfl, rfl⟩
  · have hP : va_P D vwCl [(h0, .inr (12, [v0, .ref h1, v1, v2, v3, v4, v5, v6, v7, v8, v9, v10, v11, v12, v13, v14, v15, v16, v17, v18, v19, v20, v21, v22, v23, v24, v25, v26, v27, v28, v29, v30, v31, v32, v33, v34, v35, v36])), (h1, .inl (ty 1, 304, .inl (upd (upd (kf 0) 1 2) 4 (-1))))] H := hP
    have hD : va_D A [(h0, .inr (12, [v0, .ref h1, v1, v2, v3, v4, v5, v6, v7, v8, v9, v10, v11, v12, v13, v14, v15, v16, v17, v18, v19, v20, v21, v22, v23, v24, v25, v26, v27, v28, v29, v30, v31, v32, v33, v34, v35, v36])), (h1, .inl (ty 1, 304, .inl (upd (upd (kf 0) 1 2) 4 (-1))))] := hD
    refine lv_if_eq (tgt := 15) hx hb dX12_fire_4 (by decide) (fun h9 => absurd h9 (by decide)) (fun _ => ?_)
    refine lv_aload_n hx hb dX12_fire_7 rfl (lv_at hl 0 rfl) ?_
    refine lv_iload_n hx hb dX12_fire_8 rfl (lv_at hl 2 rfl) ?_
    refine kc_i (va_runV (As := [.int p1]) (rest := []) ⟨hx, hb, hml, hown, hB⟩ (c176_X12_isCorner l D ty H.size h0 h1 p1 v0 v1 v2 v3 v4 v5 v6 v7 v8 v9 v10 v11 v12 v13 v14 v15 v16 v17 v18 v19 v20 v21 v22 v23 v24 v25 v26 v27 v28 v29 v30 v31 v32 v33 v34 v35 v36) (cwV 1 hB (bw_V mw_512 mw_513 mw_514 mw_211 mw_511) rfl rfl rfl (by decide +kernel) ⟨Nat.le_of_ble_eq_true rfl, Nat.le_of_ble_eq_true rfl⟩) (kp_V hK hP hD [0, 1] (by decide) rfl 0 rfl rfl rfl) rfl rfl hl.1 rfl (lv_room (Nat.le_of_ble_eq_true rfl)) dX12_fire_9 ⟨Nat.le_of_ble_eq_true rfl, Nat.le_of_ble_eq_true rfl⟩) hP hD hS hA [0, 1] [] (wr := []) rfl rfl (by decide) (by decide) (fun r u H locs w4 hP hD hS => ?_)
    rcases w4 with ⟨c5, rfl, rfl⟩ | ⟨c6, rfl, rfl⟩
    · have hP : va_P D vwCl [(h0, .inr (12, [v0, .ref h1, v1, v2, v3, v4, v5, v6, v7, v8, v9, v10, v11, v12, v13, v14, v15, v16, v17, v18, v19, v20, v21, v22, v23, v24, v25, v26, v27, v28, v29, v30, v31, v32, v33, v34, v35, v36])), (h1, .inl (ty 1, 304, .inl (upd (upd (kf 0) 1 2) 4 (-1))))] H := hP
      have hD : va_D A [(h0, .inr (12, [v0, .ref h1, v1, v2, v3, v4, v5, v6, v7, v8, v9, v10, v11, v12, v13, v14, v15, v16, v17, v18, v19, v20, v21, v22, v23, v24, v25, v26, v27, v28, v29, v30, v31, v32, v33, v34, v35, v36])), (h1, .inl (ty 1, 304, .inl (upd (upd (kf 0) 1 2) 4 (-1))))] := hD
      refine lv_if_ne (tgt := 18) hx hb dX12_fire_12 (by decide) (fun _ => ?_) (fun h9 => absurd h9 (by decide))
      refine lv_aload_n hx hb dX12_fire_18 rfl (lv_at hl 0 rfl) ?_
      refine va_get (D := D) (ci := 12) (v := .ref h1) (C := RX12) (T := TX12) (N := 38) hx hb hB inB_X12 hown hK.1 hP 0 rfl rfl 1 (by decide) (hB _ mw_182) (fun _ h9 => h9) rfl dX12_fire_19 ?_
      refine lv_iconst (v := 4) hx hb dX12_fire_22 (by decide) ?_
      refine va_iald hx hb hK.1 hP 1 1 rfl rfl (by unfold vp_in; decide) dX12_fire_23 ?_
      refine tp_i (v := (-1)) rfl ?_
      refine lv_iconst (v := (-1)) hx hb dX12_fire_24 (by decide) ?_
      refine lv_icmp_ne (tgt := 31) hx hb dX12_fire_25 (by decide) (fun h9 => absurd (by decide) h9) (fun _ => ?_)
      refine lv_bipush (v := (-6)) hx hb dX12_fire_28 (by decide) ?_
      exact kr_z hx hb hr rfl hlocks hP hD hS [] [] (by decide) rfl (Or.inl ⟨⟨c2, c5⟩, rfl, rfl⟩) (by decide) (by decide) dX12_fire_30
    · have hP : va_P D vwCl [(h0, .inr (12, [v0, .ref h1, v1, v2, v3, v4, v5, v6, v7, v8, v9, v10, v11, v12, v13, v14, v15, v16, v17, v18, v19, v20, v21, v22, v23, v24, v25, v26, v27, v28, v29, v30, v31, v32, v33, v34, v35, v36])), (h1, .inl (ty 1, 304, .inl (upd (upd (kf 0) 1 2) 4 (-1))))] H := hP
      have hD : va_D A [(h0, .inr (12, [v0, .ref h1, v1, v2, v3, v4, v5, v6, v7, v8, v9, v10, v11, v12, v13, v14, v15, v16, v17, v18, v19, v20, v21, v22, v23, v24, v25, v26, v27, v28, v29, v30, v31, v32, v33, v34, v35, v36])), (h1, .inl (ty 1, 304, .inl (upd (upd (kf 0) 1 2) 4 (-1))))] := hD
      refine lv_if_ne (tgt := 18) hx hb dX12_fire_12 (by decide) (fun h9 => absurd (by decide) h9) (fun _ => ?_)
      refine lv_bipush (v := (-2)) hx hb dX12_fire_15 (by decide) ?_
      exact kr_z hx hb hr rfl hlocks hP hD hS [] [] (by decide) rfl (Or.inr ⟨(Or.inl ⟨c2, c6⟩), rfl, rfl⟩) (by decide) (by decide) dX12_fire_17
  · have hP : va_P D vwCl [(h0, .inr (12, [v0, .ref h1, v1, v2, v3, v4, v5, v6, v7, v8, v9, v10, v11, v12, v13, v14, v15, v16, v17, v18, v19, v20, v21, v22, v23, v24, v25, v26, v27, v28, v29, v30, v31, v32, v33, v34, v35, v36])), (h1, .inl (ty 1, 304, .inl (upd (upd (kf 0) 1 2) 4 (-1))))] H := hP
    have hD : va_D A [(h0, .inr (12, [v0, .ref h1, v1, v2, v3, v4, v5, v6, v7, v8, v9, v10, v11, v12, v13, v14, v15, v16, v17, v18, v19, v20, v21, v22, v23, v24, v25, v26, v27, v28, v29, v30, v31, v32, v33, v34, v35, v36])), (h1, .inl (ty 1, 304, .inl (upd (upd (kf 0) 1 2) 4 (-1))))] := hD
    refine lv_if_eq (tgt := 15) hx hb dX12_fire_4 (by decide) (fun _ => ?_) (fun h9 => absurd (by decide) h9)
    refine lv_bipush (v := (-2)) hx hb dX12_fire_15 (by decide) ?_
    exact kr_z hx hb hr rfl hlocks hP hD hS [] [] (by decide) rfl (Or.inr ⟨(Or.inr c3), rfl, rfl⟩) (by decide) (by decide) dX12_fire_17
set_option maxHeartbeats 4000000 in
set_option maxRecDepth 100000 in
theorem c200_X12_lastFire (l : Launch) (D : va_G) (ty : Nat → ClassId) (sz : Nat) (h0 : Nat) (h1 : Nat) (p0 : Int32) (v0 : Value) (v1 : Value) (v2 : Value) (v3 : Value) (v4 : Value) (v5 : Value) (v6 : Value) (v7 : Value) (v8 : Value) (v9 : Value) (v10 : Value) (v11 : Value) (v12 : Value) (v13 : Value) (v14 : Value) (v15 : Value) (v16 : Value) (v17 : Value) (v18 : Value) (v19 : Value) (v20 : Value) (v21 : Value) (v22 : Value) (v23 : Value) (v24 : Value) (v25 : Value) (v26 : Value) (v27 : Value) (v28 : Value) (v29 : Value) (v30 : Value) (v31 : Value) (v32 : Value) (v33 : Value) (v34 : Value) (v35 : Value) (v36 : Value) : cQ l yX12_lastFire cX12_lastFire 4 (some .int) 2 45 [.ref h0, .int p0] D ty [(h0, .inr (12, [v0, .ref h1, v1, v2, v3, v4, v5, v6, v7, v8, v9, v10, v11, v12, v13, v14, v15, v16, v17, v18, v19, v20, v21, v22, v23, v24, v25, v26, v27, v28, v29, v30, v31, v32, v33, v34, v35, v36])), (h1, .inl (ty 1, 304, .inl (upd (upd (kf 0) 1 2) 4 (-1))))] sz (qI (fun (r : Int32) (u : va_W) => (((((0 ≤ (Int32.toInt64 p0)) ∧ ((Int32.toInt64 p0) ≤ 1)))) ∧ (-6) = r ∧ [] = u) ∨ (((((¬ (0 ≤ (Int32.toInt64 p0))) ∨ (¬ ((Int32.toInt64 p0) ≤ 1))))) ∧ (-2) = r ∧ [] = u))) 0 0 := by
  refine cQ.of (by decide) (Nat.le_of_ble_eq_true rfl) (fun p e s m below meth c A ls C hsz hP hK hD hA hl => ?_)
  obtain ⟨hx, hb, hml, hown, hB, hr, hlocks, hin⟩ := C
  have hown : s.vm.findClass RX12 = some m.cls := hown
  have hS : va_S A s.heap s.heap [] := va_S.rf
  have hl : lv_has ls 4 [(0, .ref h0), (1, .int p0)] := hl
  refine lv_iload_n hx hb dX12_lastFire_0 rfl (lv_at hl 1 rfl) ?_
  refine kc_i (va_runS (As := [.int p0]) (rest := []) ⟨hx, hb, hml, hown, hB⟩ (c149_X12_isGiving l D ty s.heap.size p0) (va_cwS 1 hB (bw_S mw_469 mw_470 mw_211 mw_468) rfl rfl rfl (by decide +kernel) ⟨Nat.le_of_ble_eq_true rfl, Nat.le_of_ble_eq_true rfl⟩) (kp_S hK hP hD [] (by decide) rfl) rfl rfl hl.1 rfl (lv_room (Nat.le_of_ble_eq_true rfl)) dX12_lastFire_1 ⟨Nat.le_of_ble_eq_true rfl, Nat.le_of_ble_eq_true rfl⟩) hP hD hS hA [] [0, 1] (wr := [(h0, .inr (12, [v0, .ref h1, v1, v2, v3, v4, v5, v6, v7, v8, v9, v10, v11, v12, v13, v14, v15, v16, v17, v18, v19, v20, v21, v22, v23, v24, v25, v26, v27, v28, v29, v30, v31, v32, v33, v34, v35, v36])), (h1, .inl (ty 1, 304, .inl (upd (upd (kf 0) 1 2) 4 (-1))))]) rfl rfl (by decide) (by decide) (fun r u H locs w1 hP hD hS => ?_)
  rcases w1 with ⟨c2, rfl, rfl⟩ | ⟨c3, rfl, rfl⟩
  · have hP : va_P D vwCl [(h0, .inr (12, [v0, .ref h1, v1, v2, v3, v4, v5, v6, v7, v8, v9, v10, v11, v12, v13, v14, v15, v16, v17, v18, v19, v20, v21, v22, v23, v24, v25, v26, v27, v28, v29, v30, v31, v32, v33, v34, v35, v36])), (h1, .inl (ty 1, 304, .inl (upd (upd (kf 0) 1 2) 4 (-1))))] H := hP
    have hD : va_D A [(h0, .inr (12, [v0, .ref h1, v1, v2, v3, v4, v5, v6, v7, v8, v9, v10, v11, v12, v13, v14, v15, v16, v17, v18, v19, v20, v21, v22, v23, v24, v25, v26, v27, v28, v29, v30, v31, v32, v33, v34, v35, v36])), (h1, .inl (ty 1, 304, .inl (upd (upd (kf 0) 1 2) 4 (-1))))] := hD
    refine lv_if_ne (tgt := 10) hx hb dX12_lastFire_4 (by decide) (fun _ => ?_) (fun h9 => absurd h9 (by decide))
    refine lv_aload_n hx hb dX12_lastFire_10 rfl (lv_at hl 0 rfl) ?_
    refine va_get (D := D) (ci := 12) (v := .ref h1) (C := RX12) (T := TX12) (N := 38) hx hb hB inB_X12 hown hK.1 hP 0 rfl rfl 1 (by decide) (hB _ mw_182) (fun _ h9 => h9) rfl dX12_lastFire_11 ?_
    refine lv_iconst (v := 4) hx hb dX12_lastFire_14 (by decide) ?_
    refine va_iald hx hb hK.1 hP 1 1 rfl rfl (by unfold vp_in; decide) dX12_lastFire_15 ?_
    refine tp_i (v := (-1)) rfl ?_
    refine lv_iconst (v := (-1)) hx hb dX12_lastFire_16 (by decide) ?_
    refine lv_icmp_ne (tgt := 23) hx hb dX12_lastFire_17 (by decide) (fun h9 => absurd (by decide) h9) (fun _ => ?_)
    refine lv_bipush (v := (-6)) hx hb dX12_lastFire_20 (by decide) ?_
    exact kr_z hx hb hr rfl hlocks hP hD hS [] [] (by decide) rfl (Or.inl ⟨c2, rfl, rfl⟩) (by decide) (by decide) dX12_lastFire_22
  · have hP : va_P D vwCl [(h0, .inr (12, [v0, .ref h1, v1, v2, v3, v4, v5, v6, v7, v8, v9, v10, v11, v12, v13, v14, v15, v16, v17, v18, v19, v20, v21, v22, v23, v24, v25, v26, v27, v28, v29, v30, v31, v32, v33, v34, v35, v36])), (h1, .inl (ty 1, 304, .inl (upd (upd (kf 0) 1 2) 4 (-1))))] H := hP
    have hD : va_D A [(h0, .inr (12, [v0, .ref h1, v1, v2, v3, v4, v5, v6, v7, v8, v9, v10, v11, v12, v13, v14, v15, v16, v17, v18, v19, v20, v21, v22, v23, v24, v25, v26, v27, v28, v29, v30, v31, v32, v33, v34, v35, v36])), (h1, .inl (ty 1, 304, .inl (upd (upd (kf 0) 1 2) 4 (-1))))] := hD
    refine lv_if_ne (tgt := 10) hx hb dX12_lastFire_4 (by decide) (fun h9 => absurd (by decide) h9) (fun _ => ?_)
    refine lv_bipush (v := (-2)) hx hb dX12_lastFire_7 (by decide) ?_
    exact kr_z hx hb hr rfl hlocks hP hD hS [] [] (by decide) rfl (Or.inr ⟨c3, rfl, rfl⟩) (by decide) (by decide) dX12_lastFire_9
set_option maxHeartbeats 4000000 in
set_option maxRecDepth 100000 in
theorem c201_X12_arrive (l : Launch) (D : va_G) (ty : Nat → ClassId) (sz : Nat) (h0 : Nat) (h1 : Nat) (p0 : Int32) (p1 : Int32) (p2 : Int32) (v0 : Value) (v1 : Value) (v2 : Value) (v3 : Value) (v4 : Value) (v5 : Value) (v6 : Value) (v7 : Value) (v8 : Value) (v9 : Value) (v10 : Value) (v11 : Value) (v12 : Value) (v13 : Value) (v14 : Value) (v15 : Value) (v16 : Value) (v17 : Value) (v18 : Value) (v19 : Value) (v20 : Value) (v21 : Value) (v22 : Value) (v23 : Value) (v24 : Value) (v25 : Value) (v26 : Value) (v27 : Value) (v28 : Value) (v29 : Value) (v30 : Value) (v31 : Value) (v32 : Value) (v33 : Value) (v34 : Value) (v35 : Value) (v36 : Value) : cQ l yX12_arrive cX12_arrive 10 (some .int) 2 46 [.ref h0, .int p0, .int p1, .int p2] D ty [(h0, .inr (12, [v0, .ref h1, v1, v2, v3, v4, v5, v6, v7, v8, v9, v10, v11, v12, v13, v14, v15, v16, v17, v18, v19, v20, v21, v22, v23, v24, v25, v26, v27, v28, v29, v30, v31, v32, v33, v34, v35, v36])), (h1, .inl (ty 1, 304, .inl (upd (upd (kf 0) 1 2) 4 (-1))))] sz (qI (fun (r : Int32) (u : va_W) => (-2) = r ∧ [] = u)) 0 0 := by
  refine cQ.of (by decide) (Nat.le_of_ble_eq_true rfl) (fun p e s m below meth c A ls C hsz hP hK hD hA hl => ?_)
  obtain ⟨hx, hb, hml, hown, hB, hr, hlocks, hin⟩ := C
  have hown : s.vm.findClass RX12 = some m.cls := hown
  have hS : va_S A s.heap s.heap [] := va_S.rf
  have hl : lv_has ls 10 [(0, .ref h0), (1, .int p0), (2, .int p1), (3, .int p2)] := hl
  refine lv_aload_n hx hb dX12_arrive_0 rfl (lv_at hl 0 rfl) ?_
  refine lv_iload_n hx hb dX12_arrive_1 rfl (lv_at hl 1 rfl) ?_
  refine kc_i (va_runV (As := [.int p0]) (rest := []) ⟨hx, hb, hml, hown, hB⟩ (c178_X12_isJourney l D ty s.heap.size h0 h1 p0 v0 v1 v2 v3 v4 v5 v6 v7 v8 v9 v10 v11 v12 v13 v14 v15 v16 v17 v18 v19 v20 v21 v22 v23 v24 v25 v26 v27 v28 v29 v30 v31 v32 v33 v34 v35 v36) (cwV 1 hB (bw_V mw_520 mw_521 mw_522 mw_211 mw_519) rfl rfl rfl (by decide +kernel) ⟨Nat.le_of_ble_eq_true rfl, Nat.le_of_ble_eq_true rfl⟩) (kp_V hK hP hD [0, 1] (by decide) rfl 0 rfl rfl rfl) rfl rfl hl.1 rfl (lv_room (Nat.le_of_ble_eq_true rfl)) dX12_arrive_2 ⟨Nat.le_of_ble_eq_true rfl, Nat.le_of_ble_eq_true rfl⟩) hP hD hS hA [0, 1] [] (wr := []) rfl rfl (by decide) (by decide) (fun r u H locs w1 hP hD hS => ?_)
  obtain ⟨rfl, rfl⟩ := w1
  have hP : va_P D vwCl [(h0, .inr (12, [v0, .ref h1, v1, v2, v3, v4, v5, v6, v7, v8, v9, v10, v11, v12, v13, v14, v15, v16, v17, v18, v19, v20, v21, v22, v23, v24, v25, v26, v27, v28, v29, v30, v31, v32, v33, v34, v35, v36])), (h1, .inl (ty 1, 304, .inl (upd (upd (kf 0) 1 2) 4 (-1))))] H := hP
  have hD : va_D A [(h0, .inr (12, [v0, .ref h1, v1, v2, v3, v4, v5, v6, v7, v8, v9, v10, v11, v12, v13, v14, v15, v16, v17, v18, v19, v20, v21, v22, v23, v24, v25, v26, v27, v28, v29, v30, v31, v32, v33, v34, v35, v36])), (h1, .inl (ty 1, 304, .inl (upd (upd (kf 0) 1 2) 4 (-1))))] := hD
  refine lv_if_eq (tgt := 32) hx hb dX12_arrive_5 (by decide) (fun _ => ?_) (fun h9 => absurd (by decide) h9)
  refine lv_bipush (v := (-2)) hx hb dX12_arrive_32 (by decide) ?_
  exact kr_z hx hb hr rfl hlocks hP hD hS [] [] (by decide) rfl ⟨rfl, rfl⟩ (by decide) (by decide) dX12_arrive_34
set_option maxHeartbeats 4000000 in
set_option maxRecDepth 100000 in
theorem c202_X12_reach (l : Launch) (D : va_G) (ty : Nat → ClassId) (sz : Nat) (h0 : Nat) (h1 : Nat) (p0 : Int32) (p1 : Int32) (v0 : Value) (v1 : Value) (v2 : Value) (v3 : Value) (v4 : Value) (v5 : Value) (v6 : Value) (v7 : Value) (v8 : Value) (v9 : Value) (v10 : Value) (v11 : Value) (v12 : Value) (v13 : Value) (v14 : Value) (v15 : Value) (v16 : Value) (v17 : Value) (v18 : Value) (v19 : Value) (v20 : Value) (v21 : Value) (v22 : Value) (v23 : Value) (v24 : Value) (v25 : Value) (v26 : Value) (v27 : Value) (v28 : Value) (v29 : Value) (v30 : Value) (v31 : Value) (v32 : Value) (v33 : Value) (v34 : Value) (v35 : Value) (v36 : Value) : cQ l yX12_reach cX12_reach 5 (some .int) 2 45 [.ref h0, .int p0, .int p1] D ty [(h0, .inr (12, [v0, .ref h1, v1, v2, v3, v4, v5, v6, v7, v8, v9, v10, v11, v12, v13, v14, v15, v16, v17, v18, v19, v20, v21, v22, v23, v24, v25, v26, v27, v28, v29, v30, v31, v32, v33, v34, v35, v36])), (h1, .inl (ty 1, 304, .inl (upd (upd (kf 0) 1 2) 4 (-1))))] sz (qI (fun (r : Int32) (u : va_W) => (((((0 ≤ (Int32.toInt64 p0)) ∧ ((Int32.toInt64 p0) ≤ 1))) ∧ ((0 ≤ (Int32.toInt64 p1)) ∧ ((Int32.toInt64 p1) ≤ 9999))) ∧ (-6) = r ∧ [] = u) ∨ ((((((0 ≤ (Int32.toInt64 p0)) ∧ ((Int32.toInt64 p0) ≤ 1))) ∧ ((¬ (0 ≤ (Int32.toInt64 p1))) ∨ (¬ ((Int32.toInt64 p1) ≤ 9999)))) ∨ ((((¬ (0 ≤ (Int32.toInt64 p0))) ∨ (¬ ((Int32.toInt64 p0) ≤ 1)))))) ∧ (-2) = r ∧ [] = u))) 0 0 := by
  refine cQ.of (by decide) (Nat.le_of_ble_eq_true rfl) (fun p e s m below meth c A ls C hsz hP hK hD hA hl => ?_)
  obtain ⟨hx, hb, hml, hown, hB, hr, hlocks, hin⟩ := C
  have hown : s.vm.findClass RX12 = some m.cls := hown
  have hS : va_S A s.heap s.heap [] := va_S.rf
  have hl : lv_has ls 5 [(0, .ref h0), (1, .int p0), (2, .int p1)] := hl
  refine lv_iload_n hx hb dX12_reach_0 rfl (lv_at hl 1 rfl) ?_
  refine kc_i (va_runS (As := [.int p0]) (rest := []) ⟨hx, hb, hml, hown, hB⟩ (c149_X12_isGiving l D ty s.heap.size p0) (va_cwS 1 hB (bw_S mw_469 mw_470 mw_211 mw_468) rfl rfl rfl (by decide +kernel) ⟨Nat.le_of_ble_eq_true rfl, Nat.le_of_ble_eq_true rfl⟩) (kp_S hK hP hD [] (by decide) rfl) rfl rfl hl.1 rfl (lv_room (Nat.le_of_ble_eq_true rfl)) dX12_reach_1 ⟨Nat.le_of_ble_eq_true rfl, Nat.le_of_ble_eq_true rfl⟩) hP hD hS hA [] [0, 1] (wr := [(h0, .inr (12, [v0, .ref h1, v1, v2, v3, v4, v5, v6, v7, v8, v9, v10, v11, v12, v13, v14, v15, v16, v17, v18, v19, v20, v21, v22, v23, v24, v25, v26, v27, v28, v29, v30, v31, v32, v33, v34, v35, v36])), (h1, .inl (ty 1, 304, .inl (upd (upd (kf 0) 1 2) 4 (-1))))]) rfl rfl (by decide) (by decide) (fun r u H locs w1 hP hD hS => ?_)
  rcases w1 with ⟨c2, rfl, rfl⟩ | ⟨c3, rfl, rfl⟩
  · have hP : va_P D vwCl [(h0, .inr (12, [v0, .ref h1, v1, v2, v3, v4, v5, v6, v7, v8, v9, v10, v11, v12, v13, v14, v15, v16, v17, v18, v19, v20, v21, v22, v23, v24, v25, v26, v27, v28, v29, v30, v31, v32, v33, v34, v35, v36])), (h1, .inl (ty 1, 304, .inl (upd (upd (kf 0) 1 2) 4 (-1))))] H := hP
    have hD : va_D A [(h0, .inr (12, [v0, .ref h1, v1, v2, v3, v4, v5, v6, v7, v8, v9, v10, v11, v12, v13, v14, v15, v16, v17, v18, v19, v20, v21, v22, v23, v24, v25, v26, v27, v28, v29, v30, v31, v32, v33, v34, v35, v36])), (h1, .inl (ty 1, 304, .inl (upd (upd (kf 0) 1 2) 4 (-1))))] := hD
    refine lv_if_eq (tgt := 19) hx hb dX12_reach_4 (by decide) (fun h9 => absurd h9 (by decide)) (fun _ => ?_)
    refine lv_iload_n hx hb dX12_reach_7 rfl (lv_at hl 2 rfl) ?_
    refine lv_i2l (v := (Int32.toInt64 p1)) hx hb dX12_reach_8 rfl ?_
    refine lv_lconst (v := 0) hx hb dX12_reach_9 (by decide) ?_
    refine lv_ldc2 hx hb hown (hB _ mw_540) dX12_reach_10 ?_
    refine kc_i (va_runS (As := [.long (Int32.toInt64 p1), .long 0, .long 9999]) (rest := []) ⟨hx, hb, hml, hown, hB⟩ (c_in l D ty H.size (Int32.toInt64 p1) 0 9999) (va_cwS 3 hB (bw_S mw_445 mw_446 mw_211 mw_444) rfl rfl rfl (by decide +kernel) ⟨Nat.le_of_ble_eq_true rfl, Nat.le_of_ble_eq_true rfl⟩) (kp_S hK hP hD [] (by decide) rfl) rfl rfl hl.1 rfl (lv_room (Nat.le_of_ble_eq_true rfl)) dX12_reach_13 ⟨Nat.le_of_ble_eq_true rfl, Nat.le_of_ble_eq_true rfl⟩) hP hD hS hA [] [0, 1] (wr := [(h0, .inr (12, [v0, .ref h1, v1, v2, v3, v4, v5, v6, v7, v8, v9, v10, v11, v12, v13, v14, v15, v16, v17, v18, v19, v20, v21, v22, v23, v24, v25, v26, v27, v28, v29, v30, v31, v32, v33, v34, v35, v36])), (h1, .inl (ty 1, 304, .inl (upd (upd (kf 0) 1 2) 4 (-1))))]) rfl rfl (by decide) (by decide) (fun r u H locs w4 hP hD hS => ?_)
    rcases w4 with ⟨c5, rfl, rfl⟩ | ⟨c6, rfl, rfl⟩
    · have hP : va_P D vwCl [(h0, .inr (12, [v0, .ref h1, v1, v2, v3, v4, v5, v6, v7, v8, v9, v10, v11, v12, v13, v14, v15, v16, v17, v18, v19, v20, v21, v22, v23, v24, v25, v26, v27, v28, v29, v30, v31, v32, v33, v34, v35, v36])), (h1, .inl (ty 1, 304, .inl (upd (upd (kf 0) 1 2) 4 (-1))))] H := hP
      have hD : va_D A [(h0, .inr (12, [v0, .ref h1, v1, v2, v3, v4, v5, v6, v7, v8, v9, v10, v11, v12, v13, v14, v15, v16, v17, v18, v19, v20, v21, v22, v23, v24, v25, v26, v27, v28, v29, v30, v31, v32, v33, v34, v35, v36])), (h1, .inl (ty 1, 304, .inl (upd (upd (kf 0) 1 2) 4 (-1))))] := hD
      refine lv_if_ne (tgt := 22) hx hb dX12_reach_16 (by decide) (fun _ => ?_) (fun h9 => absurd h9 (by decide))
      refine lv_aload_n hx hb dX12_reach_22 rfl (lv_at hl 0 rfl) ?_
      refine va_get (D := D) (ci := 12) (v := .ref h1) (C := RX12) (T := TX12) (N := 38) hx hb hB inB_X12 hown hK.1 hP 0 rfl rfl 1 (by decide) (hB _ mw_182) (fun _ h9 => h9) rfl dX12_reach_23 ?_
      refine lv_iconst (v := 4) hx hb dX12_reach_26 (by decide) ?_
      refine va_iald hx hb hK.1 hP 1 1 rfl rfl (by unfold vp_in; decide) dX12_reach_27 ?_
      refine tp_i (v := (-1)) rfl ?_
      refine lv_iconst (v := (-1)) hx hb dX12_reach_28 (by decide) ?_
      refine lv_icmp_ne (tgt := 35) hx hb dX12_reach_29 (by decide) (fun h9 => absurd (by decide) h9) (fun _ => ?_)
      refine lv_bipush (v := (-6)) hx hb dX12_reach_32 (by decide) ?_
      exact kr_z hx hb hr rfl hlocks hP hD hS [] [] (by decide) rfl (Or.inl ⟨⟨c2, c5⟩, rfl, rfl⟩) (by decide) (by decide) dX12_reach_34
    · have hP : va_P D vwCl [(h0, .inr (12, [v0, .ref h1, v1, v2, v3, v4, v5, v6, v7, v8, v9, v10, v11, v12, v13, v14, v15, v16, v17, v18, v19, v20, v21, v22, v23, v24, v25, v26, v27, v28, v29, v30, v31, v32, v33, v34, v35, v36])), (h1, .inl (ty 1, 304, .inl (upd (upd (kf 0) 1 2) 4 (-1))))] H := hP
      have hD : va_D A [(h0, .inr (12, [v0, .ref h1, v1, v2, v3, v4, v5, v6, v7, v8, v9, v10, v11, v12, v13, v14, v15, v16, v17, v18, v19, v20, v21, v22, v23, v24, v25, v26, v27, v28, v29, v30, v31, v32, v33, v34, v35, v36])), (h1, .inl (ty 1, 304, .inl (upd (upd (kf 0) 1 2) 4 (-1))))] := hD
      refine lv_if_ne (tgt := 22) hx hb dX12_reach_16 (by decide) (fun h9 => absurd (by decide) h9) (fun _ => ?_)
      refine lv_bipush (v := (-2)) hx hb dX12_reach_19 (by decide) ?_
      exact kr_z hx hb hr rfl hlocks hP hD hS [] [] (by decide) rfl (Or.inr ⟨(Or.inl ⟨c2, c6⟩), rfl, rfl⟩) (by decide) (by decide) dX12_reach_21
  · have hP : va_P D vwCl [(h0, .inr (12, [v0, .ref h1, v1, v2, v3, v4, v5, v6, v7, v8, v9, v10, v11, v12, v13, v14, v15, v16, v17, v18, v19, v20, v21, v22, v23, v24, v25, v26, v27, v28, v29, v30, v31, v32, v33, v34, v35, v36])), (h1, .inl (ty 1, 304, .inl (upd (upd (kf 0) 1 2) 4 (-1))))] H := hP
    have hD : va_D A [(h0, .inr (12, [v0, .ref h1, v1, v2, v3, v4, v5, v6, v7, v8, v9, v10, v11, v12, v13, v14, v15, v16, v17, v18, v19, v20, v21, v22, v23, v24, v25, v26, v27, v28, v29, v30, v31, v32, v33, v34, v35, v36])), (h1, .inl (ty 1, 304, .inl (upd (upd (kf 0) 1 2) 4 (-1))))] := hD
    refine lv_if_eq (tgt := 19) hx hb dX12_reach_4 (by decide) (fun _ => ?_) (fun h9 => absurd (by decide) h9)
    refine lv_bipush (v := (-2)) hx hb dX12_reach_19 (by decide) ?_
    exact kr_z hx hb hr rfl hlocks hP hD hS [] [] (by decide) rfl (Or.inr ⟨(Or.inr c3), rfl, rfl⟩) (by decide) (by decide) dX12_reach_21
set_option maxHeartbeats 4000000 in
set_option maxRecDepth 100000 in
theorem c204_X12_tries (l : Launch) (D : va_G) (ty : Nat → ClassId) (sz : Nat) (h0 : Nat) (h1 : Nat) (v0 : Value) (v1 : Value) (v2 : Value) (v3 : Value) (v4 : Value) (v5 : Value) (v6 : Value) (v7 : Value) (v8 : Value) (v9 : Value) (v10 : Value) (v11 : Value) (v12 : Value) (v13 : Value) (v14 : Value) (v15 : Value) (v16 : Value) (v17 : Value) (v18 : Value) (v19 : Value) (v20 : Value) (v21 : Value) (v22 : Value) (v23 : Value) (v24 : Value) (v25 : Value) (v26 : Value) (v27 : Value) (v28 : Value) (v29 : Value) (v30 : Value) (v31 : Value) (v32 : Value) (v33 : Value) (v34 : Value) (v35 : Value) (v36 : Value) : cQ l yX12_tries cX12_tries 3 none 1 20 [.ref h0, .int 0] D ty [(h0, .inr (12, [v0, .ref h1, v1, v2, v3, v4, v5, v6, v7, v8, v9, v10, v11, v12, v13, v14, v15, v16, v17, v18, v19, v20, v21, v22, v23, v24, v25, v26, v27, v28, v29, v30, v31, v32, v33, v34, v35, v36])), (h1, .inl (ty 1, 304, .inl (upd (upd (kf 0) 1 2) 4 (-1))))] sz (qV (fun (u : va_W) => [(h0, .inr (12, [v0, .ref h1, v1, v2, v3, v4, v5, v6, v7, v8, v9, v10, v11, v12, v13, v14, v15, v16, v17, v18, v19, v20, v21, v22, v23, v24, v25, v26, v27, v28, v29, v30, v31, v32, v33, v34, v35, v36])), (h1, .inl (ty 1, 304, .inl (upd (upd (kf 0) 1 2) 4 (-1))))] = u)) 0 0 := by
  refine cQ.of (by decide) (Nat.le_of_ble_eq_true rfl) (fun p e s m below meth c A ls C hsz hP hK hD hA hl => ?_)
  obtain ⟨hx, hb, hml, hown, hB, hr, hlocks, hin⟩ := C
  have hown : s.vm.findClass RX12 = some m.cls := hown
  have hS : va_S A s.heap s.heap [] := va_S.rf
  have hl : lv_has ls 3 [(0, .ref h0), (1, .int 0)] := hl
  refine lv_iconst (v := 0) hx hb dX12_tries_0 (by decide) ?_
  refine lv_istore_n (lv' := [(2, .int 0), (0, .ref h0), (1, .int 0)]) hx hb dX12_tries_1 rfl hl (by decide) rfl (fun ls hl => ?_)
  refine lv_iload_n hx hb dX12_tries_2 rfl (lv_at hl 0 rfl) ?_
  refine lv_aload_n hx hb dX12_tries_3 rfl (lv_at hl 1 rfl) ?_
  refine kc_i (va_runV (As := []) (rest := [.int 0]) ⟨hx, hb, hml, hown, hB⟩ (c146_X12_alleys l D ty s.heap.size h0 h1 v0 v1 v2 v3 v4 v5 v6 v7 v8 v9 v10 v11 v12 v13 v14 v15 v16 v17 v18 v19 v20 v21 v22 v23 v24 v25 v26 v27 v28 v29 v30 v31 v32 v33 v34 v35 v36) (cwV 0 hB (bw_V mw_465 mw_466 mw_467 mw_211 mw_464) rfl rfl rfl (by decide +kernel) ⟨Nat.le_of_ble_eq_true rfl, Nat.le_of_ble_eq_true rfl⟩) (kp_V hK hP hD [0, 1] (by decide) rfl 0 rfl rfl rfl) rfl rfl hl.1 rfl (lv_room (Nat.le_of_ble_eq_true rfl)) dX12_tries_4 ⟨Nat.le_of_ble_eq_true rfl, Nat.le_of_ble_eq_true rfl⟩) hP hD hS hA [0, 1] [] (wr := []) rfl rfl (by decide) (by decide) (fun r u H locs w1 hP hD hS => ?_)
  obtain ⟨rfl, rfl⟩ := w1
  have hP : va_P D vwCl [(h0, .inr (12, [v0, .ref h1, v1, v2, v3, v4, v5, v6, v7, v8, v9, v10, v11, v12, v13, v14, v15, v16, v17, v18, v19, v20, v21, v22, v23, v24, v25, v26, v27, v28, v29, v30, v31, v32, v33, v34, v35, v36])), (h1, .inl (ty 1, 304, .inl (upd (upd (kf 0) 1 2) 4 (-1))))] H := hP
  have hD : va_D A [(h0, .inr (12, [v0, .ref h1, v1, v2, v3, v4, v5, v6, v7, v8, v9, v10, v11, v12, v13, v14, v15, v16, v17, v18, v19, v20, v21, v22, v23, v24, v25, v26, v27, v28, v29, v30, v31, v32, v33, v34, v35, v36])), (h1, .inl (ty 1, 304, .inl (upd (upd (kf 0) 1 2) 4 (-1))))] := hD
  refine lv_icmp_ge (tgt := 28) hx hb dX12_tries_7 (by decide) (fun _ => ?_) (fun h9 => absurd (by decide) h9)
  exact kr_v hx hb hr hlocks hP hD hS [(h0, .inr (12, [v0, .ref h1, v1, v2, v3, v4, v5, v6, v7, v8, v9, v10, v11, v12, v13, v14, v15, v16, v17, v18, v19, v20, v21, v22, v23, v24, v25, v26, v27, v28, v29, v30, v31, v32, v33, v34, v35, v36])), (h1, .inl (ty 1, 304, .inl (upd (upd (kf 0) 1 2) 4 (-1))))] [0, 1] (by decide) rfl rfl (by decide) (by decide) dX12_tries_28
set_option maxHeartbeats 4000000 in
set_option maxRecDepth 100000 in
theorem c203_X12_afternoon (l : Launch) (D : va_G) (ty : Nat → ClassId) (sz : Nat) (h0 : Nat) (h1 : Nat) (h2 : Nat) (p0 : Int32) (v0 : Value) (v1 : Value) (v2 : Value) (v3 : Value) (v4 : Value) (v5 : Value) (v6 : Value) (v7 : Value) (v8 : Value) (v9 : Value) (v10 : Value) (v11 : Value) (v12 : Value) (v13 : Value) (v14 : Value) (v15 : Value) (v16 : Value) (v17 : Value) (v18 : Value) (v19 : Value) (v20 : Value) (v21 : Value) (v22 : Value) (v23 : Value) (v24 : Value) (v25 : Value) (v26 : Value) (v27 : Value) (v28 : Value) (v29 : Value) (v30 : Value) (v31 : Value) (v32 : Value) (v33 : Value) (v34 : Value) (v35 : Value) (f0 : Nat → Int32) : cQ l yX12_afternoon cX12_afternoon 4 (some .int) 5 110 [.ref h0, .int p0] D ty [(h0, .inr (12, [v0, .ref h1, v1, v2, v3, v4, v5, v6, v7, v8, v9, v10, v11, v12, v13, v14, v15, .ref h2, v16, v17, v18, v19, v20, v21, v22, v23, v24, v25, v26, v27, v28, v29, v30, v31, v32, v33, v34, v35])), (h1, .inl (ty 1, 304, .inl (upd (upd (kf 0) 1 2) 4 (-1)))), (h2, .inl (ty 1, 256, .inl f0))] sz (qI (fun (r : Int32) (u : va_W) => ((((0 ≤ (Int32.toInt64 p0)) ∧ ((Int32.toInt64 p0) ≤ 2))) ∧ (-5) = r ∧ [] = u) ∨ ((((¬ (0 ≤ (Int32.toInt64 p0))) ∨ (¬ ((Int32.toInt64 p0) ≤ 2)))) ∧ (-2) = r ∧ [] = u))) 0 0 := by
  refine cQ.of (by decide) (Nat.le_of_ble_eq_true rfl) (fun p e s m below meth c A ls C hsz hP hK hD hA hl => ?_)
  obtain ⟨hx, hb, hml, hown, hB, hr, hlocks, hin⟩ := C
  have hown : s.vm.findClass RX12 = some m.cls := hown
  have hS : va_S A s.heap s.heap [] := va_S.rf
  have hl : lv_has ls 4 [(0, .ref h0), (1, .int p0)] := hl
  refine lv_iload_n hx hb dX12_afternoon_0 rfl (lv_at hl 1 rfl) ?_
  refine lv_i2l (v := (Int32.toInt64 p0)) hx hb dX12_afternoon_1 rfl ?_
  refine lv_lconst (v := 0) hx hb dX12_afternoon_2 (by decide) ?_
  refine lv_ldc2 hx hb hown (hB _ mw_541) dX12_afternoon_3 ?_
  refine kc_i (va_runS (As := [.long (Int32.toInt64 p0), .long 0, .long 2]) (rest := []) ⟨hx, hb, hml, hown, hB⟩ (c_in l D ty s.heap.size (Int32.toInt64 p0) 0 2) (va_cwS 3 hB (bw_S mw_445 mw_446 mw_211 mw_444) rfl rfl rfl (by decide +kernel) ⟨Nat.le_of_ble_eq_true rfl, Nat.le_of_ble_eq_true rfl⟩) (kp_S hK hP hD [] (by decide) rfl) rfl rfl hl.1 rfl (lv_room (Nat.le_of_ble_eq_true rfl)) dX12_afternoon_6 ⟨Nat.le_of_ble_eq_true rfl, Nat.le_of_ble_eq_true rfl⟩) hP hD hS hA [] [0, 1, 2] (wr := [(h0, .inr (12, [v0, .ref h1, v1, v2, v3, v4, v5, v6, v7, v8, v9, v10, v11, v12, v13, v14, v15, .ref h2, v16, v17, v18, v19, v20, v21, v22, v23, v24, v25, v26, v27, v28, v29, v30, v31, v32, v33, v34, v35])), (h1, .inl (ty 1, 304, .inl (upd (upd (kf 0) 1 2) 4 (-1)))), (h2, .inl (ty 1, 256, .inl f0))]) rfl rfl (by decide) (by decide) (fun r u H locs w1 hP hD hS => ?_)
  rcases w1 with ⟨c2, rfl, rfl⟩ | ⟨c3, rfl, rfl⟩
  · have hP : va_P D vwCl [(h0, .inr (12, [v0, .ref h1, v1, v2, v3, v4, v5, v6, v7, v8, v9, v10, v11, v12, v13, v14, v15, .ref h2, v16, v17, v18, v19, v20, v21, v22, v23, v24, v25, v26, v27, v28, v29, v30, v31, v32, v33, v34, v35])), (h1, .inl (ty 1, 304, .inl (upd (upd (kf 0) 1 2) 4 (-1)))), (h2, .inl (ty 1, 256, .inl f0))] H := hP
    have hD : va_D A [(h0, .inr (12, [v0, .ref h1, v1, v2, v3, v4, v5, v6, v7, v8, v9, v10, v11, v12, v13, v14, v15, .ref h2, v16, v17, v18, v19, v20, v21, v22, v23, v24, v25, v26, v27, v28, v29, v30, v31, v32, v33, v34, v35])), (h1, .inl (ty 1, 304, .inl (upd (upd (kf 0) 1 2) 4 (-1)))), (h2, .inl (ty 1, 256, .inl f0))] := hD
    refine lv_if_ne (tgt := 15) hx hb dX12_afternoon_9 (by decide) (fun _ => ?_) (fun h9 => absurd h9 (by decide))
    refine lv_aload_n hx hb dX12_afternoon_15 rfl (lv_at hl 0 rfl) ?_
    refine lv_iconst (v := 0) hx hb dX12_afternoon_16 (by decide) ?_
    refine kc_v (va_runV (As := [.int 0]) (rest := []) ⟨hx, hb, hml, hown, hB⟩ (c204_X12_tries l D ty H.size h0 h1 v0 v1 v2 v3 v4 v5 v6 v7 v8 v9 v10 v11 v12 v13 v14 v15 (.ref h2) v16 v17 v18 v19 v20 v21 v22 v23 v24 v25 v26 v27 v28 v29 v30 v31 v32 v33 v34 v35) (cwV 1 hB (bw_V mw_480 mw_481 mw_482 mw_211 mw_479) rfl rfl rfl (by decide +kernel) ⟨Nat.le_of_ble_eq_true rfl, Nat.le_of_ble_eq_true rfl⟩) (kp_V hK hP hD [0, 1] (by decide) rfl 0 rfl rfl rfl) rfl rfl hl.1 rfl (lv_room (Nat.le_of_ble_eq_true rfl)) dX12_afternoon_17 ⟨Nat.le_of_ble_eq_true rfl, Nat.le_of_ble_eq_true rfl⟩) hP hD hS hA [0, 1] [2] (wr := [(h2, .inl (ty 1, 256, .inl f0))]) rfl rfl (by decide) (by decide) (fun u H locs w4 hP hD hS => ?_)
    subst w4
    have hP : va_P D vwCl [(h2, .inl (ty 1, 256, .inl f0)), (h0, .inr (12, [v0, .ref h1, v1, v2, v3, v4, v5, v6, v7, v8, v9, v10, v11, v12, v13, v14, v15, .ref h2, v16, v17, v18, v19, v20, v21, v22, v23, v24, v25, v26, v27, v28, v29, v30, v31, v32, v33, v34, v35])), (h1, .inl (ty 1, 304, .inl (upd (upd (kf 0) 1 2) 4 (-1))))] H := hP
    have hD : va_D A [(h2, .inl (ty 1, 256, .inl f0)), (h0, .inr (12, [v0, .ref h1, v1, v2, v3, v4, v5, v6, v7, v8, v9, v10, v11, v12, v13, v14, v15, .ref h2, v16, v17, v18, v19, v20, v21, v22, v23, v24, v25, v26, v27, v28, v29, v30, v31, v32, v33, v34, v35])), (h1, .inl (ty 1, 304, .inl (upd (upd (kf 0) 1 2) 4 (-1))))] := hD
    refine lv_aload_n hx hb dX12_afternoon_20 rfl (lv_at hl 0 rfl) ?_
    refine kc_i (va_runV (As := []) (rest := []) ⟨hx, hb, hml, hown, hB⟩ (c188_X12_isEnded l D ty H.size h0 h1 h2 v0 v1 v2 v3 v4 v5 v6 v7 v8 v9 v10 v11 v12 v13 v14 v15 v16 v17 v18 v19 v20 v21 v22 v23 v24 v25 v26 v27 v28 v29 v30 v31 v32 v33 v34 v35 f0) (cwV 0 hB (bw_V mw_536 mw_537 mw_538 mw_211 mw_535) rfl rfl rfl (by decide +kernel) ⟨Nat.le_of_ble_eq_true rfl, Nat.le_of_ble_eq_true rfl⟩) (kp_V hK hP hD [1, 2, 0] (by decide) rfl 1 rfl rfl rfl) rfl rfl hl.1 rfl (lv_room (Nat.le_of_ble_eq_true rfl)) dX12_afternoon_21 ⟨Nat.le_of_ble_eq_true rfl, Nat.le_of_ble_eq_true rfl⟩) hP hD hS hA [1, 2, 0] [] (wr := []) rfl rfl (by decide) (by decide) (fun r u H locs w5 hP hD hS => ?_)
    obtain ⟨rfl, rfl⟩ := w5
    have hP : va_P D vwCl [(h2, .inl (ty 1, 256, .inl (upd (upd (upd (upd f0 0 0) 1 1000000) 16 1000000) 17 0))), (h0, .inr (12, [v0, .ref h1, v1, v2, v3, v4, v5, v6, v7, v8, v9, v10, v11, v12, v13, v14, v15, .ref h2, v16, v17, v18, v19, v20, v21, v22, v23, v24, v25, v26, v27, v28, v29, v30, v31, v32, v33, v34, v35])), (h1, .inl (ty 1, 304, .inl (upd (upd (kf 0) 1 2) 4 (-1))))] H := hP
    have hD : va_D A [(h2, .inl (ty 1, 256, .inl (upd (upd (upd (upd f0 0 0) 1 1000000) 16 1000000) 17 0))), (h0, .inr (12, [v0, .ref h1, v1, v2, v3, v4, v5, v6, v7, v8, v9, v10, v11, v12, v13, v14, v15, .ref h2, v16, v17, v18, v19, v20, v21, v22, v23, v24, v25, v26, v27, v28, v29, v30, v31, v32, v33, v34, v35])), (h1, .inl (ty 1, 304, .inl (upd (upd (kf 0) 1 2) 4 (-1))))] := hD
    refine lv_if_ne (tgt := 30) hx hb dX12_afternoon_24 (by decide) (fun h9 => absurd (by decide) h9) (fun _ => ?_)
    refine lv_bipush (v := (-5)) hx hb dX12_afternoon_27 (by decide) ?_
    exact kr_z hx hb hr rfl hlocks hP hD hS [] [] (by decide) rfl (Or.inl ⟨c2, rfl, rfl⟩) (by decide) (by decide) dX12_afternoon_29
  · have hP : va_P D vwCl [(h0, .inr (12, [v0, .ref h1, v1, v2, v3, v4, v5, v6, v7, v8, v9, v10, v11, v12, v13, v14, v15, .ref h2, v16, v17, v18, v19, v20, v21, v22, v23, v24, v25, v26, v27, v28, v29, v30, v31, v32, v33, v34, v35])), (h1, .inl (ty 1, 304, .inl (upd (upd (kf 0) 1 2) 4 (-1)))), (h2, .inl (ty 1, 256, .inl f0))] H := hP
    have hD : va_D A [(h0, .inr (12, [v0, .ref h1, v1, v2, v3, v4, v5, v6, v7, v8, v9, v10, v11, v12, v13, v14, v15, .ref h2, v16, v17, v18, v19, v20, v21, v22, v23, v24, v25, v26, v27, v28, v29, v30, v31, v32, v33, v34, v35])), (h1, .inl (ty 1, 304, .inl (upd (upd (kf 0) 1 2) 4 (-1)))), (h2, .inl (ty 1, 256, .inl f0))] := hD
    refine lv_if_ne (tgt := 15) hx hb dX12_afternoon_9 (by decide) (fun h9 => absurd (by decide) h9) (fun _ => ?_)
    refine lv_bipush (v := (-2)) hx hb dX12_afternoon_12 (by decide) ?_
    exact kr_z hx hb hr rfl hlocks hP hD hS [] [] (by decide) rfl (Or.inr ⟨c3, rfl, rfl⟩) (by decide) (by decide) dX12_afternoon_14
set_option maxHeartbeats 4000000 in
set_option maxRecDepth 100000 in
theorem c206_X12_sumNow (l : Launch) (D : va_G) (ty : Nat → ClassId) (sz : Nat) (h0 : Nat) (h1 : Nat) (v0 : Value) (v1 : Value) (v2 : Value) (v3 : Value) (v4 : Value) (v5 : Value) (v6 : Value) (v7 : Value) (v8 : Value) (v9 : Value) (v10 : Value) (v11 : Value) (v12 : Value) (v13 : Value) (v14 : Value) (v15 : Value) (v16 : Value) (v17 : Value) (v18 : Value) (v19 : Value) (v20 : Value) (v21 : Value) (v22 : Value) (v23 : Value) (v24 : Value) (v25 : Value) (v26 : Value) (v27 : Value) (v28 : Value) (v29 : Value) (v30 : Value) (v31 : Value) (v32 : Value) (v33 : Value) (v34 : Value) (v35 : Value) (v36 : Value) : cQ l yX12_sumNow cX12_sumNow 5 (some .int) 1 20 [.ref h0, .int 1] D ty [(h0, .inr (12, [v0, .ref h1, v1, v2, v3, v4, v5, v6, v7, v8, v9, v10, v11, v12, v13, v14, v15, v16, v17, v18, v19, v20, v21, v22, v23, v24, v25, v26, v27, v28, v29, v30, v31, v32, v33, v34, v35, v36])), (h1, .inl (ty 1, 304, .inl (upd (upd (kf 0) 1 2) 4 (-1))))] sz (qI (fun (r : Int32) (u : va_W) => 0 = r ∧ [(h0, .inr (12, [v0, .ref h1, v1, v2, v3, v4, v5, v6, v7, v8, v9, v10, v11, v12, v13, v14, v15, v16, v17, v18, v19, v20, v21, v22, v23, v24, v25, v26, v27, v28, v29, v30, v31, v32, v33, v34, v35, v36])), (h1, .inl (ty 1, 304, .inl (upd (upd (kf 0) 1 2) 4 (-1))))] = u)) 0 0 := by
  refine cQ.of (by decide) (Nat.le_of_ble_eq_true rfl) (fun p e s m below meth c A ls C hsz hP hK hD hA hl => ?_)
  obtain ⟨hx, hb, hml, hown, hB, hr, hlocks, hin⟩ := C
  have hown : s.vm.findClass RX12 = some m.cls := hown
  have hS : va_S A s.heap s.heap [] := va_S.rf
  have hl : lv_has ls 5 [(0, .ref h0), (1, .int 1)] := hl
  refine lv_iconst (v := 0) hx hb dX12_sumNow_0 (by decide) ?_
  refine lv_istore_n (lv' := [(2, .int 0), (0, .ref h0), (1, .int 1)]) hx hb dX12_sumNow_1 rfl hl (by decide) rfl (fun ls hl => ?_)
  refine lv_iconst (v := 0) hx hb dX12_sumNow_2 (by decide) ?_
  refine lv_istore_n (lv' := [(3, .int 0), (2, .int 0), (0, .ref h0), (1, .int 1)]) hx hb dX12_sumNow_3 rfl hl (by decide) rfl (fun ls hl => ?_)
  refine lv_iload_n hx hb dX12_sumNow_4 rfl (lv_at hl 0 rfl) ?_
  refine lv_aload_n hx hb dX12_sumNow_5 rfl (lv_at hl 2 rfl) ?_
  refine kc_i (va_runV (As := []) (rest := [.int 0]) ⟨hx, hb, hml, hown, hB⟩ (c179_X12_journeys l D ty s.heap.size h0 h1 v0 v1 v2 v3 v4 v5 v6 v7 v8 v9 v10 v11 v12 v13 v14 v15 v16 v17 v18 v19 v20 v21 v22 v23 v24 v25 v26 v27 v28 v29 v30 v31 v32 v33 v34 v35 v36) (cwV 0 hB (bw_V mw_516 mw_517 mw_518 mw_211 mw_515) rfl rfl rfl (by decide +kernel) ⟨Nat.le_of_ble_eq_true rfl, Nat.le_of_ble_eq_true rfl⟩) (kp_V hK hP hD [0, 1] (by decide) rfl 0 rfl rfl rfl) rfl rfl hl.1 rfl (lv_room (Nat.le_of_ble_eq_true rfl)) dX12_sumNow_6 ⟨Nat.le_of_ble_eq_true rfl, Nat.le_of_ble_eq_true rfl⟩) hP hD hS hA [0, 1] [] (wr := []) rfl rfl (by decide) (by decide) (fun r u H locs w1 hP hD hS => ?_)
  obtain ⟨rfl, rfl⟩ := w1
  have hP : va_P D vwCl [(h0, .inr (12, [v0, .ref h1, v1, v2, v3, v4, v5, v6, v7, v8, v9, v10, v11, v12, v13, v14, v15, v16, v17, v18, v19, v20, v21, v22, v23, v24, v25, v26, v27, v28, v29, v30, v31, v32, v33, v34, v35, v36])), (h1, .inl (ty 1, 304, .inl (upd (upd (kf 0) 1 2) 4 (-1))))] H := hP
  have hD : va_D A [(h0, .inr (12, [v0, .ref h1, v1, v2, v3, v4, v5, v6, v7, v8, v9, v10, v11, v12, v13, v14, v15, v16, v17, v18, v19, v20, v21, v22, v23, v24, v25, v26, v27, v28, v29, v30, v31, v32, v33, v34, v35, v36])), (h1, .inl (ty 1, 304, .inl (upd (upd (kf 0) 1 2) 4 (-1))))] := hD
  refine lv_icmp_ge (tgt := 69) hx hb dX12_sumNow_9 (by decide) (fun _ => ?_) (fun h9 => absurd (by decide) h9)
  refine lv_iload_n hx hb dX12_sumNow_69 rfl (lv_at hl 1 rfl) ?_
  exact kr_z hx hb hr rfl hlocks hP hD hS [(h0, .inr (12, [v0, .ref h1, v1, v2, v3, v4, v5, v6, v7, v8, v9, v10, v11, v12, v13, v14, v15, v16, v17, v18, v19, v20, v21, v22, v23, v24, v25, v26, v27, v28, v29, v30, v31, v32, v33, v34, v35, v36])), (h1, .inl (ty 1, 304, .inl (upd (upd (kf 0) 1 2) 4 (-1))))] [0, 1] (by decide) rfl ⟨rfl, rfl⟩ (by decide) (by decide) dX12_sumNow_70
set_option maxHeartbeats 4000000 in
set_option maxRecDepth 100000 in
theorem c205_X12_sumBack (l : Launch) (D : va_G) (ty : Nat → ClassId) (sz : Nat) (h0 : Nat) (h1 : Nat) (h2 : Nat) (h3 : Nat) (p0 : Int32) (v0 : Value) (v1 : Value) (v2 : Value) (v3 : Value) (v4 : Value) (v5 : Value) (v6 : Value) (v7 : Value) (v8 : Value) (v9 : Value) (v10 : Value) (v11 : Value) (v12 : Value) (v13 : Value) (v14 : Value) (v15 : Value) (v16 : Value) (v17 : Value) (v18 : Value) (v19 : Value) (v20 : Value) (v21 : Value) (v22 : Value) (v23 : Value) (v24 : Value) (v25 : Value) (v26 : Value) (v27 : Value) (v28 : Value) (v29 : Value) (v30 : Value) (v31 : Value) (v32 : Value) (v33 : Value) (v34 : Value) (f0 : Nat → Int32) (f1 : Nat → Int32) : cQ l yX12_sumBack cX12_sumBack 2 (some .int) 3 69 [.ref h0, .int p0] D ty [(h0, .inr (12, [v0, .ref h1, v1, v2, v3, v4, v5, v6, v7, v8, v9, v10, v11, v12, v13, v14, v15, .ref h3, .ref h2, v16, v17, v18, v19, v20, v21, v22, v23, v24, v25, v26, v27, v28, v29, v30, v31, v32, v33, v34])), (h1, .inl (ty 1, 304, .inl (upd (upd (kf 0) 1 2) 4 (-1)))), (h2, .inl (ty 1, 256, .inl f0)), (h3, .inl (ty 1, 256, .inl f1))] sz (qI (fun (r : Int32) (u : va_W) => (((((0 ≤ (Int32.toInt64 p0)) ∧ ((Int32.toInt64 p0) ≤ 1)))) ∧ 0 = r ∧ [] = u) ∨ (((((¬ (0 ≤ (Int32.toInt64 p0))) ∨ (¬ ((Int32.toInt64 p0) ≤ 1))))) ∧ (-2) = r ∧ [] = u))) 0 0 := by
  refine cQ.of (by decide) (Nat.le_of_ble_eq_true rfl) (fun p e s m below meth c A ls C hsz hP hK hD hA hl => ?_)
  obtain ⟨hx, hb, hml, hown, hB, hr, hlocks, hin⟩ := C
  have hown : s.vm.findClass RX12 = some m.cls := hown
  have hS : va_S A s.heap s.heap [] := va_S.rf
  have hl : lv_has ls 2 [(0, .ref h0), (1, .int p0)] := hl
  refine lv_iload_n hx hb dX12_sumBack_0 rfl (lv_at hl 1 rfl) ?_
  refine kc_i (va_runS (As := [.int p0]) (rest := []) ⟨hx, hb, hml, hown, hB⟩ (c149_X12_isGiving l D ty s.heap.size p0) (va_cwS 1 hB (bw_S mw_469 mw_470 mw_211 mw_468) rfl rfl rfl (by decide +kernel) ⟨Nat.le_of_ble_eq_true rfl, Nat.le_of_ble_eq_true rfl⟩) (kp_S hK hP hD [] (by decide) rfl) rfl rfl hl.1 rfl (lv_room (Nat.le_of_ble_eq_true rfl)) dX12_sumBack_1 ⟨Nat.le_of_ble_eq_true rfl, Nat.le_of_ble_eq_true rfl⟩) hP hD hS hA [] [0, 1, 2, 3] (wr := [(h0, .inr (12, [v0, .ref h1, v1, v2, v3, v4, v5, v6, v7, v8, v9, v10, v11, v12, v13, v14, v15, .ref h3, .ref h2, v16, v17, v18, v19, v20, v21, v22, v23, v24, v25, v26, v27, v28, v29, v30, v31, v32, v33, v34])), (h1, .inl (ty 1, 304, .inl (upd (upd (kf 0) 1 2) 4 (-1)))), (h2, .inl (ty 1, 256, .inl f0)), (h3, .inl (ty 1, 256, .inl f1))]) rfl rfl (by decide) (by decide) (fun r u H locs w1 hP hD hS => ?_)
  rcases w1 with ⟨c2, rfl, rfl⟩ | ⟨c3, rfl, rfl⟩
  · have hP : va_P D vwCl [(h0, .inr (12, [v0, .ref h1, v1, v2, v3, v4, v5, v6, v7, v8, v9, v10, v11, v12, v13, v14, v15, .ref h3, .ref h2, v16, v17, v18, v19, v20, v21, v22, v23, v24, v25, v26, v27, v28, v29, v30, v31, v32, v33, v34])), (h1, .inl (ty 1, 304, .inl (upd (upd (kf 0) 1 2) 4 (-1)))), (h2, .inl (ty 1, 256, .inl f0)), (h3, .inl (ty 1, 256, .inl f1))] H := hP
    have hD : va_D A [(h0, .inr (12, [v0, .ref h1, v1, v2, v3, v4, v5, v6, v7, v8, v9, v10, v11, v12, v13, v14, v15, .ref h3, .ref h2, v16, v17, v18, v19, v20, v21, v22, v23, v24, v25, v26, v27, v28, v29, v30, v31, v32, v33, v34])), (h1, .inl (ty 1, 304, .inl (upd (upd (kf 0) 1 2) 4 (-1)))), (h2, .inl (ty 1, 256, .inl f0)), (h3, .inl (ty 1, 256, .inl f1))] := hD
    refine lv_if_ne (tgt := 10) hx hb dX12_sumBack_4 (by decide) (fun _ => ?_) (fun h9 => absurd h9 (by decide))
    refine lv_aload_n hx hb dX12_sumBack_10 rfl (lv_at hl 0 rfl) ?_
    refine lv_iload_n hx hb dX12_sumBack_11 rfl (lv_at hl 1 rfl) ?_
    refine kc_v (va_runV (As := [.int p0]) (rest := []) ⟨hx, hb, hml, hown, hB⟩ (c156_X12_tries l D ty H.size h0 h1 p0 v0 v1 v2 v3 v4 v5 v6 v7 v8 v9 v10 v11 v12 v13 v14 v15 (.ref h3) (.ref h2) v16 v17 v18 v19 v20 v21 v22 v23 v24 v25 v26 v27 v28 v29 v30 v31 v32 v33 v34) (cwV 1 hB (bw_V mw_480 mw_481 mw_482 mw_211 mw_479) rfl rfl rfl (by decide +kernel) ⟨Nat.le_of_ble_eq_true rfl, Nat.le_of_ble_eq_true rfl⟩) (kp_V hK hP hD [0, 1] (by decide) rfl 0 rfl rfl rfl) rfl rfl hl.1 rfl (lv_room (Nat.le_of_ble_eq_true rfl)) dX12_sumBack_12 ⟨Nat.le_of_ble_eq_true rfl, Nat.le_of_ble_eq_true rfl⟩) hP hD hS hA [0, 1] [2, 3] (wr := [(h2, .inl (ty 1, 256, .inl f0)), (h3, .inl (ty 1, 256, .inl f1))]) rfl rfl (by decide) (by decide) (fun u H locs w4 hP hD hS => ?_)
    subst w4
    have hP : va_P D vwCl [(h2, .inl (ty 1, 256, .inl f0)), (h3, .inl (ty 1, 256, .inl f1)), (h0, .inr (12, [v0, .ref h1, v1, v2, v3, v4, v5, v6, v7, v8, v9, v10, v11, v12, v13, v14, v15, .ref h3, .ref h2, v16, v17, v18, v19, v20, v21, v22, v23, v24, v25, v26, v27, v28, v29, v30, v31, v32, v33, v34])), (h1, .inl (ty 1, 304, .inl (upd (upd (kf 0) 1 2) 4 (-1))))] H := hP
    have hD : va_D A [(h2, .inl (ty 1, 256, .inl f0)), (h3, .inl (ty 1, 256, .inl f1)), (h0, .inr (12, [v0, .ref h1, v1, v2, v3, v4, v5, v6, v7, v8, v9, v10, v11, v12, v13, v14, v15, .ref h3, .ref h2, v16, v17, v18, v19, v20, v21, v22, v23, v24, v25, v26, v27, v28, v29, v30, v31, v32, v33, v34])), (h1, .inl (ty 1, 304, .inl (upd (upd (kf 0) 1 2) 4 (-1))))] := hD
    refine lv_aload_n hx hb dX12_sumBack_15 rfl (lv_at hl 0 rfl) ?_
    refine lv_aload_n hx hb dX12_sumBack_16 rfl (lv_at hl 0 rfl) ?_
    refine va_get (D := D) (ci := 12) (v := .ref h2) (C := RX12) (T := TX12) (N := 38) hx hb hB inB_X12 hown hK.1 hP 2 rfl rfl 18 (by decide) (hB _ mw_193) (fun _ h9 => h9) rfl dX12_sumBack_17 ?_
    refine lv_iconst (v := 1) hx hb dX12_sumBack_20 (by decide) ?_
    refine kc_v (va_runV (As := [.ref h2, .int 1]) (rest := []) ⟨hx, hb, hml, hown, hB⟩ (c181_X12_measures l D ty H.size h0 h1 h2 v0 v1 v2 v3 v4 v5 v6 v7 v8 v9 v10 v11 v12 v13 v14 v15 (.ref h3) (.ref h2) v16 v17 v18 v19 v20 v21 v22 v23 v24 v25 v26 v27 v28 v29 v30 v31 v32 v33 v34 f0) (cwV 2 hB (bw_V mw_492 mw_493 mw_494 mw_211 mw_491) rfl rfl rfl (by decide +kernel) ⟨Nat.le_of_ble_eq_true rfl, Nat.le_of_ble_eq_true rfl⟩) (kp_V hK hP hD [2, 3, 0] (by decide) rfl 2 rfl rfl rfl) rfl rfl hl.1 rfl (lv_room (Nat.le_of_ble_eq_true rfl)) dX12_sumBack_21 ⟨Nat.le_of_ble_eq_true rfl, Nat.le_of_ble_eq_true rfl⟩) hP hD hS hA [2, 3, 0] [1] (wr := [(h3, .inl (ty 1, 256, .inl f1))]) rfl rfl (by decide) (by decide) (fun u H locs w5 hP hD hS => ?_)
    subst w5
    have hP : va_P D vwCl [(h3, .inl (ty 1, 256, .inl f1)), (h0, .inr (12, [v0, .ref h1, v1, v2, v3, v4, v5, v6, v7, v8, v9, v10, v11, v12, v13, v14, v15, .ref h3, .ref h2, v16, v17, v18, v19, v20, v21, v22, v23, v24, v25, v26, v27, v28, v29, v30, v31, v32, v33, v34])), (h1, .inl (ty 1, 304, .inl (upd (upd (kf 0) 1 2) 4 (-1)))), (h2, .inl (ty 1, 256, .inl (upd (upd (upd (upd f0 0 0) 1 1000000) 16 1000000) 17 0)))] H := hP
    have hD : va_D A [(h3, .inl (ty 1, 256, .inl f1)), (h0, .inr (12, [v0, .ref h1, v1, v2, v3, v4, v5, v6, v7, v8, v9, v10, v11, v12, v13, v14, v15, .ref h3, .ref h2, v16, v17, v18, v19, v20, v21, v22, v23, v24, v25, v26, v27, v28, v29, v30, v31, v32, v33, v34])), (h1, .inl (ty 1, 304, .inl (upd (upd (kf 0) 1 2) 4 (-1)))), (h2, .inl (ty 1, 256, .inl (upd (upd (upd (upd f0 0 0) 1 1000000) 16 1000000) 17 0)))] := hD
    refine lv_aload_n hx hb dX12_sumBack_24 rfl (lv_at hl 0 rfl) ?_
    refine kc_v (va_runV (As := []) (rest := []) ⟨hx, hb, hml, hown, hB⟩ (c158_X12_measure l D ty H.size h0 h1 h3 v0 v1 v2 v3 v4 v5 v6 v7 v8 v9 v10 v11 v12 v13 v14 v15 (.ref h2) v16 v17 v18 v19 v20 v21 v22 v23 v24 v25 v26 v27 v28 v29 v30 v31 v32 v33 v34 f1) (cwV 0 hB (bw_V mw_496 mw_497 mw_498 mw_211 mw_495) rfl rfl rfl (by decide +kernel) ⟨Nat.le_of_ble_eq_true rfl, Nat.le_of_ble_eq_true rfl⟩) (kp_V hK hP hD [1, 2, 0] (by decide) rfl 1 rfl rfl rfl) rfl rfl hl.1 rfl (lv_room (Nat.le_of_ble_eq_true rfl)) dX12_sumBack_25 ⟨Nat.le_of_ble_eq_true rfl, Nat.le_of_ble_eq_true rfl⟩) hP hD hS hA [1, 2, 0] [3] (wr := [(h2, .inl (ty 1, 256, .inl (upd (upd (upd (upd f0 0 0) 1 1000000) 16 1000000) 17 0)))]) rfl rfl (by decide) (by decide) (fun u H locs w6 hP hD hS => ?_)
    subst w6
    have hP : va_P D vwCl [(h2, .inl (ty 1, 256, .inl (upd (upd (upd (upd f0 0 0) 1 1000000) 16 1000000) 17 0))), (h0, .inr (12, [v0, .ref h1, v1, v2, v3, v4, v5, v6, v7, v8, v9, v10, v11, v12, v13, v14, v15, .ref h3, .ref h2, v16, v17, v18, v19, v20, v21, v22, v23, v24, v25, v26, v27, v28, v29, v30, v31, v32, v33, v34])), (h1, .inl (ty 1, 304, .inl (upd (upd (kf 0) 1 2) 4 (-1)))), (h3, .inl (ty 1, 256, .inl (upd (upd (upd (upd f1 0 0) 1 1000000) 16 1000000) 17 0)))] H := hP
    have hD : va_D A [(h2, .inl (ty 1, 256, .inl (upd (upd (upd (upd f0 0 0) 1 1000000) 16 1000000) 17 0))), (h0, .inr (12, [v0, .ref h1, v1, v2, v3, v4, v5, v6, v7, v8, v9, v10, v11, v12, v13, v14, v15, .ref h3, .ref h2, v16, v17, v18, v19, v20, v21, v22, v23, v24, v25, v26, v27, v28, v29, v30, v31, v32, v33, v34])), (h1, .inl (ty 1, 304, .inl (upd (upd (kf 0) 1 2) 4 (-1)))), (h3, .inl (ty 1, 256, .inl (upd (upd (upd (upd f1 0 0) 1 1000000) 16 1000000) 17 0)))] := hD
    refine lv_aload_n hx hb dX12_sumBack_28 rfl (lv_at hl 0 rfl) ?_
    refine lv_iconst (v := 1) hx hb dX12_sumBack_29 (by decide) ?_
    refine kc_i (va_runV (As := [.int 1]) (rest := []) ⟨hx, hb, hml, hown, hB⟩ (c206_X12_sumNow l D ty H.size h0 h1 v0 v1 v2 v3 v4 v5 v6 v7 v8 v9 v10 v11 v12 v13 v14 v15 (.ref h3) (.ref h2) v16 v17 v18 v19 v20 v21 v22 v23 v24 v25 v26 v27 v28 v29 v30 v31 v32 v33 v34) (cwV 1 hB (bw_V mw_524 mw_525 mw_526 mw_211 mw_523) rfl rfl rfl (by decide +kernel) ⟨Nat.le_of_ble_eq_true rfl, Nat.le_of_ble_eq_true rfl⟩) (kp_V hK hP hD [1, 2] (by decide) rfl 1 rfl rfl rfl) rfl rfl hl.1 rfl (lv_room (Nat.le_of_ble_eq_true rfl)) dX12_sumBack_30 ⟨Nat.le_of_ble_eq_true rfl, Nat.le_of_ble_eq_true rfl⟩) hP hD hS hA [1, 2] [0, 3] (wr := [(h2, .inl (ty 1, 256, .inl (upd (upd (upd (upd f0 0 0) 1 1000000) 16 1000000) 17 0))), (h3, .inl (ty 1, 256, .inl (upd (upd (upd (upd f1 0 0) 1 1000000) 16 1000000) 17 0)))]) rfl rfl (by decide) (by decide) (fun r u H locs w7 hP hD hS => ?_)
    obtain ⟨rfl, rfl⟩ := w7
    have hP : va_P D vwCl [(h2, .inl (ty 1, 256, .inl (upd (upd (upd (upd f0 0 0) 1 1000000) 16 1000000) 17 0))), (h3, .inl (ty 1, 256, .inl (upd (upd (upd (upd f1 0 0) 1 1000000) 16 1000000) 17 0))), (h0, .inr (12, [v0, .ref h1, v1, v2, v3, v4, v5, v6, v7, v8, v9, v10, v11, v12, v13, v14, v15, .ref h3, .ref h2, v16, v17, v18, v19, v20, v21, v22, v23, v24, v25, v26, v27, v28, v29, v30, v31, v32, v33, v34])), (h1, .inl (ty 1, 304, .inl (upd (upd (kf 0) 1 2) 4 (-1))))] H := hP
    have hD : va_D A [(h2, .inl (ty 1, 256, .inl (upd (upd (upd (upd f0 0 0) 1 1000000) 16 1000000) 17 0))), (h3, .inl (ty 1, 256, .inl (upd (upd (upd (upd f1 0 0) 1 1000000) 16 1000000) 17 0))), (h0, .inr (12, [v0, .ref h1, v1, v2, v3, v4, v5, v6, v7, v8, v9, v10, v11, v12, v13, v14, v15, .ref h3, .ref h2, v16, v17, v18, v19, v20, v21, v22, v23, v24, v25, v26, v27, v28, v29, v30, v31, v32, v33, v34])), (h1, .inl (ty 1, 304, .inl (upd (upd (kf 0) 1 2) 4 (-1))))] := hD
    exact kr_z hx hb hr rfl hlocks hP hD hS [] [] (by decide) rfl (Or.inl ⟨c2, rfl, rfl⟩) (by decide) (by decide) dX12_sumBack_33
  · have hP : va_P D vwCl [(h0, .inr (12, [v0, .ref h1, v1, v2, v3, v4, v5, v6, v7, v8, v9, v10, v11, v12, v13, v14, v15, .ref h3, .ref h2, v16, v17, v18, v19, v20, v21, v22, v23, v24, v25, v26, v27, v28, v29, v30, v31, v32, v33, v34])), (h1, .inl (ty 1, 304, .inl (upd (upd (kf 0) 1 2) 4 (-1)))), (h2, .inl (ty 1, 256, .inl f0)), (h3, .inl (ty 1, 256, .inl f1))] H := hP
    have hD : va_D A [(h0, .inr (12, [v0, .ref h1, v1, v2, v3, v4, v5, v6, v7, v8, v9, v10, v11, v12, v13, v14, v15, .ref h3, .ref h2, v16, v17, v18, v19, v20, v21, v22, v23, v24, v25, v26, v27, v28, v29, v30, v31, v32, v33, v34])), (h1, .inl (ty 1, 304, .inl (upd (upd (kf 0) 1 2) 4 (-1)))), (h2, .inl (ty 1, 256, .inl f0)), (h3, .inl (ty 1, 256, .inl f1))] := hD
    refine lv_if_ne (tgt := 10) hx hb dX12_sumBack_4 (by decide) (fun h9 => absurd (by decide) h9) (fun _ => ?_)
    refine lv_bipush (v := (-2)) hx hb dX12_sumBack_7 (by decide) ?_
    exact kr_z hx hb hr rfl hlocks hP hD hS [] [] (by decide) rfl (Or.inr ⟨c3, rfl, rfl⟩) (by decide) (by decide) dX12_sumBack_9
set_option maxHeartbeats 4000000 in
set_option maxRecDepth 100000 in
theorem c207_X12_walk (l : Launch) (D : va_G) (ty : Nat → ClassId) (sz : Nat) (h0 : Nat) (h1 : Nat) (p0 : Int32) (p1 : Int32) (p2 : Int32) (v0 : Value) (v1 : Value) (v2 : Value) (v3 : Value) (v4 : Value) (v5 : Value) (v6 : Value) (v7 : Value) (v8 : Value) (v9 : Value) (v10 : Value) (v11 : Value) (v12 : Value) (v13 : Value) (v14 : Value) (v15 : Value) (v16 : Value) (v17 : Value) (v18 : Value) (v19 : Value) (v20 : Value) (v21 : Value) (v22 : Value) (v23 : Value) (v24 : Value) (v25 : Value) (v26 : Value) (v27 : Value) (v28 : Value) (v29 : Value) (v30 : Value) (v31 : Value) (v32 : Value) (v33 : Value) (v34 : Value) (v35 : Value) (v36 : Value) : cQ l yX12_walk cX12_walk 9 (some .int) 2 46 [.ref h0, .int p0, .int p1, .int p2] D ty [(h0, .inr (12, [v0, .ref h1, v1, v2, v3, v4, v5, v6, v7, v8, v9, v10, v11, v12, v13, v14, v15, v16, v17, v18, v19, v20, v21, v22, v23, v24, v25, v26, v27, v28, v29, v30, v31, v32, v33, v34, v35, v36])), (h1, .inl (ty 1, 304, .inl (upd (upd (kf 0) 1 2) 4 (-1))))] sz (qI (fun (r : Int32) (u : va_W) => ((((((0 ≤ (Int32.toInt64 p0)) ∧ ((Int32.toInt64 p0) ≤ 1))) ∧ (((0 ≤ (Int32.toInt64 p1)) ∧ ((Int32.toInt64 p1) ≤ 1))) ∧ ((0 ≤ (Int32.toInt64 p2)) ∧ ((Int32.toInt64 p2) ≤ 100)) ∧ (p2 ≤ 0)) ∨ ((((0 ≤ (Int32.toInt64 p0)) ∧ ((Int32.toInt64 p0) ≤ 1))) ∧ (((0 ≤ (Int32.toInt64 p1)) ∧ ((Int32.toInt64 p1) ≤ 1))) ∧ ((0 ≤ (Int32.toInt64 p2)) ∧ ((Int32.toInt64 p2) ≤ 100)) ∧ (¬ (p2 ≤ 0)))) ∧ p1 = r ∧ [] = u) ∨ ((((((0 ≤ (Int32.toInt64 p0)) ∧ ((Int32.toInt64 p0) ≤ 1))) ∧ (((0 ≤ (Int32.toInt64 p1)) ∧ ((Int32.toInt64 p1) ≤ 1))) ∧ ((¬ (0 ≤ (Int32.toInt64 p2))) ∨ (¬ ((Int32.toInt64 p2) ≤ 100)))) ∨ ((((0 ≤ (Int32.toInt64 p0)) ∧ ((Int32.toInt64 p0) ≤ 1))) ∧ (((¬ (0 ≤ (Int32.toInt64 p1))) ∨ (¬ ((Int32.toInt64 p1) ≤ 1))))) ∨ ((((¬ (0 ≤ (Int32.toInt64 p0))) ∨ (¬ ((Int32.toInt64 p0) ≤ 1)))))) ∧ (-2) = r ∧ [] = u))) 0 0 := by
  refine cQ.of (by decide) (Nat.le_of_ble_eq_true rfl) (fun p e s m below meth c A ls C hsz hP hK hD hA hl => ?_)
  obtain ⟨hx, hb, hml, hown, hB, hr, hlocks, hin⟩ := C
  have hown : s.vm.findClass RX12 = some m.cls := hown
  have hS : va_S A s.heap s.heap [] := va_S.rf
  have hl : lv_has ls 9 [(0, .ref h0), (1, .int p0), (2, .int p1), (3, .int p2)] := hl
  refine lv_iload_n hx hb dX12_walk_0 rfl (lv_at hl 1 rfl) ?_
  refine kc_i (va_runS (As := [.int p0]) (rest := []) ⟨hx, hb, hml, hown, hB⟩ (c149_X12_isGiving l D ty s.heap.size p0) (va_cwS 1 hB (bw_S mw_469 mw_470 mw_211 mw_468) rfl rfl rfl (by decide +kernel) ⟨Nat.le_of_ble_eq_true rfl, Nat.le_of_ble_eq_true rfl⟩) (kp_S hK hP hD [] (by decide) rfl) rfl rfl hl.1 rfl (lv_room (Nat.le_of_ble_eq_true rfl)) dX12_walk_1 ⟨Nat.le_of_ble_eq_true rfl, Nat.le_of_ble_eq_true rfl⟩) hP hD hS hA [] [0, 1] (wr := [(h0, .inr (12, [v0, .ref h1, v1, v2, v3, v4, v5, v6, v7, v8, v9, v10, v11, v12, v13, v14, v15, v16, v17, v18, v19, v20, v21, v22, v23, v24, v25, v26, v27, v28, v29, v30, v31, v32, v33, v34, v35, v36])), (h1, .inl (ty 1, 304, .inl (upd (upd (kf 0) 1 2) 4 (-1))))]) rfl rfl (by decide) (by decide) (fun r u H locs w1 hP hD hS => ?_)
  rcases w1 with ⟨c2, rfl, rfl⟩ | ⟨c3, rfl, rfl⟩
  · have hP : va_P D vwCl [(h0, .inr (12, [v0, .ref h1, v1, v2, v3, v4, v5, v6, v7, v8, v9, v10, v11, v12, v13, v14, v15, v16, v17, v18, v19, v20, v21, v22, v23, v24, v25, v26, v27, v28, v29, v30, v31, v32, v33, v34, v35, v36])), (h1, .inl (ty 1, 304, .inl (upd (upd (kf 0) 1 2) 4 (-1))))] H := hP
    have hD : va_D A [(h0, .inr (12, [v0, .ref h1, v1, v2, v3, v4, v5, v6, v7, v8, v9, v10, v11, v12, v13, v14, v15, v16, v17, v18, v19, v20, v21, v22, v23, v24, v25, v26, v27, v28, v29, v30, v31, v32, v33, v34, v35, v36])), (h1, .inl (ty 1, 304, .inl (upd (upd (kf 0) 1 2) 4 (-1))))] := hD
    refine lv_if_eq (tgt := 27) hx hb dX12_walk_4 (by decide) (fun h9 => absurd h9 (by decide)) (fun _ => ?_)
    refine lv_aload_n hx hb dX12_walk_7 rfl (lv_at hl 0 rfl) ?_
    refine lv_iload_n hx hb dX12_walk_8 rfl (lv_at hl 2 rfl) ?_
    refine kc_i (va_runV (As := [.int p1]) (rest := []) ⟨hx, hb, hml, hown, hB⟩ (c176_X12_isCorner l D ty H.size h0 h1 p1 v0 v1 v2 v3 v4 v5 v6 v7 v8 v9 v10 v11 v12 v13 v14 v15 v16 v17 v18 v19 v20 v21 v22 v23 v24 v25 v26 v27 v28 v29 v30 v31 v32 v33 v34 v35 v36) (cwV 1 hB (bw_V mw_512 mw_513 mw_514 mw_211 mw_511) rfl rfl rfl (by decide +kernel) ⟨Nat.le_of_ble_eq_true rfl, Nat.le_of_ble_eq_true rfl⟩) (kp_V hK hP hD [0, 1] (by decide) rfl 0 rfl rfl rfl) rfl rfl hl.1 rfl (lv_room (Nat.le_of_ble_eq_true rfl)) dX12_walk_9 ⟨Nat.le_of_ble_eq_true rfl, Nat.le_of_ble_eq_true rfl⟩) hP hD hS hA [0, 1] [] (wr := []) rfl rfl (by decide) (by decide) (fun r u H locs w4 hP hD hS => ?_)
    rcases w4 with ⟨c5, rfl, rfl⟩ | ⟨c6, rfl, rfl⟩
    · have hP : va_P D vwCl [(h0, .inr (12, [v0, .ref h1, v1, v2, v3, v4, v5, v6, v7, v8, v9, v10, v11, v12, v13, v14, v15, v16, v17, v18, v19, v20, v21, v22, v23, v24, v25, v26, v27, v28, v29, v30, v31, v32, v33, v34, v35, v36])), (h1, .inl (ty 1, 304, .inl (upd (upd (kf 0) 1 2) 4 (-1))))] H := hP
      have hD : va_D A [(h0, .inr (12, [v0, .ref h1, v1, v2, v3, v4, v5, v6, v7, v8, v9, v10, v11, v12, v13, v14, v15, v16, v17, v18, v19, v20, v21, v22, v23, v24, v25, v26, v27, v28, v29, v30, v31, v32, v33, v34, v35, v36])), (h1, .inl (ty 1, 304, .inl (upd (upd (kf 0) 1 2) 4 (-1))))] := hD
      refine lv_if_eq (tgt := 27) hx hb dX12_walk_12 (by decide) (fun h9 => absurd h9 (by decide)) (fun _ => ?_)
      refine lv_iload_n hx hb dX12_walk_15 rfl (lv_at hl 3 rfl) ?_
      refine lv_i2l (v := (Int32.toInt64 p2)) hx hb dX12_walk_16 rfl ?_
      refine lv_lconst (v := 0) hx hb dX12_walk_17 (by decide) ?_
      refine lv_ldc2 hx hb hown (hB _ mw_542) dX12_walk_18 ?_
      refine kc_i (va_runS (As := [.long (Int32.toInt64 p2), .long 0, .long 100]) (rest := []) ⟨hx, hb, hml, hown, hB⟩ (c_in l D ty H.size (Int32.toInt64 p2) 0 100) (va_cwS 3 hB (bw_S mw_445 mw_446 mw_211 mw_444) rfl rfl rfl (by decide +kernel) ⟨Nat.le_of_ble_eq_true rfl, Nat.le_of_ble_eq_true rfl⟩) (kp_S hK hP hD [] (by decide) rfl) rfl rfl hl.1 rfl (lv_room (Nat.le_of_ble_eq_true rfl)) dX12_walk_21 ⟨Nat.le_of_ble_eq_true rfl, Nat.le_of_ble_eq_true rfl⟩) hP hD hS hA [] [0, 1] (wr := [(h0, .inr (12, [v0, .ref h1, v1, v2, v3, v4, v5, v6, v7, v8, v9, v10, v11, v12, v13, v14, v15, v16, v17, v18, v19, v20, v21, v22, v23, v24, v25, v26, v27, v28, v29, v30, v31, v32, v33, v34, v35, v36])), (h1, .inl (ty 1, 304, .inl (upd (upd (kf 0) 1 2) 4 (-1))))]) rfl rfl (by decide) (by decide) (fun r u H locs w7 hP hD hS => ?_)
      rcases w7 with ⟨c8, rfl, rfl⟩ | ⟨c9, rfl, rfl⟩
      · have hP : va_P D vwCl [(h0, .inr (12, [v0, .ref h1, v1, v2, v3, v4, v5, v6, v7, v8, v9, v10, v11, v12, v13, v14, v15, v16, v17, v18, v19, v20, v21, v22, v23, v24, v25, v26, v27, v28, v29, v30, v31, v32, v33, v34, v35, v36])), (h1, .inl (ty 1, 304, .inl (upd (upd (kf 0) 1 2) 4 (-1))))] H := hP
        have hD : va_D A [(h0, .inr (12, [v0, .ref h1, v1, v2, v3, v4, v5, v6, v7, v8, v9, v10, v11, v12, v13, v14, v15, v16, v17, v18, v19, v20, v21, v22, v23, v24, v25, v26, v27, v28, v29, v30, v31, v32, v33, v34, v35, v36])), (h1, .inl (ty 1, 304, .inl (upd (upd (kf 0) 1 2) 4 (-1))))] := hD
        refine lv_if_ne (tgt := 30) hx hb dX12_walk_24 (by decide) (fun _ => ?_) (fun h9 => absurd h9 (by decide))
        refine lv_aload_n hx hb dX12_walk_30 rfl (lv_at hl 0 rfl) ?_
        refine lv_iload_n hx hb dX12_walk_31 rfl (lv_at hl 1 rfl) ?_
        refine kc_v (va_runV (As := [.int p0]) (rest := []) ⟨hx, hb, hml, hown, hB⟩ (c156_X12_tries l D ty H.size h0 h1 p0 v0 v1 v2 v3 v4 v5 v6 v7 v8 v9 v10 v11 v12 v13 v14 v15 v16 v17 v18 v19 v20 v21 v22 v23 v24 v25 v26 v27 v28 v29 v30 v31 v32 v33 v34 v35 v36) (cwV 1 hB (bw_V mw_480 mw_481 mw_482 mw_211 mw_479) rfl rfl rfl (by decide +kernel) ⟨Nat.le_of_ble_eq_true rfl, Nat.le_of_ble_eq_true rfl⟩) (kp_V hK hP hD [0, 1] (by decide) rfl 0 rfl rfl rfl) rfl rfl hl.1 rfl (lv_room (Nat.le_of_ble_eq_true rfl)) dX12_walk_32 ⟨Nat.le_of_ble_eq_true rfl, Nat.le_of_ble_eq_true rfl⟩) hP hD hS hA [0, 1] [] (wr := []) rfl rfl (by decide) (by decide) (fun u H locs w10 hP hD hS => ?_)
        subst w10
        have hP : va_P D vwCl [(h0, .inr (12, [v0, .ref h1, v1, v2, v3, v4, v5, v6, v7, v8, v9, v10, v11, v12, v13, v14, v15, v16, v17, v18, v19, v20, v21, v22, v23, v24, v25, v26, v27, v28, v29, v30, v31, v32, v33, v34, v35, v36])), (h1, .inl (ty 1, 304, .inl (upd (upd (kf 0) 1 2) 4 (-1))))] H := hP
        have hD : va_D A [(h0, .inr (12, [v0, .ref h1, v1, v2, v3, v4, v5, v6, v7, v8, v9, v10, v11, v12, v13, v14, v15, v16, v17, v18, v19, v20, v21, v22, v23, v24, v25, v26, v27, v28, v29, v30, v31, v32, v33, v34, v35, v36])), (h1, .inl (ty 1, 304, .inl (upd (upd (kf 0) 1 2) 4 (-1))))] := hD
        refine lv_iload_n hx hb dX12_walk_35 rfl (lv_at hl 2 rfl) ?_
        refine lv_istore (lv' := [(4, .int p1), (0, .ref h0), (1, .int p0), (2, .int p1), (3, .int p2)]) hx hb dX12_walk_36 hl (by decide) rfl (fun ls hl => ?_)
        refine lv_iconst (v := (-1)) hx hb dX12_walk_38 (by decide) ?_
        refine lv_istore (lv' := [(5, .int (-1)), (4, .int p1), (0, .ref h0), (1, .int p0), (2, .int p1), (3, .int p2)]) hx hb dX12_walk_39 hl (by decide) rfl (fun ls hl => ?_)
        refine lv_iconst (v := 0) hx hb dX12_walk_41 (by decide) ?_
        refine lv_istore (lv' := [(6, .int 0), (5, .int (-1)), (4, .int p1), (0, .ref h0), (1, .int p0), (2, .int p1), (3, .int p2)]) hx hb dX12_walk_42 hl (by decide) rfl (fun ls hl => ?_)
        refine lv_iload hx hb dX12_walk_44 (lv_at hl 0 rfl) ?_
        refine lv_iload_n hx hb dX12_walk_46 rfl (lv_at hl 6 rfl) ?_
        refine lv_icmp_ge (tgt := 157) hx hb dX12_walk_47 (by decide) (fun c11 => ?_) (fun c11 => ?_)
        · refine lv_iload hx hb dX12_walk_157 (lv_at hl 2 rfl) ?_
          exact kr_z hx hb hr rfl hlocks hP hD hS [] [] (by decide) rfl (Or.inl ⟨(Or.inl ⟨c2, c5, c8, c11⟩), rfl, rfl⟩) (by decide) (by decide) dX12_walk_159
        · refine lv_iconst (v := (-1)) hx hb dX12_walk_50 (by decide) ?_
          refine lv_istore (lv' := [(7, .int (-1)), (6, .int 0), (5, .int (-1)), (4, .int p1), (0, .ref h0), (1, .int p0), (2, .int p1), (3, .int p2)]) hx hb dX12_walk_51 hl (by decide) rfl (fun ls hl => ?_)
          refine lv_aload_n hx hb dX12_walk_53 rfl (lv_at hl 4 rfl) ?_
          refine kc_i (va_runV (As := []) (rest := []) ⟨hx, hb, hml, hown, hB⟩ (c146_X12_alleys l D ty H.size h0 h1 v0 v1 v2 v3 v4 v5 v6 v7 v8 v9 v10 v11 v12 v13 v14 v15 v16 v17 v18 v19 v20 v21 v22 v23 v24 v25 v26 v27 v28 v29 v30 v31 v32 v33 v34 v35 v36) (cwV 0 hB (bw_V mw_465 mw_466 mw_467 mw_211 mw_464) rfl rfl rfl (by decide +kernel) ⟨Nat.le_of_ble_eq_true rfl, Nat.le_of_ble_eq_true rfl⟩) (kp_V hK hP hD [0, 1] (by decide) rfl 0 rfl rfl rfl) rfl rfl hl.1 rfl (lv_room (Nat.le_of_ble_eq_true rfl)) dX12_walk_54 ⟨Nat.le_of_ble_eq_true rfl, Nat.le_of_ble_eq_true rfl⟩) hP hD hS hA [0, 1] [] (wr := []) rfl rfl (by decide) (by decide) (fun r u H locs w12 hP hD hS => ?_)
          obtain ⟨rfl, rfl⟩ := w12
          have hP : va_P D vwCl [(h0, .inr (12, [v0, .ref h1, v1, v2, v3, v4, v5, v6, v7, v8, v9, v10, v11, v12, v13, v14, v15, v16, v17, v18, v19, v20, v21, v22, v23, v24, v25, v26, v27, v28, v29, v30, v31, v32, v33, v34, v35, v36])), (h1, .inl (ty 1, 304, .inl (upd (upd (kf 0) 1 2) 4 (-1))))] H := hP
          have hD : va_D A [(h0, .inr (12, [v0, .ref h1, v1, v2, v3, v4, v5, v6, v7, v8, v9, v10, v11, v12, v13, v14, v15, v16, v17, v18, v19, v20, v21, v22, v23, v24, v25, v26, v27, v28, v29, v30, v31, v32, v33, v34, v35, v36])), (h1, .inl (ty 1, 304, .inl (upd (upd (kf 0) 1 2) 4 (-1))))] := hD
          refine lv_iconst (v := 1) hx hb dX12_walk_57 (by decide) ?_
          refine lv_isub hx hb dX12_walk_58 ?_
          refine tp_i (v := (-1)) (by decide) ?_
          refine lv_istore (lv' := [(8, .int (-1)), (7, .int (-1)), (6, .int 0), (5, .int (-1)), (4, .int p1), (0, .ref h0), (1, .int p0), (2, .int p1), (3, .int p2)]) hx hb dX12_walk_59 hl (by decide) rfl (fun ls hl => ?_)
          refine lv_iload hx hb dX12_walk_61 (lv_at hl 0 rfl) ?_
          refine lv_if_lt (tgt := 100) hx hb dX12_walk_63 (by decide) (fun _ => ?_) (fun h9 => absurd (by decide) h9)
          refine lv_iload hx hb dX12_walk_100 (lv_at hl 1 rfl) ?_
          refine lv_iconst (v := (-1)) hx hb dX12_walk_102 (by decide) ?_
          refine lv_icmp_ne (tgt := 128) hx hb dX12_walk_103 (by decide) (fun h9 => absurd (by decide) h9) (fun _ => ?_)
          refine lv_iload hx hb dX12_walk_106 (lv_at hl 3 rfl) ?_
          refine lv_iconst (v := (-1)) hx hb dX12_walk_108 (by decide) ?_
          refine lv_icmp_eq (tgt := 128) hx hb dX12_walk_109 (by decide) (fun _ => ?_) (fun h9 => absurd (by decide) h9)
          refine lv_iload hx hb dX12_walk_128 (lv_at hl 1 rfl) ?_
          refine lv_iconst (v := (-1)) hx hb dX12_walk_130 (by decide) ?_
          refine lv_icmp_ne (tgt := 137) hx hb dX12_walk_131 (by decide) (fun h9 => absurd (by decide) h9) (fun _ => ?_)
          refine lv_iload hx hb dX12_walk_134 (lv_at hl 4 rfl) ?_
          exact kr_z hx hb hr rfl hlocks hP hD hS [] [] (by decide) rfl (Or.inl ⟨(Or.inr ⟨c2, c5, c8, c11⟩), rfl, rfl⟩) (by decide) (by decide) dX12_walk_136
      · have hP : va_P D vwCl [(h0, .inr (12, [v0, .ref h1, v1, v2, v3, v4, v5, v6, v7, v8, v9, v10, v11, v12, v13, v14, v15, v16, v17, v18, v19, v20, v21, v22, v23, v24, v25, v26, v27, v28, v29, v30, v31, v32, v33, v34, v35, v36])), (h1, .inl (ty 1, 304, .inl (upd (upd (kf 0) 1 2) 4 (-1))))] H := hP
        have hD : va_D A [(h0, .inr (12, [v0, .ref h1, v1, v2, v3, v4, v5, v6, v7, v8, v9, v10, v11, v12, v13, v14, v15, v16, v17, v18, v19, v20, v21, v22, v23, v24, v25, v26, v27, v28, v29, v30, v31, v32, v33, v34, v35, v36])), (h1, .inl (ty 1, 304, .inl (upd (upd (kf 0) 1 2) 4 (-1))))] := hD
        refine lv_if_ne (tgt := 30) hx hb dX12_walk_24 (by decide) (fun h9 => absurd (by decide) h9) (fun _ => ?_)
        refine lv_bipush (v := (-2)) hx hb dX12_walk_27 (by decide) ?_
        exact kr_z hx hb hr rfl hlocks hP hD hS [] [] (by decide) rfl (Or.inr ⟨(Or.inl ⟨c2, c5, c9⟩), rfl, rfl⟩) (by decide) (by decide) dX12_walk_29
    · have hP : va_P D vwCl [(h0, .inr (12, [v0, .ref h1, v1, v2, v3, v4, v5, v6, v7, v8, v9, v10, v11, v12, v13, v14, v15, v16, v17, v18, v19, v20, v21, v22, v23, v24, v25, v26, v27, v28, v29, v30, v31, v32, v33, v34, v35, v36])), (h1, .inl (ty 1, 304, .inl (upd (upd (kf 0) 1 2) 4 (-1))))] H := hP
      have hD : va_D A [(h0, .inr (12, [v0, .ref h1, v1, v2, v3, v4, v5, v6, v7, v8, v9, v10, v11, v12, v13, v14, v15, v16, v17, v18, v19, v20, v21, v22, v23, v24, v25, v26, v27, v28, v29, v30, v31, v32, v33, v34, v35, v36])), (h1, .inl (ty 1, 304, .inl (upd (upd (kf 0) 1 2) 4 (-1))))] := hD
      refine lv_if_eq (tgt := 27) hx hb dX12_walk_12 (by decide) (fun _ => ?_) (fun h9 => absurd (by decide) h9)
      refine lv_bipush (v := (-2)) hx hb dX12_walk_27 (by decide) ?_
      exact kr_z hx hb hr rfl hlocks hP hD hS [] [] (by decide) rfl (Or.inr ⟨(Or.inr (Or.inl ⟨c2, c6⟩)), rfl, rfl⟩) (by decide) (by decide) dX12_walk_29
  · have hP : va_P D vwCl [(h0, .inr (12, [v0, .ref h1, v1, v2, v3, v4, v5, v6, v7, v8, v9, v10, v11, v12, v13, v14, v15, v16, v17, v18, v19, v20, v21, v22, v23, v24, v25, v26, v27, v28, v29, v30, v31, v32, v33, v34, v35, v36])), (h1, .inl (ty 1, 304, .inl (upd (upd (kf 0) 1 2) 4 (-1))))] H := hP
    have hD : va_D A [(h0, .inr (12, [v0, .ref h1, v1, v2, v3, v4, v5, v6, v7, v8, v9, v10, v11, v12, v13, v14, v15, v16, v17, v18, v19, v20, v21, v22, v23, v24, v25, v26, v27, v28, v29, v30, v31, v32, v33, v34, v35, v36])), (h1, .inl (ty 1, 304, .inl (upd (upd (kf 0) 1 2) 4 (-1))))] := hD
    refine lv_if_eq (tgt := 27) hx hb dX12_walk_4 (by decide) (fun _ => ?_) (fun h9 => absurd (by decide) h9)
    refine lv_bipush (v := (-2)) hx hb dX12_walk_27 (by decide) ?_
    exact kr_z hx hb hr rfl hlocks hP hD hS [] [] (by decide) rfl (Or.inr ⟨(Or.inr (Or.inr c3)), rfl, rfl⟩) (by decide) (by decide) dX12_walk_29
set_option maxHeartbeats 4000000 in
set_option maxRecDepth 100000 in
theorem c208_X12_change (l : Launch) (D : va_G) (ty : Nat → ClassId) (sz : Nat) (h0 : Nat) (h1 : Nat) (v0 : Value) (v1 : Value) (v2 : Value) (v3 : Value) (v4 : Value) (v5 : Value) (v6 : Value) (v7 : Value) (v8 : Value) (v9 : Value) (v10 : Value) (v11 : Value) (v12 : Value) (v13 : Value) (v14 : Value) (v15 : Value) (v16 : Value) (v17 : Value) (v18 : Value) (v19 : Value) (v20 : Value) (v21 : Value) (v22 : Value) (v23 : Value) (v24 : Value) (v25 : Value) (v26 : Value) (v27 : Value) (v28 : Value) (v29 : Value) (v30 : Value) (v31 : Value) (v32 : Value) (v33 : Value) (v34 : Value) (v35 : Value) (v36 : Value) : cQ l yX12_change cX12_change 3 (some .int) 1 20 [.ref h0] D ty [(h0, .inr (12, [v0, .ref h1, v1, v2, v3, v4, v5, v6, v7, v8, v9, v10, v11, v12, v13, v14, v15, v16, v17, v18, v19, v20, v21, v22, v23, v24, v25, v26, v27, v28, v29, v30, v31, v32, v33, v34, v35, v36])), (h1, .inl (ty 1, 304, .inl (upd (upd (kf 0) 1 2) 4 (-1))))] sz (qI (fun (r : Int32) (u : va_W) => 0 = r ∧ [] = u)) 0 0 := by
  refine cQ.of (by decide) (Nat.le_of_ble_eq_true rfl) (fun p e s m below meth c A ls C hsz hP hK hD hA hl => ?_)
  obtain ⟨hx, hb, hml, hown, hB, hr, hlocks, hin⟩ := C
  have hown : s.vm.findClass RX12 = some m.cls := hown
  have hS : va_S A s.heap s.heap [] := va_S.rf
  have hl : lv_has ls 3 [(0, .ref h0)] := hl
  refine lv_iconst (v := 0) hx hb dX12_change_0 (by decide) ?_
  refine lv_istore_n (lv' := [(1, .int 0), (0, .ref h0)]) hx hb dX12_change_1 rfl hl (by decide) rfl (fun ls hl => ?_)
  refine lv_iconst (v := 0) hx hb dX12_change_2 (by decide) ?_
  refine lv_istore_n (lv' := [(2, .int 0), (1, .int 0), (0, .ref h0)]) hx hb dX12_change_3 rfl hl (by decide) rfl (fun ls hl => ?_)
  refine lv_iload_n hx hb dX12_change_4 rfl (lv_at hl 0 rfl) ?_
  refine lv_aload_n hx hb dX12_change_5 rfl (lv_at hl 2 rfl) ?_
  refine kc_i (va_runV (As := []) (rest := [.int 0]) ⟨hx, hb, hml, hown, hB⟩ (c146_X12_alleys l D ty s.heap.size h0 h1 v0 v1 v2 v3 v4 v5 v6 v7 v8 v9 v10 v11 v12 v13 v14 v15 v16 v17 v18 v19 v20 v21 v22 v23 v24 v25 v26 v27 v28 v29 v30 v31 v32 v33 v34 v35 v36) (cwV 0 hB (bw_V mw_465 mw_466 mw_467 mw_211 mw_464) rfl rfl rfl (by decide +kernel) ⟨Nat.le_of_ble_eq_true rfl, Nat.le_of_ble_eq_true rfl⟩) (kp_V hK hP hD [0, 1] (by decide) rfl 0 rfl rfl rfl) rfl rfl hl.1 rfl (lv_room (Nat.le_of_ble_eq_true rfl)) dX12_change_6 ⟨Nat.le_of_ble_eq_true rfl, Nat.le_of_ble_eq_true rfl⟩) hP hD hS hA [0, 1] [] (wr := []) rfl rfl (by decide) (by decide) (fun r u H locs w1 hP hD hS => ?_)
  obtain ⟨rfl, rfl⟩ := w1
  have hP : va_P D vwCl [(h0, .inr (12, [v0, .ref h1, v1, v2, v3, v4, v5, v6, v7, v8, v9, v10, v11, v12, v13, v14, v15, v16, v17, v18, v19, v20, v21, v22, v23, v24, v25, v26, v27, v28, v29, v30, v31, v32, v33, v34, v35, v36])), (h1, .inl (ty 1, 304, .inl (upd (upd (kf 0) 1 2) 4 (-1))))] H := hP
  have hD : va_D A [(h0, .inr (12, [v0, .ref h1, v1, v2, v3, v4, v5, v6, v7, v8, v9, v10, v11, v12, v13, v14, v15, v16, v17, v18, v19, v20, v21, v22, v23, v24, v25, v26, v27, v28, v29, v30, v31, v32, v33, v34, v35, v36])), (h1, .inl (ty 1, 304, .inl (upd (upd (kf 0) 1 2) 4 (-1))))] := hD
  refine lv_icmp_ge (tgt := 41) hx hb dX12_change_9 (by decide) (fun _ => ?_) (fun h9 => absurd (by decide) h9)
  refine lv_iload_n hx hb dX12_change_41 rfl (lv_at hl 1 rfl) ?_
  exact kr_z hx hb hr rfl hlocks hP hD hS [] [] (by decide) rfl ⟨rfl, rfl⟩ (by decide) (by decide) dX12_change_42
set_option maxHeartbeats 4000000 in
set_option maxRecDepth 100000 in
theorem c210_X12_signsNow (l : Launch) (D : va_G) (ty : Nat → ClassId) (sz : Nat) (h0 : Nat) (h1 : Nat) (v0 : Value) (v1 : Value) (v2 : Value) (v3 : Value) (v4 : Value) (v5 : Value) (v6 : Value) (v7 : Value) (v8 : Value) (v9 : Value) (v10 : Value) (v11 : Value) (v12 : Value) (v13 : Value) (v14 : Value) (v15 : Value) (v16 : Value) (v17 : Value) (v18 : Value) (v19 : Value) (v20 : Value) (v21 : Value) (v22 : Value) (v23 : Value) (v24 : Value) (v25 : Value) (v26 : Value) (v27 : Value) (v28 : Value) (v29 : Value) (v30 : Value) (v31 : Value) (v32 : Value) (v33 : Value) (v34 : Value) (v35 : Value) (v36 : Value) : cQ l yX12_signsNow cX12_signsNow 6 (some .int) 1 20 [.ref h0] D ty [(h0, .inr (12, [v0, .ref h1, v1, v2, v3, v4, v5, v6, v7, v8, v9, v10, v11, v12, v13, v14, v15, v16, v17, v18, v19, v20, v21, v22, v23, v24, v25, v26, v27, v28, v29, v30, v31, v32, v33, v34, v35, v36])), (h1, .inl (ty 1, 304, .inl (upd (upd (kf 0) 1 2) 4 (-1))))] sz (qI (fun (r : Int32) (u : va_W) => 0 = r ∧ [(h0, .inr (12, [v0, .ref h1, v1, v2, v3, v4, v5, v6, v7, v8, v9, v10, v11, v12, v13, v14, v15, v16, v17, v18, v19, v20, v21, v22, v23, v24, v25, v26, v27, v28, v29, v30, v31, v32, v33, v34, v35, v36])), (h1, .inl (ty 1, 304, .inl (upd (upd (kf 0) 1 2) 4 (-1))))] = u)) 0 0 := by
  refine cQ.of (by decide) (Nat.le_of_ble_eq_true rfl) (fun p e s m below meth c A ls C hsz hP hK hD hA hl => ?_)
  obtain ⟨hx, hb, hml, hown, hB, hr, hlocks, hin⟩ := C
  have hown : s.vm.findClass RX12 = some m.cls := hown
  have hS : va_S A s.heap s.heap [] := va_S.rf
  have hl : lv_has ls 6 [(0, .ref h0)] := hl
  refine lv_iconst (v := 0) hx hb dX12_signsNow_0 (by decide) ?_
  refine lv_istore_n (lv' := [(1, .int 0), (0, .ref h0)]) hx hb dX12_signsNow_1 rfl hl (by decide) rfl (fun ls hl => ?_)
  refine lv_iconst (v := 0) hx hb dX12_signsNow_2 (by decide) ?_
  refine lv_istore_n (lv' := [(2, .int 0), (1, .int 0), (0, .ref h0)]) hx hb dX12_signsNow_3 rfl hl (by decide) rfl (fun ls hl => ?_)
  refine lv_iload_n hx hb dX12_signsNow_4 rfl (lv_at hl 0 rfl) ?_
  refine lv_aload_n hx hb dX12_signsNow_5 rfl (lv_at hl 2 rfl) ?_
  refine kc_i (va_runV (As := []) (rest := [.int 0]) ⟨hx, hb, hml, hown, hB⟩ (c160_X12_corners l D ty s.heap.size h0 h1 v0 v1 v2 v3 v4 v5 v6 v7 v8 v9 v10 v11 v12 v13 v14 v15 v16 v17 v18 v19 v20 v21 v22 v23 v24 v25 v26 v27 v28 v29 v30 v31 v32 v33 v34 v35 v36) (cwV 0 hB (bw_V mw_484 mw_485 mw_486 mw_211 mw_483) rfl rfl rfl (by decide +kernel) ⟨Nat.le_of_ble_eq_true rfl, Nat.le_of_ble_eq_true rfl⟩) (kp_V hK hP hD [0, 1] (by decide) rfl 0 rfl rfl rfl) rfl rfl hl.1 rfl (lv_room (Nat.le_of_ble_eq_true rfl)) dX12_signsNow_6 ⟨Nat.le_of_ble_eq_true rfl, Nat.le_of_ble_eq_true rfl⟩) hP hD hS hA [0, 1] [] (wr := []) rfl rfl (by decide) (by decide) (fun r u H locs w1 hP hD hS => ?_)
  obtain ⟨rfl, rfl⟩ := w1
  have hP : va_P D vwCl [(h0, .inr (12, [v0, .ref h1, v1, v2, v3, v4, v5, v6, v7, v8, v9, v10, v11, v12, v13, v14, v15, v16, v17, v18, v19, v20, v21, v22, v23, v24, v25, v26, v27, v28, v29, v30, v31, v32, v33, v34, v35, v36])), (h1, .inl (ty 1, 304, .inl (upd (upd (kf 0) 1 2) 4 (-1))))] H := hP
  have hD : va_D A [(h0, .inr (12, [v0, .ref h1, v1, v2, v3, v4, v5, v6, v7, v8, v9, v10, v11, v12, v13, v14, v15, v16, v17, v18, v19, v20, v21, v22, v23, v24, v25, v26, v27, v28, v29, v30, v31, v32, v33, v34, v35, v36])), (h1, .inl (ty 1, 304, .inl (upd (upd (kf 0) 1 2) 4 (-1))))] := hD
  refine lv_icmp_ge (tgt := 104) hx hb dX12_signsNow_9 (by decide) (fun h9 => absurd h9 (by decide)) (fun _ => ?_)
  refine lv_iconst (v := 0) hx hb dX12_signsNow_12 (by decide) ?_
  refine lv_istore_n (lv' := [(3, .int 0), (2, .int 0), (1, .int 0), (0, .ref h0)]) hx hb dX12_signsNow_13 rfl hl (by decide) rfl (fun ls hl => ?_)
  refine lv_iconst (v := 0) hx hb dX12_signsNow_14 (by decide) ?_
  refine lv_istore (lv' := [(4, .int 0), (3, .int 0), (2, .int 0), (1, .int 0), (0, .ref h0)]) hx hb dX12_signsNow_15 hl (by decide) rfl (fun ls hl => ?_)
  refine lv_iconst (v := 0) hx hb dX12_signsNow_17 (by decide) ?_
  refine lv_istore (lv' := [(5, .int 0), (4, .int 0), (3, .int 0), (2, .int 0), (1, .int 0), (0, .ref h0)]) hx hb dX12_signsNow_18 hl (by decide) rfl (fun ls hl => ?_)
  refine lv_iload hx hb dX12_signsNow_20 (lv_at hl 0 rfl) ?_
  refine lv_aload_n hx hb dX12_signsNow_22 rfl (lv_at hl 5 rfl) ?_
  refine kc_i (va_runV (As := []) (rest := [.int 0]) ⟨hx, hb, hml, hown, hB⟩ (c146_X12_alleys l D ty H.size h0 h1 v0 v1 v2 v3 v4 v5 v6 v7 v8 v9 v10 v11 v12 v13 v14 v15 v16 v17 v18 v19 v20 v21 v22 v23 v24 v25 v26 v27 v28 v29 v30 v31 v32 v33 v34 v35 v36) (cwV 0 hB (bw_V mw_465 mw_466 mw_467 mw_211 mw_464) rfl rfl rfl (by decide +kernel) ⟨Nat.le_of_ble_eq_true rfl, Nat.le_of_ble_eq_true rfl⟩) (kp_V hK hP hD [0, 1] (by decide) rfl 0 rfl rfl rfl) rfl rfl hl.1 rfl (lv_room (Nat.le_of_ble_eq_true rfl)) dX12_signsNow_23 ⟨Nat.le_of_ble_eq_true rfl, Nat.le_of_ble_eq_true rfl⟩) hP hD hS hA [0, 1] [] (wr := []) rfl rfl (by decide) (by decide) (fun r u H locs w2 hP hD hS => ?_)
  obtain ⟨rfl, rfl⟩ := w2
  have hP : va_P D vwCl [(h0, .inr (12, [v0, .ref h1, v1, v2, v3, v4, v5, v6, v7, v8, v9, v10, v11, v12, v13, v14, v15, v16, v17, v18, v19, v20, v21, v22, v23, v24, v25, v26, v27, v28, v29, v30, v31, v32, v33, v34, v35, v36])), (h1, .inl (ty 1, 304, .inl (upd (upd (kf 0) 1 2) 4 (-1))))] H := hP
  have hD : va_D A [(h0, .inr (12, [v0, .ref h1, v1, v2, v3, v4, v5, v6, v7, v8, v9, v10, v11, v12, v13, v14, v15, v16, v17, v18, v19, v20, v21, v22, v23, v24, v25, v26, v27, v28, v29, v30, v31, v32, v33, v34, v35, v36])), (h1, .inl (ty 1, 304, .inl (upd (upd (kf 0) 1 2) 4 (-1))))] := hD
  refine lv_icmp_ge (tgt := 80) hx hb dX12_signsNow_26 (by decide) (fun _ => ?_) (fun h9 => absurd (by decide) h9)
  refine lv_iload_n hx hb dX12_signsNow_80 rfl (lv_at hl 4 rfl) ?_
  refine lv_iload_n hx hb dX12_signsNow_81 rfl (lv_at hl 2 rfl) ?_
  refine lv_if_le (tgt := 95) hx hb dX12_signsNow_82 (by decide) (fun _ => ?_) (fun h9 => absurd (by decide) h9)
  refine lv_iload_n hx hb dX12_signsNow_95 rfl (lv_at hl 2 rfl) ?_
  refine lv_iadd hx hb dX12_signsNow_96 ?_
  refine tp_i (v := 0) (by decide) ?_
  refine lv_istore_n (lv' := [(1, .int 0), (5, .int 0), (4, .int 0), (3, .int 0), (2, .int 0), (0, .ref h0)]) hx hb dX12_signsNow_97 rfl hl (by decide) rfl (fun ls hl => ?_)
  refine lv_iinc (v := 1) (lv' := [(2, .int 1), (1, .int 0), (5, .int 0), (4, .int 0), (3, .int 0), (0, .ref h0)]) hx hb dX12_signsNow_98 hl (k := 4) rfl (by decide) (by decide) rfl (fun ls hl => ?_)
  refine lv_goto (tgt := 4) hx hb dX12_signsNow_101 (by decide) ?_
  refine lv_iload_n hx hb dX12_signsNow_4 rfl (lv_at hl 0 rfl) ?_
  refine lv_aload_n hx hb dX12_signsNow_5 rfl (lv_at hl 5 rfl) ?_
  refine kc_i (va_runV (As := []) (rest := [.int 1]) ⟨hx, hb, hml, hown, hB⟩ (c160_X12_corners l D ty H.size h0 h1 v0 v1 v2 v3 v4 v5 v6 v7 v8 v9 v10 v11 v12 v13 v14 v15 v16 v17 v18 v19 v20 v21 v22 v23 v24 v25 v26 v27 v28 v29 v30 v31 v32 v33 v34 v35 v36) (cwV 0 hB (bw_V mw_484 mw_485 mw_486 mw_211 mw_483) rfl rfl rfl (by decide +kernel) ⟨Nat.le_of_ble_eq_true rfl, Nat.le_of_ble_eq_true rfl⟩) (kp_V hK hP hD [0, 1] (by decide) rfl 0 rfl rfl rfl) rfl rfl hl.1 rfl (lv_room (Nat.le_of_ble_eq_true rfl)) dX12_signsNow_6 ⟨Nat.le_of_ble_eq_true rfl, Nat.le_of_ble_eq_true rfl⟩) hP hD hS hA [0, 1] [] (wr := []) rfl rfl (by decide) (by decide) (fun r u H locs w3 hP hD hS => ?_)
  obtain ⟨rfl, rfl⟩ := w3
  have hP : va_P D vwCl [(h0, .inr (12, [v0, .ref h1, v1, v2, v3, v4, v5, v6, v7, v8, v9, v10, v11, v12, v13, v14, v15, v16, v17, v18, v19, v20, v21, v22, v23, v24, v25, v26, v27, v28, v29, v30, v31, v32, v33, v34, v35, v36])), (h1, .inl (ty 1, 304, .inl (upd (upd (kf 0) 1 2) 4 (-1))))] H := hP
  have hD : va_D A [(h0, .inr (12, [v0, .ref h1, v1, v2, v3, v4, v5, v6, v7, v8, v9, v10, v11, v12, v13, v14, v15, v16, v17, v18, v19, v20, v21, v22, v23, v24, v25, v26, v27, v28, v29, v30, v31, v32, v33, v34, v35, v36])), (h1, .inl (ty 1, 304, .inl (upd (upd (kf 0) 1 2) 4 (-1))))] := hD
  refine lv_icmp_ge (tgt := 104) hx hb dX12_signsNow_9 (by decide) (fun h9 => absurd h9 (by decide)) (fun _ => ?_)
  refine lv_iconst (v := 0) hx hb dX12_signsNow_12 (by decide) ?_
  refine lv_istore_n (lv' := [(3, .int 0), (2, .int 1), (1, .int 0), (5, .int 0), (4, .int 0), (0, .ref h0)]) hx hb dX12_signsNow_13 rfl hl (by decide) rfl (fun ls hl => ?_)
  refine lv_iconst (v := 0) hx hb dX12_signsNow_14 (by decide) ?_
  refine lv_istore (lv' := [(4, .int 0), (3, .int 0), (2, .int 1), (1, .int 0), (5, .int 0), (0, .ref h0)]) hx hb dX12_signsNow_15 hl (by decide) rfl (fun ls hl => ?_)
  refine lv_iconst (v := 0) hx hb dX12_signsNow_17 (by decide) ?_
  refine lv_istore (lv' := [(5, .int 0), (4, .int 0), (3, .int 0), (2, .int 1), (1, .int 0), (0, .ref h0)]) hx hb dX12_signsNow_18 hl (by decide) rfl (fun ls hl => ?_)
  refine lv_iload hx hb dX12_signsNow_20 (lv_at hl 0 rfl) ?_
  refine lv_aload_n hx hb dX12_signsNow_22 rfl (lv_at hl 5 rfl) ?_
  refine kc_i (va_runV (As := []) (rest := [.int 0]) ⟨hx, hb, hml, hown, hB⟩ (c146_X12_alleys l D ty H.size h0 h1 v0 v1 v2 v3 v4 v5 v6 v7 v8 v9 v10 v11 v12 v13 v14 v15 v16 v17 v18 v19 v20 v21 v22 v23 v24 v25 v26 v27 v28 v29 v30 v31 v32 v33 v34 v35 v36) (cwV 0 hB (bw_V mw_465 mw_466 mw_467 mw_211 mw_464) rfl rfl rfl (by decide +kernel) ⟨Nat.le_of_ble_eq_true rfl, Nat.le_of_ble_eq_true rfl⟩) (kp_V hK hP hD [0, 1] (by decide) rfl 0 rfl rfl rfl) rfl rfl hl.1 rfl (lv_room (Nat.le_of_ble_eq_true rfl)) dX12_signsNow_23 ⟨Nat.le_of_ble_eq_true rfl, Nat.le_of_ble_eq_true rfl⟩) hP hD hS hA [0, 1] [] (wr := []) rfl rfl (by decide) (by decide) (fun r u H locs w4 hP hD hS => ?_)
  obtain ⟨rfl, rfl⟩ := w4
  have hP : va_P D vwCl [(h0, .inr (12, [v0, .ref h1, v1, v2, v3, v4, v5, v6, v7, v8, v9, v10, v11, v12, v13, v14, v15, v16, v17, v18, v19, v20, v21, v22, v23, v24, v25, v26, v27, v28, v29, v30, v31, v32, v33, v34, v35, v36])), (h1, .inl (ty 1, 304, .inl (upd (upd (kf 0) 1 2) 4 (-1))))] H := hP
  have hD : va_D A [(h0, .inr (12, [v0, .ref h1, v1, v2, v3, v4, v5, v6, v7, v8, v9, v10, v11, v12, v13, v14, v15, v16, v17, v18, v19, v20, v21, v22, v23, v24, v25, v26, v27, v28, v29, v30, v31, v32, v33, v34, v35, v36])), (h1, .inl (ty 1, 304, .inl (upd (upd (kf 0) 1 2) 4 (-1))))] := hD
  refine lv_icmp_ge (tgt := 80) hx hb dX12_signsNow_26 (by decide) (fun _ => ?_) (fun h9 => absurd (by decide) h9)
  refine lv_iload_n hx hb dX12_signsNow_80 rfl (lv_at hl 4 rfl) ?_
  refine lv_iload_n hx hb dX12_signsNow_81 rfl (lv_at hl 2 rfl) ?_
  refine lv_if_le (tgt := 95) hx hb dX12_signsNow_82 (by decide) (fun _ => ?_) (fun h9 => absurd (by decide) h9)
  refine lv_iload_n hx hb dX12_signsNow_95 rfl (lv_at hl 2 rfl) ?_
  refine lv_iadd hx hb dX12_signsNow_96 ?_
  refine tp_i (v := 0) (by decide) ?_
  refine lv_istore_n (lv' := [(1, .int 0), (5, .int 0), (4, .int 0), (3, .int 0), (2, .int 1), (0, .ref h0)]) hx hb dX12_signsNow_97 rfl hl (by decide) rfl (fun ls hl => ?_)
  refine lv_iinc (v := 2) (lv' := [(2, .int 2), (1, .int 0), (5, .int 0), (4, .int 0), (3, .int 0), (0, .ref h0)]) hx hb dX12_signsNow_98 hl (k := 4) rfl (by decide) (by decide) rfl (fun ls hl => ?_)
  refine lv_goto (tgt := 4) hx hb dX12_signsNow_101 (by decide) ?_
  refine lv_iload_n hx hb dX12_signsNow_4 rfl (lv_at hl 0 rfl) ?_
  refine lv_aload_n hx hb dX12_signsNow_5 rfl (lv_at hl 5 rfl) ?_
  refine kc_i (va_runV (As := []) (rest := [.int 2]) ⟨hx, hb, hml, hown, hB⟩ (c160_X12_corners l D ty H.size h0 h1 v0 v1 v2 v3 v4 v5 v6 v7 v8 v9 v10 v11 v12 v13 v14 v15 v16 v17 v18 v19 v20 v21 v22 v23 v24 v25 v26 v27 v28 v29 v30 v31 v32 v33 v34 v35 v36) (cwV 0 hB (bw_V mw_484 mw_485 mw_486 mw_211 mw_483) rfl rfl rfl (by decide +kernel) ⟨Nat.le_of_ble_eq_true rfl, Nat.le_of_ble_eq_true rfl⟩) (kp_V hK hP hD [0, 1] (by decide) rfl 0 rfl rfl rfl) rfl rfl hl.1 rfl (lv_room (Nat.le_of_ble_eq_true rfl)) dX12_signsNow_6 ⟨Nat.le_of_ble_eq_true rfl, Nat.le_of_ble_eq_true rfl⟩) hP hD hS hA [0, 1] [] (wr := []) rfl rfl (by decide) (by decide) (fun r u H locs w5 hP hD hS => ?_)
  obtain ⟨rfl, rfl⟩ := w5
  have hP : va_P D vwCl [(h0, .inr (12, [v0, .ref h1, v1, v2, v3, v4, v5, v6, v7, v8, v9, v10, v11, v12, v13, v14, v15, v16, v17, v18, v19, v20, v21, v22, v23, v24, v25, v26, v27, v28, v29, v30, v31, v32, v33, v34, v35, v36])), (h1, .inl (ty 1, 304, .inl (upd (upd (kf 0) 1 2) 4 (-1))))] H := hP
  have hD : va_D A [(h0, .inr (12, [v0, .ref h1, v1, v2, v3, v4, v5, v6, v7, v8, v9, v10, v11, v12, v13, v14, v15, v16, v17, v18, v19, v20, v21, v22, v23, v24, v25, v26, v27, v28, v29, v30, v31, v32, v33, v34, v35, v36])), (h1, .inl (ty 1, 304, .inl (upd (upd (kf 0) 1 2) 4 (-1))))] := hD
  refine lv_icmp_ge (tgt := 104) hx hb dX12_signsNow_9 (by decide) (fun _ => ?_) (fun h9 => absurd (by decide) h9)
  refine lv_iload_n hx hb dX12_signsNow_104 rfl (lv_at hl 1 rfl) ?_
  exact kr_z hx hb hr rfl hlocks hP hD hS [(h0, .inr (12, [v0, .ref h1, v1, v2, v3, v4, v5, v6, v7, v8, v9, v10, v11, v12, v13, v14, v15, v16, v17, v18, v19, v20, v21, v22, v23, v24, v25, v26, v27, v28, v29, v30, v31, v32, v33, v34, v35, v36])), (h1, .inl (ty 1, 304, .inl (upd (upd (kf 0) 1 2) 4 (-1))))] [0, 1] (by decide) rfl ⟨rfl, rfl⟩ (by decide) (by decide) dX12_signsNow_105
set_option maxHeartbeats 4000000 in
set_option maxRecDepth 100000 in
theorem c209_X12_signs (l : Launch) (D : va_G) (ty : Nat → ClassId) (sz : Nat) (h0 : Nat) (h1 : Nat) (p0 : Int32) (v0 : Value) (v1 : Value) (v2 : Value) (v3 : Value) (v4 : Value) (v5 : Value) (v6 : Value) (v7 : Value) (v8 : Value) (v9 : Value) (v10 : Value) (v11 : Value) (v12 : Value) (v13 : Value) (v14 : Value) (v15 : Value) (v16 : Value) (v17 : Value) (v18 : Value) (v19 : Value) (v20 : Value) (v21 : Value) (v22 : Value) (v23 : Value) (v24 : Value) (v25 : Value) (v26 : Value) (v27 : Value) (v28 : Value) (v29 : Value) (v30 : Value) (v31 : Value) (v32 : Value) (v33 : Value) (v34 : Value) (v35 : Value) (v36 : Value) : cQ l yX12_signs cX12_signs 2 (some .int) 2 45 [.ref h0, .int p0] D ty [(h0, .inr (12, [v0, .ref h1, v1, v2, v3, v4, v5, v6, v7, v8, v9, v10, v11, v12, v13, v14, v15, v16, v17, v18, v19, v20, v21, v22, v23, v24, v25, v26, v27, v28, v29, v30, v31, v32, v33, v34, v35, v36])), (h1, .inl (ty 1, 304, .inl (upd (upd (kf 0) 1 2) 4 (-1))))] sz (qI (fun (r : Int32) (u : va_W) => (((((0 ≤ (Int32.toInt64 p0)) ∧ ((Int32.toInt64 p0) ≤ 1)))) ∧ 0 = r ∧ [] = u) ∨ (((((¬ (0 ≤ (Int32.toInt64 p0))) ∨ (¬ ((Int32.toInt64 p0) ≤ 1))))) ∧ (-2) = r ∧ [] = u))) 0 0 := by
  refine cQ.of (by decide) (Nat.le_of_ble_eq_true rfl) (fun p e s m below meth c A ls C hsz hP hK hD hA hl => ?_)
  obtain ⟨hx, hb, hml, hown, hB, hr, hlocks, hin⟩ := C
  have hown : s.vm.findClass RX12 = some m.cls := hown
  have hS : va_S A s.heap s.heap [] := va_S.rf
  have hl : lv_has ls 2 [(0, .ref h0), (1, .int p0)] := hl
  refine lv_iload_n hx hb dX12_signs_0 rfl (lv_at hl 1 rfl) ?_
  refine kc_i (va_runS (As := [.int p0]) (rest := []) ⟨hx, hb, hml, hown, hB⟩ (c149_X12_isGiving l D ty s.heap.size p0) (va_cwS 1 hB (bw_S mw_469 mw_470 mw_211 mw_468) rfl rfl rfl (by decide +kernel) ⟨Nat.le_of_ble_eq_true rfl, Nat.le_of_ble_eq_true rfl⟩) (kp_S hK hP hD [] (by decide) rfl) rfl rfl hl.1 rfl (lv_room (Nat.le_of_ble_eq_true rfl)) dX12_signs_1 ⟨Nat.le_of_ble_eq_true rfl, Nat.le_of_ble_eq_true rfl⟩) hP hD hS hA [] [0, 1] (wr := [(h0, .inr (12, [v0, .ref h1, v1, v2, v3, v4, v5, v6, v7, v8, v9, v10, v11, v12, v13, v14, v15, v16, v17, v18, v19, v20, v21, v22, v23, v24, v25, v26, v27, v28, v29, v30, v31, v32, v33, v34, v35, v36])), (h1, .inl (ty 1, 304, .inl (upd (upd (kf 0) 1 2) 4 (-1))))]) rfl rfl (by decide) (by decide) (fun r u H locs w1 hP hD hS => ?_)
  rcases w1 with ⟨c2, rfl, rfl⟩ | ⟨c3, rfl, rfl⟩
  · have hP : va_P D vwCl [(h0, .inr (12, [v0, .ref h1, v1, v2, v3, v4, v5, v6, v7, v8, v9, v10, v11, v12, v13, v14, v15, v16, v17, v18, v19, v20, v21, v22, v23, v24, v25, v26, v27, v28, v29, v30, v31, v32, v33, v34, v35, v36])), (h1, .inl (ty 1, 304, .inl (upd (upd (kf 0) 1 2) 4 (-1))))] H := hP
    have hD : va_D A [(h0, .inr (12, [v0, .ref h1, v1, v2, v3, v4, v5, v6, v7, v8, v9, v10, v11, v12, v13, v14, v15, v16, v17, v18, v19, v20, v21, v22, v23, v24, v25, v26, v27, v28, v29, v30, v31, v32, v33, v34, v35, v36])), (h1, .inl (ty 1, 304, .inl (upd (upd (kf 0) 1 2) 4 (-1))))] := hD
    refine lv_if_ne (tgt := 10) hx hb dX12_signs_4 (by decide) (fun _ => ?_) (fun h9 => absurd h9 (by decide))
    refine lv_aload_n hx hb dX12_signs_10 rfl (lv_at hl 0 rfl) ?_
    refine lv_iload_n hx hb dX12_signs_11 rfl (lv_at hl 1 rfl) ?_
    refine kc_v (va_runV (As := [.int p0]) (rest := []) ⟨hx, hb, hml, hown, hB⟩ (c156_X12_tries l D ty H.size h0 h1 p0 v0 v1 v2 v3 v4 v5 v6 v7 v8 v9 v10 v11 v12 v13 v14 v15 v16 v17 v18 v19 v20 v21 v22 v23 v24 v25 v26 v27 v28 v29 v30 v31 v32 v33 v34 v35 v36) (cwV 1 hB (bw_V mw_480 mw_481 mw_482 mw_211 mw_479) rfl rfl rfl (by decide +kernel) ⟨Nat.le_of_ble_eq_true rfl, Nat.le_of_ble_eq_true rfl⟩) (kp_V hK hP hD [0, 1] (by decide) rfl 0 rfl rfl rfl) rfl rfl hl.1 rfl (lv_room (Nat.le_of_ble_eq_true rfl)) dX12_signs_12 ⟨Nat.le_of_ble_eq_true rfl, Nat.le_of_ble_eq_true rfl⟩) hP hD hS hA [0, 1] [] (wr := []) rfl rfl (by decide) (by decide) (fun u H locs w4 hP hD hS => ?_)
    subst w4
    have hP : va_P D vwCl [(h0, .inr (12, [v0, .ref h1, v1, v2, v3, v4, v5, v6, v7, v8, v9, v10, v11, v12, v13, v14, v15, v16, v17, v18, v19, v20, v21, v22, v23, v24, v25, v26, v27, v28, v29, v30, v31, v32, v33, v34, v35, v36])), (h1, .inl (ty 1, 304, .inl (upd (upd (kf 0) 1 2) 4 (-1))))] H := hP
    have hD : va_D A [(h0, .inr (12, [v0, .ref h1, v1, v2, v3, v4, v5, v6, v7, v8, v9, v10, v11, v12, v13, v14, v15, v16, v17, v18, v19, v20, v21, v22, v23, v24, v25, v26, v27, v28, v29, v30, v31, v32, v33, v34, v35, v36])), (h1, .inl (ty 1, 304, .inl (upd (upd (kf 0) 1 2) 4 (-1))))] := hD
    refine lv_aload_n hx hb dX12_signs_15 rfl (lv_at hl 0 rfl) ?_
    refine kc_i (va_runV (As := []) (rest := []) ⟨hx, hb, hml, hown, hB⟩ (c210_X12_signsNow l D ty H.size h0 h1 v0 v1 v2 v3 v4 v5 v6 v7 v8 v9 v10 v11 v12 v13 v14 v15 v16 v17 v18 v19 v20 v21 v22 v23 v24 v25 v26 v27 v28 v29 v30 v31 v32 v33 v34 v35 v36) (cwV 0 hB (bw_V mw_544 mw_545 mw_546 mw_211 mw_543) rfl rfl rfl (by decide +kernel) ⟨Nat.le_of_ble_eq_true rfl, Nat.le_of_ble_eq_true rfl⟩) (kp_V hK hP hD [0, 1] (by decide) rfl 0 rfl rfl rfl) rfl rfl hl.1 rfl (lv_room (Nat.le_of_ble_eq_true rfl)) dX12_signs_16 ⟨Nat.le_of_ble_eq_true rfl, Nat.le_of_ble_eq_true rfl⟩) hP hD hS hA [0, 1] [] (wr := []) rfl rfl (by decide) (by decide) (fun r u H locs w5 hP hD hS => ?_)
    obtain ⟨rfl, rfl⟩ := w5
    have hP : va_P D vwCl [(h0, .inr (12, [v0, .ref h1, v1, v2, v3, v4, v5, v6, v7, v8, v9, v10, v11, v12, v13, v14, v15, v16, v17, v18, v19, v20, v21, v22, v23, v24, v25, v26, v27, v28, v29, v30, v31, v32, v33, v34, v35, v36])), (h1, .inl (ty 1, 304, .inl (upd (upd (kf 0) 1 2) 4 (-1))))] H := hP
    have hD : va_D A [(h0, .inr (12, [v0, .ref h1, v1, v2, v3, v4, v5, v6, v7, v8, v9, v10, v11, v12, v13, v14, v15, v16, v17, v18, v19, v20, v21, v22, v23, v24, v25, v26, v27, v28, v29, v30, v31, v32, v33, v34, v35, v36])), (h1, .inl (ty 1, 304, .inl (upd (upd (kf 0) 1 2) 4 (-1))))] := hD
    exact kr_z hx hb hr rfl hlocks hP hD hS [] [] (by decide) rfl (Or.inl ⟨c2, rfl, rfl⟩) (by decide) (by decide) dX12_signs_19
  · have hP : va_P D vwCl [(h0, .inr (12, [v0, .ref h1, v1, v2, v3, v4, v5, v6, v7, v8, v9, v10, v11, v12, v13, v14, v15, v16, v17, v18, v19, v20, v21, v22, v23, v24, v25, v26, v27, v28, v29, v30, v31, v32, v33, v34, v35, v36])), (h1, .inl (ty 1, 304, .inl (upd (upd (kf 0) 1 2) 4 (-1))))] H := hP
    have hD : va_D A [(h0, .inr (12, [v0, .ref h1, v1, v2, v3, v4, v5, v6, v7, v8, v9, v10, v11, v12, v13, v14, v15, v16, v17, v18, v19, v20, v21, v22, v23, v24, v25, v26, v27, v28, v29, v30, v31, v32, v33, v34, v35, v36])), (h1, .inl (ty 1, 304, .inl (upd (upd (kf 0) 1 2) 4 (-1))))] := hD
    refine lv_if_ne (tgt := 10) hx hb dX12_signs_4 (by decide) (fun h9 => absurd (by decide) h9) (fun _ => ?_)
    refine lv_bipush (v := (-2)) hx hb dX12_signs_7 (by decide) ?_
    exact kr_z hx hb hr rfl hlocks hP hD hS [] [] (by decide) rfl (Or.inr ⟨c3, rfl, rfl⟩) (by decide) (by decide) dX12_signs_9
set_option maxHeartbeats 4000000 in
set_option maxRecDepth 100000 in
theorem c211_X12_gone (l : Launch) (D : va_G) (ty : Nat → ClassId) (sz : Nat) (h0 : Nat) (h1 : Nat) (p0 : Int32) (p1 : Int32) (p2 : Int32) (v0 : Value) (v1 : Value) (v2 : Value) (v3 : Value) (v4 : Value) (v5 : Value) (v6 : Value) (v7 : Value) (v8 : Value) (v9 : Value) (v10 : Value) (v11 : Value) (v12 : Value) (v13 : Value) (v14 : Value) (v15 : Value) (v16 : Value) (v17 : Value) (v18 : Value) (v19 : Value) (v20 : Value) (v21 : Value) (v22 : Value) (v23 : Value) (v24 : Value) (v25 : Value) (v26 : Value) (v27 : Value) (v28 : Value) (v29 : Value) (v30 : Value) (v31 : Value) (v32 : Value) (v33 : Value) (v34 : Value) (v35 : Value) (v36 : Value) : cQ l yX12_gone cX12_gone 8 (some .int) 2 46 [.ref h0, .int p0, .int p1, .int p2] D ty [(h0, .inr (12, [v0, .ref h1, v1, v2, v3, v4, v5, v6, v7, v8, v9, v10, v11, v12, v13, v14, v15, v16, v17, v18, v19, v20, v21, v22, v23, v24, v25, v26, v27, v28, v29, v30, v31, v32, v33, v34, v35, v36])), (h1, .inl (ty 1, 304, .inl (upd (upd (kf 0) 1 2) 4 (-1))))] sz (qI (fun (r : Int32) (u : va_W) => (-2) = r ∧ [] = u)) 0 0 := by
  refine cQ.of (by decide) (Nat.le_of_ble_eq_true rfl) (fun p e s m below meth c A ls C hsz hP hK hD hA hl => ?_)
  obtain ⟨hx, hb, hml, hown, hB, hr, hlocks, hin⟩ := C
  have hown : s.vm.findClass RX12 = some m.cls := hown
  have hS : va_S A s.heap s.heap [] := va_S.rf
  have hl : lv_has ls 8 [(0, .ref h0), (1, .int p0), (2, .int p1), (3, .int p2)] := hl
  refine lv_iload_n hx hb dX12_gone_0 rfl (lv_at hl 1 rfl) ?_
  refine kc_i (va_runS (As := [.int p0]) (rest := []) ⟨hx, hb, hml, hown, hB⟩ (c149_X12_isGiving l D ty s.heap.size p0) (va_cwS 1 hB (bw_S mw_469 mw_470 mw_211 mw_468) rfl rfl rfl (by decide +kernel) ⟨Nat.le_of_ble_eq_true rfl, Nat.le_of_ble_eq_true rfl⟩) (kp_S hK hP hD [] (by decide) rfl) rfl rfl hl.1 rfl (lv_room (Nat.le_of_ble_eq_true rfl)) dX12_gone_1 ⟨Nat.le_of_ble_eq_true rfl, Nat.le_of_ble_eq_true rfl⟩) hP hD hS hA [] [0, 1] (wr := [(h0, .inr (12, [v0, .ref h1, v1, v2, v3, v4, v5, v6, v7, v8, v9, v10, v11, v12, v13, v14, v15, v16, v17, v18, v19, v20, v21, v22, v23, v24, v25, v26, v27, v28, v29, v30, v31, v32, v33, v34, v35, v36])), (h1, .inl (ty 1, 304, .inl (upd (upd (kf 0) 1 2) 4 (-1))))]) rfl rfl (by decide) (by decide) (fun r u H locs w1 hP hD hS => ?_)
  rcases w1 with ⟨c2, rfl, rfl⟩ | ⟨c3, rfl, rfl⟩
  · have hP : va_P D vwCl [(h0, .inr (12, [v0, .ref h1, v1, v2, v3, v4, v5, v6, v7, v8, v9, v10, v11, v12, v13, v14, v15, v16, v17, v18, v19, v20, v21, v22, v23, v24, v25, v26, v27, v28, v29, v30, v31, v32, v33, v34, v35, v36])), (h1, .inl (ty 1, 304, .inl (upd (upd (kf 0) 1 2) 4 (-1))))] H := hP
    have hD : va_D A [(h0, .inr (12, [v0, .ref h1, v1, v2, v3, v4, v5, v6, v7, v8, v9, v10, v11, v12, v13, v14, v15, v16, v17, v18, v19, v20, v21, v22, v23, v24, v25, v26, v27, v28, v29, v30, v31, v32, v33, v34, v35, v36])), (h1, .inl (ty 1, 304, .inl (upd (upd (kf 0) 1 2) 4 (-1))))] := hD
    refine lv_if_eq (tgt := 15) hx hb dX12_gone_4 (by decide) (fun h9 => absurd h9 (by decide)) (fun _ => ?_)
    refine lv_aload_n hx hb dX12_gone_7 rfl (lv_at hl 0 rfl) ?_
    refine lv_iload_n hx hb dX12_gone_8 rfl (lv_at hl 2 rfl) ?_
    refine kc_i (va_runV (As := [.int p1]) (rest := []) ⟨hx, hb, hml, hown, hB⟩ (c178_X12_isJourney l D ty H.size h0 h1 p1 v0 v1 v2 v3 v4 v5 v6 v7 v8 v9 v10 v11 v12 v13 v14 v15 v16 v17 v18 v19 v20 v21 v22 v23 v24 v25 v26 v27 v28 v29 v30 v31 v32 v33 v34 v35 v36) (cwV 1 hB (bw_V mw_520 mw_521 mw_522 mw_211 mw_519) rfl rfl rfl (by decide +kernel) ⟨Nat.le_of_ble_eq_true rfl, Nat.le_of_ble_eq_true rfl⟩) (kp_V hK hP hD [0, 1] (by decide) rfl 0 rfl rfl rfl) rfl rfl hl.1 rfl (lv_room (Nat.le_of_ble_eq_true rfl)) dX12_gone_9 ⟨Nat.le_of_ble_eq_true rfl, Nat.le_of_ble_eq_true rfl⟩) hP hD hS hA [0, 1] [] (wr := []) rfl rfl (by decide) (by decide) (fun r u H locs w4 hP hD hS => ?_)
    obtain ⟨rfl, rfl⟩ := w4
    have hP : va_P D vwCl [(h0, .inr (12, [v0, .ref h1, v1, v2, v3, v4, v5, v6, v7, v8, v9, v10, v11, v12, v13, v14, v15, v16, v17, v18, v19, v20, v21, v22, v23, v24, v25, v26, v27, v28, v29, v30, v31, v32, v33, v34, v35, v36])), (h1, .inl (ty 1, 304, .inl (upd (upd (kf 0) 1 2) 4 (-1))))] H := hP
    have hD : va_D A [(h0, .inr (12, [v0, .ref h1, v1, v2, v3, v4, v5, v6, v7, v8, v9, v10, v11, v12, v13, v14, v15, v16, v17, v18, v19, v20, v21, v22, v23, v24, v25, v26, v27, v28, v29, v30, v31, v32, v33, v34, v35, v36])), (h1, .inl (ty 1, 304, .inl (upd (upd (kf 0) 1 2) 4 (-1))))] := hD
    refine lv_if_ne (tgt := 18) hx hb dX12_gone_12 (by decide) (fun h9 => absurd (by decide) h9) (fun _ => ?_)
    refine lv_bipush (v := (-2)) hx hb dX12_gone_15 (by decide) ?_
    exact kr_z hx hb hr rfl hlocks hP hD hS [] [] (by decide) rfl ⟨rfl, rfl⟩ (by decide) (by decide) dX12_gone_17
  · have hP : va_P D vwCl [(h0, .inr (12, [v0, .ref h1, v1, v2, v3, v4, v5, v6, v7, v8, v9, v10, v11, v12, v13, v14, v15, v16, v17, v18, v19, v20, v21, v22, v23, v24, v25, v26, v27, v28, v29, v30, v31, v32, v33, v34, v35, v36])), (h1, .inl (ty 1, 304, .inl (upd (upd (kf 0) 1 2) 4 (-1))))] H := hP
    have hD : va_D A [(h0, .inr (12, [v0, .ref h1, v1, v2, v3, v4, v5, v6, v7, v8, v9, v10, v11, v12, v13, v14, v15, v16, v17, v18, v19, v20, v21, v22, v23, v24, v25, v26, v27, v28, v29, v30, v31, v32, v33, v34, v35, v36])), (h1, .inl (ty 1, 304, .inl (upd (upd (kf 0) 1 2) 4 (-1))))] := hD
    refine lv_if_eq (tgt := 15) hx hb dX12_gone_4 (by decide) (fun _ => ?_) (fun h9 => absurd (by decide) h9)
    refine lv_bipush (v := (-2)) hx hb dX12_gone_15 (by decide) ?_
    exact kr_z hx hb hr rfl hlocks hP hD hS [] [] (by decide) rfl ⟨rfl, rfl⟩ (by decide) (by decide) dX12_gone_17
