set_option maxHeartbeats 4000000 in
set_option maxRecDepth 100000 in
theorem c225_X12_keep (l : Launch) (D : va_G) (ty : Nat → ClassId) (sz : Nat) (h0 : Nat) (h1 : Nat) (h2 : Nat) (h3 : Nat) (p0 : Int32) (v0 : Value) (v1 : Value) (v2 : Value) (v3 : Value) (v4 : Value) (v5 : Value) (v6 : Value) (v7 : Value) (v8 : Value) (v9 : Value) (v10 : Value) (v11 : Value) (v12 : Value) (v13 : Value) (v14 : Value) (v15 : Value) (v16 : Value) (v17 : Value) (v18 : Value) (v19 : Value) (v20 : Value) (v21 : Value) (v22 : Value) (v23 : Value) (v24 : Value) (v25 : Value) (v26 : Value) (v27 : Value) (v28 : Value) (v29 : Value) (v30 : Value) (v31 : Value) (v32 : Value) (v33 : Value) (v34 : Value) (f0 : Nat → Int32) (f1 : Nat → Int32) (f2 : Nat → Int32) : cQ l yX12_keep cX12_keep 3 (some .int) 1 25 [.ref h0, .int p0] D ty [(h0, .inr (12, [v0, .ref h2, .ref h1, .ref h3, v1, v2, v3, v4, v5, v6, v7, v8, v9, v10, v11, v12, v13, v14, v15, v16, v17, v18, v19, v20, v21, v22, v23, v24, v25, v26, v27, v28, v29, v30, v31, v32, v33, v34])), (h1, .inl (ty 1, 912, .inl f0)), (h2, .inl (ty 1, 304, .inl f1)), (h3, .inl (ty 3, 3, .inl f2))] sz (qI (fun (r : Int32) (u : va_W) => (((((0 ≤ (Int32.toInt64 p0)) ∧ ((Int32.toInt64 p0) ≤ 2)) ∧ (p0 = 0)) ∨ (((0 ≤ (Int32.toInt64 p0)) ∧ ((Int32.toInt64 p0) ≤ 2)) ∧ (p0 = 1)) ∨ (((0 ≤ (Int32.toInt64 p0)) ∧ ((Int32.toInt64 p0) ≤ 2)) ∧ (p0 = 2))) ∧ 0 = r ∧ [] = u) ∨ ((((¬ (0 ≤ (Int32.toInt64 p0))) ∨ (¬ ((Int32.toInt64 p0) ≤ 2)))) ∧ (-2) = r ∧ [] = u))) 0 0 := by
  refine cQ.of (by decide) (Nat.le_of_ble_eq_true rfl) (fun p e s m below meth c A ls C hsz hP hK hD hA hl => ?_)
  obtain ⟨hx, hb, hml, hown, hB, hr, hlocks, hin⟩ := C
  have hown : s.vm.findClass RX12 = some m.cls := hown
  have hS : va_S A s.heap s.heap [] := va_S.rf
  have hl : lv_has ls 3 [(0, .ref h0), (1, .int p0)] := hl
  refine lv_iload_n hx hb dX12_keep_0 rfl (lv_at hl 1 rfl) ?_
  refine lv_i2l (v := (Int32.toInt64 p0)) hx hb dX12_keep_1 rfl ?_
  refine lv_lconst (v := 0) hx hb dX12_keep_2 (by decide) ?_
  refine lv_ldc2 hx hb hown (hB _ mw_541) dX12_keep_3 ?_
  refine kc_i (va_runS (As := [.long (Int32.toInt64 p0), .long 0, .long 2]) (rest := []) ⟨hx, hb, hml, hown, hB⟩ (c_in l D ty s.heap.size (Int32.toInt64 p0) 0 2) (va_cwS 3 hB (bw_S mw_445 mw_446 mw_211 mw_444) rfl rfl rfl (by decide +kernel) ⟨Nat.le_of_ble_eq_true rfl, Nat.le_of_ble_eq_true rfl⟩) (kp_S hK hP hD [] (by decide) rfl) rfl rfl hl.1 rfl (lv_room (Nat.le_of_ble_eq_true rfl)) dX12_keep_6 ⟨Nat.le_of_ble_eq_true rfl, Nat.le_of_ble_eq_true rfl⟩) hP hD hS hA [] [0, 1, 2, 3] (wr := [(h0, .inr (12, [v0, .ref h2, .ref h1, .ref h3, v1, v2, v3, v4, v5, v6, v7, v8, v9, v10, v11, v12, v13, v14, v15, v16, v17, v18, v19, v20, v21, v22, v23, v24, v25, v26, v27, v28, v29, v30, v31, v32, v33, v34])), (h1, .inl (ty 1, 912, .inl f0)), (h2, .inl (ty 1, 304, .inl f1)), (h3, .inl (ty 3, 3, .inl f2))]) rfl rfl (by decide) (by decide) (fun r u H locs w1 hP hD hS => ?_)
  rcases w1 with ⟨c2, rfl, rfl⟩ | ⟨c3, rfl, rfl⟩
  · have hP : va_P D vwCl [(h0, .inr (12, [v0, .ref h2, .ref h1, .ref h3, v1, v2, v3, v4, v5, v6, v7, v8, v9, v10, v11, v12, v13, v14, v15, v16, v17, v18, v19, v20, v21, v22, v23, v24, v25, v26, v27, v28, v29, v30, v31, v32, v33, v34])), (h1, .inl (ty 1, 912, .inl f0)), (h2, .inl (ty 1, 304, .inl f1)), (h3, .inl (ty 3, 3, .inl f2))] H := hP
    have hD : va_D A [(h0, .inr (12, [v0, .ref h2, .ref h1, .ref h3, v1, v2, v3, v4, v5, v6, v7, v8, v9, v10, v11, v12, v13, v14, v15, v16, v17, v18, v19, v20, v21, v22, v23, v24, v25, v26, v27, v28, v29, v30, v31, v32, v33, v34])), (h1, .inl (ty 1, 912, .inl f0)), (h2, .inl (ty 1, 304, .inl f1)), (h3, .inl (ty 3, 3, .inl f2))] := hD
    refine lv_if_ne (tgt := 15) hx hb dX12_keep_9 (by decide) (fun _ => ?_) (fun h9 => absurd h9 (by decide))
    refine lv_iconst (v := 0) hx hb dX12_keep_15 (by decide) ?_
    refine lv_istore_n (lv' := [(2, .int 0), (0, .ref h0), (1, .int p0)]) hx hb dX12_keep_16 rfl hl (by decide) rfl (fun ls hl => ?_)
    rcases ps_8 p0 c2 with rfl | rfl | rfl
    · refine lp_keep hx hb hown hB hK (fun g9 => [(h0, .inr (12, [v0, .ref h2, .ref h1, .ref h3, v1, v2, v3, v4, v5, v6, v7, v8, v9, v10, v11, v12, v13, v14, v15, v16, v17, v18, v19, v20, v21, v22, v23, v24, v25, v26, v27, v28, v29, v30, v31, v32, v33, v34])), (h1, .inl (ty 1, 912, .inl g9)), (h2, .inl (ty 1, 304, .inl f1)), (h3, .inl (ty 3, 3, .inl f2))]) [v0, .ref h2, .ref h1, .ref h3, v1, v2, v3, v4, v5, v6, v7, v8, v9, v10, v11, v12, v13, v14, v15, v16, v17, v18, v19, v20, v21, v22, v23, v24, v25, v26, v27, v28, v29, v30, v31, v32, v33, v34] 0 1 2 (fun _ => rfl) rfl rfl (fun _ => rfl) (fun _ => rfl) (fun _ _ => rfl) 0 0 (by decide) (by decide) (fun y4 x5 H locs ls hP hD hS hl => ?_) 304 0 0 f0 _ _ ls rfl (by decide) hP hD hS hl
      have hP : va_P D vwCl [(h0, .inr (12, [v0, .ref h2, .ref h1, .ref h3, v1, v2, v3, v4, v5, v6, v7, v8, v9, v10, v11, v12, v13, v14, v15, v16, v17, v18, v19, v20, v21, v22, v23, v24, v25, v26, v27, v28, v29, v30, v31, v32, v33, v34])), (h1, .inl (ty 1, 912, .inl y4)), (h2, .inl (ty 1, 304, .inl f1)), (h3, .inl (ty 3, 3, .inl f2))] H := hP
      have hD : va_D A [(h0, .inr (12, [v0, .ref h2, .ref h1, .ref h3, v1, v2, v3, v4, v5, v6, v7, v8, v9, v10, v11, v12, v13, v14, v15, v16, v17, v18, v19, v20, v21, v22, v23, v24, v25, v26, v27, v28, v29, v30, v31, v32, v33, v34])), (h1, .inl (ty 1, 912, .inl y4)), (h2, .inl (ty 1, 304, .inl f1)), (h3, .inl (ty 3, 3, .inl f2))] := hD
      refine lv_aload_n hx hb dX12_keep_48 rfl (lv_at hl 1 rfl) ?_
      refine va_get (D := D) (ci := 12) (v := .ref h3) (C := RX12) (T := TX12) (N := 38) hx hb hB inB_X12 hown hK.1 hP 0 rfl rfl 3 (by decide) (hB _ mw_185) (fun _ h9 => h9) rfl dX12_keep_49 ?_
      refine lv_iload_n hx hb dX12_keep_52 rfl (lv_at hl 2 rfl) ?_
      refine lv_iconst (v := 1) hx hb dX12_keep_53 (by decide) ?_
      refine wy_zast hx hb hK hP hD hS 3 3 rfl rfl (by unfold vp_in; decide) dX12_keep_54 (j := 0) (by decide) (y := 1) (by decide) (ws' := [(h0, .inr (12, [v0, .ref h2, .ref h1, .ref h3, v1, v2, v3, v4, v5, v6, v7, v8, v9, v10, v11, v12, v13, v14, v15, v16, v17, v18, v19, v20, v21, v22, v23, v24, v25, v26, v27, v28, v29, v30, v31, v32, v33, v34])), (h1, .inl (ty 1, 912, .inl y4)), (h2, .inl (ty 1, 304, .inl f1)), (h3, .inl (ty 3, 3, .inl (upd f2 0 1)))]) rfl (fun H locs hP hD hS => ?_)
      refine lv_iconst (v := 0) hx hb dX12_keep_55 (by decide) ?_
      exact kr_z hx hb hr rfl hlocks hP hD hS [] [] (by decide) rfl (Or.inl ⟨(Or.inl ⟨c2, rfl⟩), rfl, rfl⟩) (by decide) (by decide) dX12_keep_56
    · refine lp_keep hx hb hown hB hK (fun g9 => [(h0, .inr (12, [v0, .ref h2, .ref h1, .ref h3, v1, v2, v3, v4, v5, v6, v7, v8, v9, v10, v11, v12, v13, v14, v15, v16, v17, v18, v19, v20, v21, v22, v23, v24, v25, v26, v27, v28, v29, v30, v31, v32, v33, v34])), (h1, .inl (ty 1, 912, .inl g9)), (h2, .inl (ty 1, 304, .inl f1)), (h3, .inl (ty 3, 3, .inl f2))]) [v0, .ref h2, .ref h1, .ref h3, v1, v2, v3, v4, v5, v6, v7, v8, v9, v10, v11, v12, v13, v14, v15, v16, v17, v18, v19, v20, v21, v22, v23, v24, v25, v26, v27, v28, v29, v30, v31, v32, v33, v34] 0 1 2 (fun _ => rfl) rfl rfl (fun _ => rfl) (fun _ => rfl) (fun _ _ => rfl) 1 1 (by decide) (by decide) (fun y6 x7 H locs ls hP hD hS hl => ?_) 304 0 0 f0 _ _ ls rfl (by decide) hP hD hS hl
      have hP : va_P D vwCl [(h0, .inr (12, [v0, .ref h2, .ref h1, .ref h3, v1, v2, v3, v4, v5, v6, v7, v8, v9, v10, v11, v12, v13, v14, v15, v16, v17, v18, v19, v20, v21, v22, v23, v24, v25, v26, v27, v28, v29, v30, v31, v32, v33, v34])), (h1, .inl (ty 1, 912, .inl y6)), (h2, .inl (ty 1, 304, .inl f1)), (h3, .inl (ty 3, 3, .inl f2))] H := hP
      have hD : va_D A [(h0, .inr (12, [v0, .ref h2, .ref h1, .ref h3, v1, v2, v3, v4, v5, v6, v7, v8, v9, v10, v11, v12, v13, v14, v15, v16, v17, v18, v19, v20, v21, v22, v23, v24, v25, v26, v27, v28, v29, v30, v31, v32, v33, v34])), (h1, .inl (ty 1, 912, .inl y6)), (h2, .inl (ty 1, 304, .inl f1)), (h3, .inl (ty 3, 3, .inl f2))] := hD
      refine lv_aload_n hx hb dX12_keep_48 rfl (lv_at hl 1 rfl) ?_
      refine va_get (D := D) (ci := 12) (v := .ref h3) (C := RX12) (T := TX12) (N := 38) hx hb hB inB_X12 hown hK.1 hP 0 rfl rfl 3 (by decide) (hB _ mw_185) (fun _ h9 => h9) rfl dX12_keep_49 ?_
      refine lv_iload_n hx hb dX12_keep_52 rfl (lv_at hl 2 rfl) ?_
      refine lv_iconst (v := 1) hx hb dX12_keep_53 (by decide) ?_
      refine wy_zast hx hb hK hP hD hS 3 3 rfl rfl (by unfold vp_in; decide) dX12_keep_54 (j := 1) (by decide) (y := 1) (by decide) (ws' := [(h0, .inr (12, [v0, .ref h2, .ref h1, .ref h3, v1, v2, v3, v4, v5, v6, v7, v8, v9, v10, v11, v12, v13, v14, v15, v16, v17, v18, v19, v20, v21, v22, v23, v24, v25, v26, v27, v28, v29, v30, v31, v32, v33, v34])), (h1, .inl (ty 1, 912, .inl y6)), (h2, .inl (ty 1, 304, .inl f1)), (h3, .inl (ty 3, 3, .inl (upd f2 1 1)))]) rfl (fun H locs hP hD hS => ?_)
      refine lv_iconst (v := 0) hx hb dX12_keep_55 (by decide) ?_
      exact kr_z hx hb hr rfl hlocks hP hD hS [] [] (by decide) rfl (Or.inl ⟨(Or.inr (Or.inl ⟨c2, rfl⟩)), rfl, rfl⟩) (by decide) (by decide) dX12_keep_56
    · refine lp_keep hx hb hown hB hK (fun g9 => [(h0, .inr (12, [v0, .ref h2, .ref h1, .ref h3, v1, v2, v3, v4, v5, v6, v7, v8, v9, v10, v11, v12, v13, v14, v15, v16, v17, v18, v19, v20, v21, v22, v23, v24, v25, v26, v27, v28, v29, v30, v31, v32, v33, v34])), (h1, .inl (ty 1, 912, .inl g9)), (h2, .inl (ty 1, 304, .inl f1)), (h3, .inl (ty 3, 3, .inl f2))]) [v0, .ref h2, .ref h1, .ref h3, v1, v2, v3, v4, v5, v6, v7, v8, v9, v10, v11, v12, v13, v14, v15, v16, v17, v18, v19, v20, v21, v22, v23, v24, v25, v26, v27, v28, v29, v30, v31, v32, v33, v34] 0 1 2 (fun _ => rfl) rfl rfl (fun _ => rfl) (fun _ => rfl) (fun _ _ => rfl) 2 2 (by decide) (by decide) (fun y8 x9 H locs ls hP hD hS hl => ?_) 304 0 0 f0 _ _ ls rfl (by decide) hP hD hS hl
      have hP : va_P D vwCl [(h0, .inr (12, [v0, .ref h2, .ref h1, .ref h3, v1, v2, v3, v4, v5, v6, v7, v8, v9, v10, v11, v12, v13, v14, v15, v16, v17, v18, v19, v20, v21, v22, v23, v24, v25, v26, v27, v28, v29, v30, v31, v32, v33, v34])), (h1, .inl (ty 1, 912, .inl y8)), (h2, .inl (ty 1, 304, .inl f1)), (h3, .inl (ty 3, 3, .inl f2))] H := hP
      have hD : va_D A [(h0, .inr (12, [v0, .ref h2, .ref h1, .ref h3, v1, v2, v3, v4, v5, v6, v7, v8, v9, v10, v11, v12, v13, v14, v15, v16, v17, v18, v19, v20, v21, v22, v23, v24, v25, v26, v27, v28, v29, v30, v31, v32, v33, v34])), (h1, .inl (ty 1, 912, .inl y8)), (h2, .inl (ty 1, 304, .inl f1)), (h3, .inl (ty 3, 3, .inl f2))] := hD
      refine lv_aload_n hx hb dX12_keep_48 rfl (lv_at hl 1 rfl) ?_
      refine va_get (D := D) (ci := 12) (v := .ref h3) (C := RX12) (T := TX12) (N := 38) hx hb hB inB_X12 hown hK.1 hP 0 rfl rfl 3 (by decide) (hB _ mw_185) (fun _ h9 => h9) rfl dX12_keep_49 ?_
      refine lv_iload_n hx hb dX12_keep_52 rfl (lv_at hl 2 rfl) ?_
      refine lv_iconst (v := 1) hx hb dX12_keep_53 (by decide) ?_
      refine wy_zast hx hb hK hP hD hS 3 3 rfl rfl (by unfold vp_in; decide) dX12_keep_54 (j := 2) (by decide) (y := 1) (by decide) (ws' := [(h0, .inr (12, [v0, .ref h2, .ref h1, .ref h3, v1, v2, v3, v4, v5, v6, v7, v8, v9, v10, v11, v12, v13, v14, v15, v16, v17, v18, v19, v20, v21, v22, v23, v24, v25, v26, v27, v28, v29, v30, v31, v32, v33, v34])), (h1, .inl (ty 1, 912, .inl y8)), (h2, .inl (ty 1, 304, .inl f1)), (h3, .inl (ty 3, 3, .inl (upd f2 2 1)))]) rfl (fun H locs hP hD hS => ?_)
      refine lv_iconst (v := 0) hx hb dX12_keep_55 (by decide) ?_
      exact kr_z hx hb hr rfl hlocks hP hD hS [] [] (by decide) rfl (Or.inl ⟨(Or.inr (Or.inr ⟨c2, rfl⟩)), rfl, rfl⟩) (by decide) (by decide) dX12_keep_56
  · have hP : va_P D vwCl [(h0, .inr (12, [v0, .ref h2, .ref h1, .ref h3, v1, v2, v3, v4, v5, v6, v7, v8, v9, v10, v11, v12, v13, v14, v15, v16, v17, v18, v19, v20, v21, v22, v23, v24, v25, v26, v27, v28, v29, v30, v31, v32, v33, v34])), (h1, .inl (ty 1, 912, .inl f0)), (h2, .inl (ty 1, 304, .inl f1)), (h3, .inl (ty 3, 3, .inl f2))] H := hP
    have hD : va_D A [(h0, .inr (12, [v0, .ref h2, .ref h1, .ref h3, v1, v2, v3, v4, v5, v6, v7, v8, v9, v10, v11, v12, v13, v14, v15, v16, v17, v18, v19, v20, v21, v22, v23, v24, v25, v26, v27, v28, v29, v30, v31, v32, v33, v34])), (h1, .inl (ty 1, 912, .inl f0)), (h2, .inl (ty 1, 304, .inl f1)), (h3, .inl (ty 3, 3, .inl f2))] := hD
    refine lv_if_ne (tgt := 15) hx hb dX12_keep_9 (by decide) (fun h9 => absurd (by decide) h9) (fun _ => ?_)
    refine lv_bipush (v := (-2)) hx hb dX12_keep_12 (by decide) ?_
    exact kr_z hx hb hr rfl hlocks hP hD hS [] [] (by decide) rfl (Or.inr ⟨c3, rfl, rfl⟩) (by decide) (by decide) dX12_keep_14
set_option maxHeartbeats 4000000 in
set_option maxRecDepth 100000 in
theorem c226_X12_back (l : Launch) (D : va_G) (ty : Nat → ClassId) (sz : Nat) (h0 : Nat) (h1 : Nat) (p0 : Int32) (v0 : Value) (v1 : Value) (v2 : Value) (v3 : Value) (v4 : Value) (v5 : Value) (v6 : Value) (v7 : Value) (v8 : Value) (v9 : Value) (v10 : Value) (v11 : Value) (v12 : Value) (v13 : Value) (v14 : Value) (v15 : Value) (v16 : Value) (v17 : Value) (v18 : Value) (v19 : Value) (v20 : Value) (v21 : Value) (v22 : Value) (v23 : Value) (v24 : Value) (v25 : Value) (v26 : Value) (v27 : Value) (v28 : Value) (v29 : Value) (v30 : Value) (v31 : Value) (v32 : Value) (v33 : Value) (v34 : Value) (v35 : Value) (v36 : Value) : cQ l yX12_back cX12_back 3 (some .int) 1 25 [.ref h0, .int p0] D ty [(h0, .inr (12, [v0, v1, v2, .ref h1, v3, v4, v5, v6, v7, v8, v9, v10, v11, v12, v13, v14, v15, v16, v17, v18, v19, v20, v21, v22, v23, v24, v25, v26, v27, v28, v29, v30, v31, v32, v33, v34, v35, v36])), (h1, .inl (ty 3, 3, .inl (kf 0)))] sz (qI (fun (r : Int32) (u : va_W) => (((((0 ≤ (Int32.toInt64 p0)) ∧ ((Int32.toInt64 p0) ≤ 2)) ∧ (p0 = 0)) ∨ (((0 ≤ (Int32.toInt64 p0)) ∧ ((Int32.toInt64 p0) ≤ 2)) ∧ (p0 = 1)) ∨ (((0 ≤ (Int32.toInt64 p0)) ∧ ((Int32.toInt64 p0) ≤ 2)) ∧ (p0 = 2))) ∧ (-6) = r ∧ [] = u) ∨ ((((¬ (0 ≤ (Int32.toInt64 p0))) ∨ (¬ ((Int32.toInt64 p0) ≤ 2)))) ∧ (-2) = r ∧ [] = u))) 0 0 := by
  refine cQ.of (by decide) (Nat.le_of_ble_eq_true rfl) (fun p e s m below meth c A ls C hsz hP hK hD hA hl => ?_)
  obtain ⟨hx, hb, hml, hown, hB, hr, hlocks, hin⟩ := C
  have hown : s.vm.findClass RX12 = some m.cls := hown
  have hS : va_S A s.heap s.heap [] := va_S.rf
  have hl : lv_has ls 3 [(0, .ref h0), (1, .int p0)] := hl
  refine lv_iload_n hx hb dX12_back_0 rfl (lv_at hl 1 rfl) ?_
  refine lv_i2l (v := (Int32.toInt64 p0)) hx hb dX12_back_1 rfl ?_
  refine lv_lconst (v := 0) hx hb dX12_back_2 (by decide) ?_
  refine lv_ldc2 hx hb hown (hB _ mw_541) dX12_back_3 ?_
  refine kc_i (va_runS (As := [.long (Int32.toInt64 p0), .long 0, .long 2]) (rest := []) ⟨hx, hb, hml, hown, hB⟩ (c_in l D ty s.heap.size (Int32.toInt64 p0) 0 2) (va_cwS 3 hB (bw_S mw_445 mw_446 mw_211 mw_444) rfl rfl rfl (by decide +kernel) ⟨Nat.le_of_ble_eq_true rfl, Nat.le_of_ble_eq_true rfl⟩) (kp_S hK hP hD [] (by decide) rfl) rfl rfl hl.1 rfl (lv_room (Nat.le_of_ble_eq_true rfl)) dX12_back_6 ⟨Nat.le_of_ble_eq_true rfl, Nat.le_of_ble_eq_true rfl⟩) hP hD hS hA [] [0, 1] (wr := [(h0, .inr (12, [v0, v1, v2, .ref h1, v3, v4, v5, v6, v7, v8, v9, v10, v11, v12, v13, v14, v15, v16, v17, v18, v19, v20, v21, v22, v23, v24, v25, v26, v27, v28, v29, v30, v31, v32, v33, v34, v35, v36])), (h1, .inl (ty 3, 3, .inl (kf 0)))]) rfl rfl (by decide) (by decide) (fun r u H locs w1 hP hD hS => ?_)
  rcases w1 with ⟨c2, rfl, rfl⟩ | ⟨c3, rfl, rfl⟩
  · have hP : va_P D vwCl [(h0, .inr (12, [v0, v1, v2, .ref h1, v3, v4, v5, v6, v7, v8, v9, v10, v11, v12, v13, v14, v15, v16, v17, v18, v19, v20, v21, v22, v23, v24, v25, v26, v27, v28, v29, v30, v31, v32, v33, v34, v35, v36])), (h1, .inl (ty 3, 3, .inl (kf 0)))] H := hP
    have hD : va_D A [(h0, .inr (12, [v0, v1, v2, .ref h1, v3, v4, v5, v6, v7, v8, v9, v10, v11, v12, v13, v14, v15, v16, v17, v18, v19, v20, v21, v22, v23, v24, v25, v26, v27, v28, v29, v30, v31, v32, v33, v34, v35, v36])), (h1, .inl (ty 3, 3, .inl (kf 0)))] := hD
    refine lv_if_ne (tgt := 15) hx hb dX12_back_9 (by decide) (fun _ => ?_) (fun h9 => absurd h9 (by decide))
    refine lv_aload_n hx hb dX12_back_15 rfl (lv_at hl 0 rfl) ?_
    refine va_get (D := D) (ci := 12) (v := .ref h1) (C := RX12) (T := TX12) (N := 38) hx hb hB inB_X12 hown hK.1 hP 0 rfl rfl 3 (by decide) (hB _ mw_185) (fun _ h9 => h9) rfl dX12_back_16 ?_
    refine lv_iload_n hx hb dX12_back_19 rfl (lv_at hl 1 rfl) ?_
    rcases ps_8 p0 c2 with rfl | rfl | rfl
    · refine va_zald hx hb hK.1 hP 1 3 rfl rfl (by unfold vp_in; decide) dX12_back_20 ?_
      refine tp_i (v := 0) rfl ?_
      refine lv_if_ne (tgt := 27) hx hb dX12_back_21 (by decide) (fun h9 => absurd (by decide) h9) (fun _ => ?_)
      refine lv_bipush (v := (-6)) hx hb dX12_back_24 (by decide) ?_
      exact kr_z hx hb hr rfl hlocks hP hD hS [] [] (by decide) rfl (Or.inl ⟨(Or.inl ⟨c2, rfl⟩), rfl, rfl⟩) (by decide) (by decide) dX12_back_26
    · refine va_zald hx hb hK.1 hP 1 3 rfl rfl (by unfold vp_in; decide) dX12_back_20 ?_
      refine tp_i (v := 0) rfl ?_
      refine lv_if_ne (tgt := 27) hx hb dX12_back_21 (by decide) (fun h9 => absurd (by decide) h9) (fun _ => ?_)
      refine lv_bipush (v := (-6)) hx hb dX12_back_24 (by decide) ?_
      exact kr_z hx hb hr rfl hlocks hP hD hS [] [] (by decide) rfl (Or.inl ⟨(Or.inr (Or.inl ⟨c2, rfl⟩)), rfl, rfl⟩) (by decide) (by decide) dX12_back_26
    · refine va_zald hx hb hK.1 hP 1 3 rfl rfl (by unfold vp_in; decide) dX12_back_20 ?_
      refine tp_i (v := 0) rfl ?_
      refine lv_if_ne (tgt := 27) hx hb dX12_back_21 (by decide) (fun h9 => absurd (by decide) h9) (fun _ => ?_)
      refine lv_bipush (v := (-6)) hx hb dX12_back_24 (by decide) ?_
      exact kr_z hx hb hr rfl hlocks hP hD hS [] [] (by decide) rfl (Or.inl ⟨(Or.inr (Or.inr ⟨c2, rfl⟩)), rfl, rfl⟩) (by decide) (by decide) dX12_back_26
  · have hP : va_P D vwCl [(h0, .inr (12, [v0, v1, v2, .ref h1, v3, v4, v5, v6, v7, v8, v9, v10, v11, v12, v13, v14, v15, v16, v17, v18, v19, v20, v21, v22, v23, v24, v25, v26, v27, v28, v29, v30, v31, v32, v33, v34, v35, v36])), (h1, .inl (ty 3, 3, .inl (kf 0)))] H := hP
    have hD : va_D A [(h0, .inr (12, [v0, v1, v2, .ref h1, v3, v4, v5, v6, v7, v8, v9, v10, v11, v12, v13, v14, v15, v16, v17, v18, v19, v20, v21, v22, v23, v24, v25, v26, v27, v28, v29, v30, v31, v32, v33, v34, v35, v36])), (h1, .inl (ty 3, 3, .inl (kf 0)))] := hD
    refine lv_if_ne (tgt := 15) hx hb dX12_back_9 (by decide) (fun h9 => absurd (by decide) h9) (fun _ => ?_)
    refine lv_bipush (v := (-2)) hx hb dX12_back_12 (by decide) ?_
    exact kr_z hx hb hr rfl hlocks hP hD hS [] [] (by decide) rfl (Or.inr ⟨c3, rfl, rfl⟩) (by decide) (by decide) dX12_back_14
set_option maxHeartbeats 4000000 in
set_option maxRecDepth 100000 in
theorem c227_X12_row (l : Launch) (D : va_G) (ty : Nat → ClassId) (sz : Nat) (h0 : Nat) (h1 : Nat) (h2 : Nat) (h3 : Nat) (p0 : Int32) (p1 : Int32) (p2 : Int32) (v0 : Value) (v1 : Value) (v2 : Value) (v3 : Value) (v4 : Value) (v5 : Value) (v6 : Value) (v7 : Value) (v8 : Value) (v9 : Value) (v10 : Value) (v11 : Value) (v12 : Value) (v13 : Value) (v14 : Value) (v15 : Value) (v16 : Value) (v17 : Value) (v18 : Value) (v19 : Value) (v20 : Value) (v21 : Value) (v22 : Value) (v23 : Value) (v24 : Value) (v25 : Value) (v26 : Value) (v27 : Value) (v28 : Value) (v29 : Value) (v30 : Value) (v31 : Value) (v32 : Value) (v33 : Value) (v34 : Value) (f0 : Nat → Int32) (f1 : Nat → Int32) (g0 : Nat → Int64) : cQ l yX12_row cX12_row 5 (some .int) 2 45 [.ref h0, .int p0, .int p1, .int p2] D ty [(h0, .inr (12, [v0, v1, v2, v3, v4, v5, v6, v7, v8, v9, v10, v11, v12, v13, v14, v15, v16, v17, v18, v19, v20, v21, v22, v23, v24, v25, v26, v27, v28, v29, v30, v31, v32, v33, .ref h1, .ref h2, .ref h3, v34])), (h1, .inl (ty 1, 4, .inl f0)), (h2, .inl (ty 1, 4, .inl f1)), (h3, .inl (ty 2, 240, .inr (.inl g0)))] sz (qI (fun (r : Int32) (u : va_W) => ((((((0 ≤ (Int32.toInt64 p0)) ∧ ((Int32.toInt64 p0) ≤ 3))) ∧ ((0 ≤ (Int32.toInt64 p1)) ∧ ((Int32.toInt64 p1) ≤ 3)) ∧ (p2 ≤ 60) ∧ (0 ≤ p2) ∧ (p0 = 0)) ∨ ((((0 ≤ (Int32.toInt64 p0)) ∧ ((Int32.toInt64 p0) ≤ 3))) ∧ ((0 ≤ (Int32.toInt64 p1)) ∧ ((Int32.toInt64 p1) ≤ 3)) ∧ (p2 ≤ 60) ∧ (0 ≤ p2) ∧ (p0 = 1)) ∨ ((((0 ≤ (Int32.toInt64 p0)) ∧ ((Int32.toInt64 p0) ≤ 3))) ∧ ((0 ≤ (Int32.toInt64 p1)) ∧ ((Int32.toInt64 p1) ≤ 3)) ∧ (p2 ≤ 60) ∧ (0 ≤ p2) ∧ (p0 = 2)) ∨ ((((0 ≤ (Int32.toInt64 p0)) ∧ ((Int32.toInt64 p0) ≤ 3))) ∧ ((0 ≤ (Int32.toInt64 p1)) ∧ ((Int32.toInt64 p1) ≤ 3)) ∧ (p2 ≤ 60) ∧ (0 ≤ p2) ∧ (p0 = 3))) ∧ 0 = r ∧ [] = u) ∨ (((((0 ≤ (Int32.toInt64 p0)) ∧ ((Int32.toInt64 p0) ≤ 3))) ∧ ((0 ≤ (Int32.toInt64 p1)) ∧ ((Int32.toInt64 p1) ≤ 3)) ∧ (p2 ≤ 60) ∧ (¬ (0 ≤ p2))) ∧ (-3) = r ∧ [] = u) ∨ ((((((0 ≤ (Int32.toInt64 p0)) ∧ ((Int32.toInt64 p0) ≤ 3))) ∧ ((0 ≤ (Int32.toInt64 p1)) ∧ ((Int32.toInt64 p1) ≤ 3)) ∧ (¬ (p2 ≤ 60))) ∨ ((((0 ≤ (Int32.toInt64 p0)) ∧ ((Int32.toInt64 p0) ≤ 3))) ∧ ((¬ (0 ≤ (Int32.toInt64 p1))) ∨ (¬ ((Int32.toInt64 p1) ≤ 3)))) ∨ ((((¬ (0 ≤ (Int32.toInt64 p0))) ∨ (¬ ((Int32.toInt64 p0) ≤ 3)))))) ∧ (-2) = r ∧ [] = u))) 0 0 := by
  refine cQ.of (by decide) (Nat.le_of_ble_eq_true rfl) (fun p e s m below meth c A ls C hsz hP hK hD hA hl => ?_)
  obtain ⟨hx, hb, hml, hown, hB, hr, hlocks, hin⟩ := C
  have hown : s.vm.findClass RX12 = some m.cls := hown
  have hS : va_S A s.heap s.heap [] := va_S.rf
  have hl : lv_has ls 5 [(0, .ref h0), (1, .int p0), (2, .int p1), (3, .int p2)] := hl
  refine lv_iload_n hx hb dX12_row_0 rfl (lv_at hl 1 rfl) ?_
  refine kc_i (va_runS (As := [.int p0]) (rest := []) ⟨hx, hb, hml, hown, hB⟩ (c152_X12_isSlot l D ty s.heap.size p0) (va_cwS 1 hB (bw_S mw_477 mw_478 mw_211 mw_476) rfl rfl rfl (by decide +kernel) ⟨Nat.le_of_ble_eq_true rfl, Nat.le_of_ble_eq_true rfl⟩) (kp_S hK hP hD [] (by decide) rfl) rfl rfl hl.1 rfl (lv_room (Nat.le_of_ble_eq_true rfl)) dX12_row_1 ⟨Nat.le_of_ble_eq_true rfl, Nat.le_of_ble_eq_true rfl⟩) hP hD hS hA [] [0, 1, 2, 3] (wr := [(h0, .inr (12, [v0, v1, v2, v3, v4, v5, v6, v7, v8, v9, v10, v11, v12, v13, v14, v15, v16, v17, v18, v19, v20, v21, v22, v23, v24, v25, v26, v27, v28, v29, v30, v31, v32, v33, .ref h1, .ref h2, .ref h3, v34])), (h1, .inl (ty 1, 4, .inl f0)), (h2, .inl (ty 1, 4, .inl f1)), (h3, .inl (ty 2, 240, .inr (.inl g0)))]) rfl rfl (by decide) (by decide) (fun r u H locs w1 hP hD hS => ?_)
  rcases w1 with ⟨c2, rfl, rfl⟩ | ⟨c3, rfl, rfl⟩
  · have hP : va_P D vwCl [(h0, .inr (12, [v0, v1, v2, v3, v4, v5, v6, v7, v8, v9, v10, v11, v12, v13, v14, v15, v16, v17, v18, v19, v20, v21, v22, v23, v24, v25, v26, v27, v28, v29, v30, v31, v32, v33, .ref h1, .ref h2, .ref h3, v34])), (h1, .inl (ty 1, 4, .inl f0)), (h2, .inl (ty 1, 4, .inl f1)), (h3, .inl (ty 2, 240, .inr (.inl g0)))] H := hP
    have hD : va_D A [(h0, .inr (12, [v0, v1, v2, v3, v4, v5, v6, v7, v8, v9, v10, v11, v12, v13, v14, v15, v16, v17, v18, v19, v20, v21, v22, v23, v24, v25, v26, v27, v28, v29, v30, v31, v32, v33, .ref h1, .ref h2, .ref h3, v34])), (h1, .inl (ty 1, 4, .inl f0)), (h2, .inl (ty 1, 4, .inl f1)), (h3, .inl (ty 2, 240, .inr (.inl g0)))] := hD
    refine lv_if_eq (tgt := 25) hx hb dX12_row_4 (by decide) (fun h9 => absurd h9 (by decide)) (fun _ => ?_)
    refine lv_iload_n hx hb dX12_row_7 rfl (lv_at hl 2 rfl) ?_
    refine lv_i2l (v := (Int32.toInt64 p1)) hx hb dX12_row_8 rfl ?_
    refine lv_lconst (v := 0) hx hb dX12_row_9 (by decide) ?_
    refine lv_ldc2 hx hb hown (hB _ mw_475) dX12_row_10 ?_
    refine kc_i (va_runS (As := [.long (Int32.toInt64 p1), .long 0, .long 3]) (rest := []) ⟨hx, hb, hml, hown, hB⟩ (c_in l D ty H.size (Int32.toInt64 p1) 0 3) (va_cwS 3 hB (bw_S mw_445 mw_446 mw_211 mw_444) rfl rfl rfl (by decide +kernel) ⟨Nat.le_of_ble_eq_true rfl, Nat.le_of_ble_eq_true rfl⟩) (kp_S hK hP hD [] (by decide) rfl) rfl rfl hl.1 rfl (lv_room (Nat.le_of_ble_eq_true rfl)) dX12_row_13 ⟨Nat.le_of_ble_eq_true rfl, Nat.le_of_ble_eq_true rfl⟩) hP hD hS hA [] [0, 1, 2, 3] (wr := [(h0, .inr (12, [v0, v1, v2, v3, v4, v5, v6, v7, v8, v9, v10, v11, v12, v13, v14, v15, v16, v17, v18, v19, v20, v21, v22, v23, v24, v25, v26, v27, v28, v29, v30, v31, v32, v33, .ref h1, .ref h2, .ref h3, v34])), (h1, .inl (ty 1, 4, .inl f0)), (h2, .inl (ty 1, 4, .inl f1)), (h3, .inl (ty 2, 240, .inr (.inl g0)))]) rfl rfl (by decide) (by decide) (fun r u H locs w4 hP hD hS => ?_)
    rcases w4 with ⟨c5, rfl, rfl⟩ | ⟨c6, rfl, rfl⟩
    · have hP : va_P D vwCl [(h0, .inr (12, [v0, v1, v2, v3, v4, v5, v6, v7, v8, v9, v10, v11, v12, v13, v14, v15, v16, v17, v18, v19, v20, v21, v22, v23, v24, v25, v26, v27, v28, v29, v30, v31, v32, v33, .ref h1, .ref h2, .ref h3, v34])), (h1, .inl (ty 1, 4, .inl f0)), (h2, .inl (ty 1, 4, .inl f1)), (h3, .inl (ty 2, 240, .inr (.inl g0)))] H := hP
      have hD : va_D A [(h0, .inr (12, [v0, v1, v2, v3, v4, v5, v6, v7, v8, v9, v10, v11, v12, v13, v14, v15, v16, v17, v18, v19, v20, v21, v22, v23, v24, v25, v26, v27, v28, v29, v30, v31, v32, v33, .ref h1, .ref h2, .ref h3, v34])), (h1, .inl (ty 1, 4, .inl f0)), (h2, .inl (ty 1, 4, .inl f1)), (h3, .inl (ty 2, 240, .inr (.inl g0)))] := hD
      refine lv_if_eq (tgt := 25) hx hb dX12_row_16 (by decide) (fun h9 => absurd h9 (by decide)) (fun _ => ?_)
      refine lv_iload_n hx hb dX12_row_19 rfl (lv_at hl 3 rfl) ?_
      refine lv_bipush (v := 60) hx hb dX12_row_20 (by decide) ?_
      refine lv_icmp_le (tgt := 28) hx hb dX12_row_22 (by decide) (fun c7 => ?_) (fun c7 => ?_)
      · refine lv_iload_n hx hb dX12_row_28 rfl (lv_at hl 3 rfl) ?_
        refine lv_if_ge (tgt := 35) hx hb dX12_row_29 (by decide) (fun c8 => ?_) (fun c8 => ?_)
        · refine lv_aload_n hx hb dX12_row_35 rfl (lv_at hl 0 rfl) ?_
          refine va_get (D := D) (ci := 12) (v := .ref h1) (C := RX12) (T := TX12) (N := 38) hx hb hB inB_X12 hown hK.1 hP 0 rfl rfl 34 (by decide) (hB _ mw_204) (fun _ h9 => h9) rfl dX12_row_36 ?_
          refine lv_iload_n hx hb dX12_row_39 rfl (lv_at hl 1 rfl) ?_
          refine lv_iload_n hx hb dX12_row_40 rfl (lv_at hl 3 rfl) ?_
          rcases ps_6 p0 c2 with rfl | rfl | rfl | rfl
          · refine wy_iast hx hb hK hP hD hS 1 1 rfl rfl (by unfold vp_in; decide) dX12_row_41 (j := 0) (by decide) (ws' := [(h0, .inr (12, [v0, v1, v2, v3, v4, v5, v6, v7, v8, v9, v10, v11, v12, v13, v14, v15, v16, v17, v18, v19, v20, v21, v22, v23, v24, v25, v26, v27, v28, v29, v30, v31, v32, v33, .ref h1, .ref h2, .ref h3, v34])), (h1, .inl (ty 1, 4, .inl (upd f0 0 p2))), (h2, .inl (ty 1, 4, .inl f1)), (h3, .inl (ty 2, 240, .inr (.inl g0)))]) rfl (fun H locs hP hD hS => ?_)
            refine lv_aload_n hx hb dX12_row_42 rfl (lv_at hl 0 rfl) ?_
            refine va_get (D := D) (ci := 12) (v := .ref h2) (C := RX12) (T := TX12) (N := 38) hx hb hB inB_X12 hown hK.1 hP 0 rfl rfl 35 (by decide) (hB _ mw_205) (fun _ h9 => h9) rfl dX12_row_43 ?_
            refine lv_iload_n hx hb dX12_row_46 rfl (lv_at hl 1 rfl) ?_
            refine lv_iload_n hx hb dX12_row_47 rfl (lv_at hl 2 rfl) ?_
            refine wy_iast hx hb hK hP hD hS 2 1 rfl rfl (by unfold vp_in; decide) dX12_row_48 (j := 0) (by decide) (ws' := [(h0, .inr (12, [v0, v1, v2, v3, v4, v5, v6, v7, v8, v9, v10, v11, v12, v13, v14, v15, v16, v17, v18, v19, v20, v21, v22, v23, v24, v25, v26, v27, v28, v29, v30, v31, v32, v33, .ref h1, .ref h2, .ref h3, v34])), (h1, .inl (ty 1, 4, .inl (upd f0 0 p2))), (h2, .inl (ty 1, 4, .inl (upd f1 0 p1))), (h3, .inl (ty 2, 240, .inr (.inl g0)))]) rfl (fun H locs hP hD hS => ?_)
            refine lv_iconst (v := 0) hx hb dX12_row_49 (by decide) ?_
            refine lv_istore (lv' := [(4, .int 0), (0, .ref h0), (1, .int 0), (2, .int p1), (3, .int p2)]) hx hb dX12_row_50 hl (by decide) rfl (fun ls hl => ?_)
            refine lp_row hx hb hown hB hK (fun g9 => [(h0, .inr (12, [v0, v1, v2, v3, v4, v5, v6, v7, v8, v9, v10, v11, v12, v13, v14, v15, v16, v17, v18, v19, v20, v21, v22, v23, v24, v25, v26, v27, v28, v29, v30, v31, v32, v33, .ref h1, .ref h2, .ref h3, v34])), (h1, .inl (ty 1, 4, .inl (upd f0 0 p2))), (h2, .inl (ty 1, 4, .inl (upd f1 0 p1))), (h3, .inl (ty 2, 240, .inr (.inl g9)))]) [v0, v1, v2, v3, v4, v5, v6, v7, v8, v9, v10, v11, v12, v13, v14, v15, v16, v17, v18, v19, v20, v21, v22, v23, v24, v25, v26, v27, v28, v29, v30, v31, v32, v33, .ref h1, .ref h2, .ref h3, v34] 0 3 (fun _ => rfl) rfl (fun _ => rfl) (fun _ _ => rfl) 0 0 (by decide) (by decide) (fun y9 x10 H locs ls hP hD hS hl => ?_) 60 0 0 g0 _ _ ls rfl (by decide) hP hD hS hl
            have hP : va_P D vwCl [(h0, .inr (12, [v0, v1, v2, v3, v4, v5, v6, v7, v8, v9, v10, v11, v12, v13, v14, v15, v16, v17, v18, v19, v20, v21, v22, v23, v24, v25, v26, v27, v28, v29, v30, v31, v32, v33, .ref h1, .ref h2, .ref h3, v34])), (h1, .inl (ty 1, 4, .inl (upd f0 0 p2))), (h2, .inl (ty 1, 4, .inl (upd f1 0 p1))), (h3, .inl (ty 2, 240, .inr (.inl y9)))] H := hP
            have hD : va_D A [(h0, .inr (12, [v0, v1, v2, v3, v4, v5, v6, v7, v8, v9, v10, v11, v12, v13, v14, v15, v16, v17, v18, v19, v20, v21, v22, v23, v24, v25, v26, v27, v28, v29, v30, v31, v32, v33, .ref h1, .ref h2, .ref h3, v34])), (h1, .inl (ty 1, 4, .inl (upd f0 0 p2))), (h2, .inl (ty 1, 4, .inl (upd f1 0 p1))), (h3, .inl (ty 2, 240, .inr (.inl y9)))] := hD
            refine lv_iconst (v := 0) hx hb dX12_row_78 (by decide) ?_
            exact kr_z hx hb hr rfl hlocks hP hD hS [] [] (by decide) rfl (Or.inl ⟨(Or.inl ⟨c2, c5, c7, c8, rfl⟩), rfl, rfl⟩) (by decide) (by decide) dX12_row_79
          · refine wy_iast hx hb hK hP hD hS 1 1 rfl rfl (by unfold vp_in; decide) dX12_row_41 (j := 1) (by decide) (ws' := [(h0, .inr (12, [v0, v1, v2, v3, v4, v5, v6, v7, v8, v9, v10, v11, v12, v13, v14, v15, v16, v17, v18, v19, v20, v21, v22, v23, v24, v25, v26, v27, v28, v29, v30, v31, v32, v33, .ref h1, .ref h2, .ref h3, v34])), (h1, .inl (ty 1, 4, .inl (upd f0 1 p2))), (h2, .inl (ty 1, 4, .inl f1)), (h3, .inl (ty 2, 240, .inr (.inl g0)))]) rfl (fun H locs hP hD hS => ?_)
            refine lv_aload_n hx hb dX12_row_42 rfl (lv_at hl 0 rfl) ?_
            refine va_get (D := D) (ci := 12) (v := .ref h2) (C := RX12) (T := TX12) (N := 38) hx hb hB inB_X12 hown hK.1 hP 0 rfl rfl 35 (by decide) (hB _ mw_205) (fun _ h9 => h9) rfl dX12_row_43 ?_
            refine lv_iload_n hx hb dX12_row_46 rfl (lv_at hl 1 rfl) ?_
            refine lv_iload_n hx hb dX12_row_47 rfl (lv_at hl 2 rfl) ?_
            refine wy_iast hx hb hK hP hD hS 2 1 rfl rfl (by unfold vp_in; decide) dX12_row_48 (j := 1) (by decide) (ws' := [(h0, .inr (12, [v0, v1, v2, v3, v4, v5, v6, v7, v8, v9, v10, v11, v12, v13, v14, v15, v16, v17, v18, v19, v20, v21, v22, v23, v24, v25, v26, v27, v28, v29, v30, v31, v32, v33, .ref h1, .ref h2, .ref h3, v34])), (h1, .inl (ty 1, 4, .inl (upd f0 1 p2))), (h2, .inl (ty 1, 4, .inl (upd f1 1 p1))), (h3, .inl (ty 2, 240, .inr (.inl g0)))]) rfl (fun H locs hP hD hS => ?_)
            refine lv_iconst (v := 0) hx hb dX12_row_49 (by decide) ?_
            refine lv_istore (lv' := [(4, .int 0), (0, .ref h0), (1, .int 1), (2, .int p1), (3, .int p2)]) hx hb dX12_row_50 hl (by decide) rfl (fun ls hl => ?_)
            refine lp_row hx hb hown hB hK (fun g9 => [(h0, .inr (12, [v0, v1, v2, v3, v4, v5, v6, v7, v8, v9, v10, v11, v12, v13, v14, v15, v16, v17, v18, v19, v20, v21, v22, v23, v24, v25, v26, v27, v28, v29, v30, v31, v32, v33, .ref h1, .ref h2, .ref h3, v34])), (h1, .inl (ty 1, 4, .inl (upd f0 1 p2))), (h2, .inl (ty 1, 4, .inl (upd f1 1 p1))), (h3, .inl (ty 2, 240, .inr (.inl g9)))]) [v0, v1, v2, v3, v4, v5, v6, v7, v8, v9, v10, v11, v12, v13, v14, v15, v16, v17, v18, v19, v20, v21, v22, v23, v24, v25, v26, v27, v28, v29, v30, v31, v32, v33, .ref h1, .ref h2, .ref h3, v34] 0 3 (fun _ => rfl) rfl (fun _ => rfl) (fun _ _ => rfl) 1 1 (by decide) (by decide) (fun y11 x12 H locs ls hP hD hS hl => ?_) 60 0 0 g0 _ _ ls rfl (by decide) hP hD hS hl
            have hP : va_P D vwCl [(h0, .inr (12, [v0, v1, v2, v3, v4, v5, v6, v7, v8, v9, v10, v11, v12, v13, v14, v15, v16, v17, v18, v19, v20, v21, v22, v23, v24, v25, v26, v27, v28, v29, v30, v31, v32, v33, .ref h1, .ref h2, .ref h3, v34])), (h1, .inl (ty 1, 4, .inl (upd f0 1 p2))), (h2, .inl (ty 1, 4, .inl (upd f1 1 p1))), (h3, .inl (ty 2, 240, .inr (.inl y11)))] H := hP
            have hD : va_D A [(h0, .inr (12, [v0, v1, v2, v3, v4, v5, v6, v7, v8, v9, v10, v11, v12, v13, v14, v15, v16, v17, v18, v19, v20, v21, v22, v23, v24, v25, v26, v27, v28, v29, v30, v31, v32, v33, .ref h1, .ref h2, .ref h3, v34])), (h1, .inl (ty 1, 4, .inl (upd f0 1 p2))), (h2, .inl (ty 1, 4, .inl (upd f1 1 p1))), (h3, .inl (ty 2, 240, .inr (.inl y11)))] := hD
            refine lv_iconst (v := 0) hx hb dX12_row_78 (by decide) ?_
            exact kr_z hx hb hr rfl hlocks hP hD hS [] [] (by decide) rfl (Or.inl ⟨(Or.inr (Or.inl ⟨c2, c5, c7, c8, rfl⟩)), rfl, rfl⟩) (by decide) (by decide) dX12_row_79
          · refine wy_iast hx hb hK hP hD hS 1 1 rfl rfl (by unfold vp_in; decide) dX12_row_41 (j := 2) (by decide) (ws' := [(h0, .inr (12, [v0, v1, v2, v3, v4, v5, v6, v7, v8, v9, v10, v11, v12, v13, v14, v15, v16, v17, v18, v19, v20, v21, v22, v23, v24, v25, v26, v27, v28, v29, v30, v31, v32, v33, .ref h1, .ref h2, .ref h3, v34])), (h1, .inl (ty 1, 4, .inl (upd f0 2 p2))), (h2, .inl (ty 1, 4, .inl f1)), (h3, .inl (ty 2, 240, .inr (.inl g0)))]) rfl (fun H locs hP hD hS => ?_)
            refine lv_aload_n hx hb dX12_row_42 rfl (lv_at hl 0 rfl) ?_
            refine va_get (D := D) (ci := 12) (v := .ref h2) (C := RX12) (T := TX12) (N := 38) hx hb hB inB_X12 hown hK.1 hP 0 rfl rfl 35 (by decide) (hB _ mw_205) (fun _ h9 => h9) rfl dX12_row_43 ?_
            refine lv_iload_n hx hb dX12_row_46 rfl (lv_at hl 1 rfl) ?_
            refine lv_iload_n hx hb dX12_row_47 rfl (lv_at hl 2 rfl) ?_
            refine wy_iast hx hb hK hP hD hS 2 1 rfl rfl (by unfold vp_in; decide) dX12_row_48 (j := 2) (by decide) (ws' := [(h0, .inr (12, [v0, v1, v2, v3, v4, v5, v6, v7, v8, v9, v10, v11, v12, v13, v14, v15, v16, v17, v18, v19, v20, v21, v22, v23, v24, v25, v26, v27, v28, v29, v30, v31, v32, v33, .ref h1, .ref h2, .ref h3, v34])), (h1, .inl (ty 1, 4, .inl (upd f0 2 p2))), (h2, .inl (ty 1, 4, .inl (upd f1 2 p1))), (h3, .inl (ty 2, 240, .inr (.inl g0)))]) rfl (fun H locs hP hD hS => ?_)
            refine lv_iconst (v := 0) hx hb dX12_row_49 (by decide) ?_
            refine lv_istore (lv' := [(4, .int 0), (0, .ref h0), (1, .int 2), (2, .int p1), (3, .int p2)]) hx hb dX12_row_50 hl (by decide) rfl (fun ls hl => ?_)
            refine lp_row hx hb hown hB hK (fun g9 => [(h0, .inr (12, [v0, v1, v2, v3, v4, v5, v6, v7, v8, v9, v10, v11, v12, v13, v14, v15, v16, v17, v18, v19, v20, v21, v22, v23, v24, v25, v26, v27, v28, v29, v30, v31, v32, v33, .ref h1, .ref h2, .ref h3, v34])), (h1, .inl (ty 1, 4, .inl (upd f0 2 p2))), (h2, .inl (ty 1, 4, .inl (upd f1 2 p1))), (h3, .inl (ty 2, 240, .inr (.inl g9)))]) [v0, v1, v2, v3, v4, v5, v6, v7, v8, v9, v10, v11, v12, v13, v14, v15, v16, v17, v18, v19, v20, v21, v22, v23, v24, v25, v26, v27, v28, v29, v30, v31, v32, v33, .ref h1, .ref h2, .ref h3, v34] 0 3 (fun _ => rfl) rfl (fun _ => rfl) (fun _ _ => rfl) 2 2 (by decide) (by decide) (fun y13 x14 H locs ls hP hD hS hl => ?_) 60 0 0 g0 _ _ ls rfl (by decide) hP hD hS hl
            have hP : va_P D vwCl [(h0, .inr (12, [v0, v1, v2, v3, v4, v5, v6, v7, v8, v9, v10, v11, v12, v13, v14, v15, v16, v17, v18, v19, v20, v21, v22, v23, v24, v25, v26, v27, v28, v29, v30, v31, v32, v33, .ref h1, .ref h2, .ref h3, v34])), (h1, .inl (ty 1, 4, .inl (upd f0 2 p2))), (h2, .inl (ty 1, 4, .inl (upd f1 2 p1))), (h3, .inl (ty 2, 240, .inr (.inl y13)))] H := hP
            have hD : va_D A [(h0, .inr (12, [v0, v1, v2, v3, v4, v5, v6, v7, v8, v9, v10, v11, v12, v13, v14, v15, v16, v17, v18, v19, v20, v21, v22, v23, v24, v25, v26, v27, v28, v29, v30, v31, v32, v33, .ref h1, .ref h2, .ref h3, v34])), (h1, .inl (ty 1, 4, .inl (upd f0 2 p2))), (h2, .inl (ty 1, 4, .inl (upd f1 2 p1))), (h3, .inl (ty 2, 240, .inr (.inl y13)))] := hD
            refine lv_iconst (v := 0) hx hb dX12_row_78 (by decide) ?_
            exact kr_z hx hb hr rfl hlocks hP hD hS [] [] (by decide) rfl (Or.inl ⟨(Or.inr (Or.inr (Or.inl ⟨c2, c5, c7, c8, rfl⟩))), rfl, rfl⟩) (by decide) (by decide) dX12_row_79
          · refine wy_iast hx hb hK hP hD hS 1 1 rfl rfl (by unfold vp_in; decide) dX12_row_41 (j := 3) (by decide) (ws' := [(h0, .inr (12, [v0, v1, v2, v3, v4, v5, v6, v7, v8, v9, v10, v11, v12, v13, v14, v15, v16, v17, v18, v19, v20, v21, v22, v23, v24, v25, v26, v27, v28, v29, v30, v31, v32, v33, .ref h1, .ref h2, .ref h3, v34])), (h1, .inl (ty 1, 4, .inl (upd f0 3 p2))), (h2, .inl (ty 1, 4, .inl f1)), (h3, .inl (ty 2, 240, .inr (.inl g0)))]) rfl (fun H locs hP hD hS => ?_)
            refine lv_aload_n hx hb dX12_row_42 rfl (lv_at hl 0 rfl) ?_
            refine va_get (D := D) (ci := 12) (v := .ref h2) (C := RX12) (T := TX12) (N := 38) hx hb hB inB_X12 hown hK.1 hP 0 rfl rfl 35 (by decide) (hB _ mw_205) (fun _ h9 => h9) rfl dX12_row_43 ?_
            refine lv_iload_n hx hb dX12_row_46 rfl (lv_at hl 1 rfl) ?_
            refine lv_iload_n hx hb dX12_row_47 rfl (lv_at hl 2 rfl) ?_
            refine wy_iast hx hb hK hP hD hS 2 1 rfl rfl (by unfold vp_in; decide) dX12_row_48 (j := 3) (by decide) (ws' := [(h0, .inr (12, [v0, v1, v2, v3, v4, v5, v6, v7, v8, v9, v10, v11, v12, v13, v14, v15, v16, v17, v18, v19, v20, v21, v22, v23, v24, v25, v26, v27, v28, v29, v30, v31, v32, v33, .ref h1, .ref h2, .ref h3, v34])), (h1, .inl (ty 1, 4, .inl (upd f0 3 p2))), (h2, .inl (ty 1, 4, .inl (upd f1 3 p1))), (h3, .inl (ty 2, 240, .inr (.inl g0)))]) rfl (fun H locs hP hD hS => ?_)
            refine lv_iconst (v := 0) hx hb dX12_row_49 (by decide) ?_
            refine lv_istore (lv' := [(4, .int 0), (0, .ref h0), (1, .int 3), (2, .int p1), (3, .int p2)]) hx hb dX12_row_50 hl (by decide) rfl (fun ls hl => ?_)
            refine lp_row hx hb hown hB hK (fun g9 => [(h0, .inr (12, [v0, v1, v2, v3, v4, v5, v6, v7, v8, v9, v10, v11, v12, v13, v14, v15, v16, v17, v18, v19, v20, v21, v22, v23, v24, v25, v26, v27, v28, v29, v30, v31, v32, v33, .ref h1, .ref h2, .ref h3, v34])), (h1, .inl (ty 1, 4, .inl (upd f0 3 p2))), (h2, .inl (ty 1, 4, .inl (upd f1 3 p1))), (h3, .inl (ty 2, 240, .inr (.inl g9)))]) [v0, v1, v2, v3, v4, v5, v6, v7, v8, v9, v10, v11, v12, v13, v14, v15, v16, v17, v18, v19, v20, v21, v22, v23, v24, v25, v26, v27, v28, v29, v30, v31, v32, v33, .ref h1, .ref h2, .ref h3, v34] 0 3 (fun _ => rfl) rfl (fun _ => rfl) (fun _ _ => rfl) 3 3 (by decide) (by decide) (fun y15 x16 H locs ls hP hD hS hl => ?_) 60 0 0 g0 _ _ ls rfl (by decide) hP hD hS hl
            have hP : va_P D vwCl [(h0, .inr (12, [v0, v1, v2, v3, v4, v5, v6, v7, v8, v9, v10, v11, v12, v13, v14, v15, v16, v17, v18, v19, v20, v21, v22, v23, v24, v25, v26, v27, v28, v29, v30, v31, v32, v33, .ref h1, .ref h2, .ref h3, v34])), (h1, .inl (ty 1, 4, .inl (upd f0 3 p2))), (h2, .inl (ty 1, 4, .inl (upd f1 3 p1))), (h3, .inl (ty 2, 240, .inr (.inl y15)))] H := hP
            have hD : va_D A [(h0, .inr (12, [v0, v1, v2, v3, v4, v5, v6, v7, v8, v9, v10, v11, v12, v13, v14, v15, v16, v17, v18, v19, v20, v21, v22, v23, v24, v25, v26, v27, v28, v29, v30, v31, v32, v33, .ref h1, .ref h2, .ref h3, v34])), (h1, .inl (ty 1, 4, .inl (upd f0 3 p2))), (h2, .inl (ty 1, 4, .inl (upd f1 3 p1))), (h3, .inl (ty 2, 240, .inr (.inl y15)))] := hD
            refine lv_iconst (v := 0) hx hb dX12_row_78 (by decide) ?_
            exact kr_z hx hb hr rfl hlocks hP hD hS [] [] (by decide) rfl (Or.inl ⟨(Or.inr (Or.inr (Or.inr ⟨c2, c5, c7, c8, rfl⟩))), rfl, rfl⟩) (by decide) (by decide) dX12_row_79
        · refine lv_bipush (v := (-3)) hx hb dX12_row_32 (by decide) ?_
          exact kr_z hx hb hr rfl hlocks hP hD hS [] [] (by decide) rfl (Or.inr (Or.inl ⟨⟨c2, c5, c7, c8⟩, rfl, rfl⟩)) (by decide) (by decide) dX12_row_34
      · refine lv_bipush (v := (-2)) hx hb dX12_row_25 (by decide) ?_
        exact kr_z hx hb hr rfl hlocks hP hD hS [] [] (by decide) rfl (Or.inr (Or.inr ⟨(Or.inl ⟨c2, c5, c7⟩), rfl, rfl⟩)) (by decide) (by decide) dX12_row_27
    · have hP : va_P D vwCl [(h0, .inr (12, [v0, v1, v2, v3, v4, v5, v6, v7, v8, v9, v10, v11, v12, v13, v14, v15, v16, v17, v18, v19, v20, v21, v22, v23, v24, v25, v26, v27, v28, v29, v30, v31, v32, v33, .ref h1, .ref h2, .ref h3, v34])), (h1, .inl (ty 1, 4, .inl f0)), (h2, .inl (ty 1, 4, .inl f1)), (h3, .inl (ty 2, 240, .inr (.inl g0)))] H := hP
      have hD : va_D A [(h0, .inr (12, [v0, v1, v2, v3, v4, v5, v6, v7, v8, v9, v10, v11, v12, v13, v14, v15, v16, v17, v18, v19, v20, v21, v22, v23, v24, v25, v26, v27, v28, v29, v30, v31, v32, v33, .ref h1, .ref h2, .ref h3, v34])), (h1, .inl (ty 1, 4, .inl f0)), (h2, .inl (ty 1, 4, .inl f1)), (h3, .inl (ty 2, 240, .inr (.inl g0)))] := hD
      refine lv_if_eq (tgt := 25) hx hb dX12_row_16 (by decide) (fun _ => ?_) (fun h9 => absurd (by decide) h9)
      refine lv_bipush (v := (-2)) hx hb dX12_row_25 (by decide) ?_
      exact kr_z hx hb hr rfl hlocks hP hD hS [] [] (by decide) rfl (Or.inr (Or.inr ⟨(Or.inr (Or.inl ⟨c2, c6⟩)), rfl, rfl⟩)) (by decide) (by decide) dX12_row_27
  · have hP : va_P D vwCl [(h0, .inr (12, [v0, v1, v2, v3, v4, v5, v6, v7, v8, v9, v10, v11, v12, v13, v14, v15, v16, v17, v18, v19, v20, v21, v22, v23, v24, v25, v26, v27, v28, v29, v30, v31, v32, v33, .ref h1, .ref h2, .ref h3, v34])), (h1, .inl (ty 1, 4, .inl f0)), (h2, .inl (ty 1, 4, .inl f1)), (h3, .inl (ty 2, 240, .inr (.inl g0)))] H := hP
    have hD : va_D A [(h0, .inr (12, [v0, v1, v2, v3, v4, v5, v6, v7, v8, v9, v10, v11, v12, v13, v14, v15, v16, v17, v18, v19, v20, v21, v22, v23, v24, v25, v26, v27, v28, v29, v30, v31, v32, v33, .ref h1, .ref h2, .ref h3, v34])), (h1, .inl (ty 1, 4, .inl f0)), (h2, .inl (ty 1, 4, .inl f1)), (h3, .inl (ty 2, 240, .inr (.inl g0)))] := hD
    refine lv_if_eq (tgt := 25) hx hb dX12_row_4 (by decide) (fun _ => ?_) (fun h9 => absurd (by decide) h9)
    refine lv_bipush (v := (-2)) hx hb dX12_row_25 (by decide) ?_
    exact kr_z hx hb hr rfl hlocks hP hD hS [] [] (by decide) rfl (Or.inr (Or.inr ⟨(Or.inr (Or.inr c3)), rfl, rfl⟩)) (by decide) (by decide) dX12_row_27
set_option maxHeartbeats 4000000 in
set_option maxRecDepth 100000 in
theorem c228_X12_write (l : Launch) (D : va_G) (ty : Nat → ClassId) (sz : Nat) (h0 : Nat) (h1 : Nat) (p0 : Int32) (p1 : Int32) (k0 : Int64) (v0 : Value) (v1 : Value) (v2 : Value) (v3 : Value) (v4 : Value) (v5 : Value) (v6 : Value) (v7 : Value) (v8 : Value) (v9 : Value) (v10 : Value) (v11 : Value) (v12 : Value) (v13 : Value) (v14 : Value) (v15 : Value) (v16 : Value) (v17 : Value) (v18 : Value) (v19 : Value) (v20 : Value) (v21 : Value) (v22 : Value) (v23 : Value) (v24 : Value) (v25 : Value) (v26 : Value) (v27 : Value) (v28 : Value) (v29 : Value) (v30 : Value) (v31 : Value) (v32 : Value) (v33 : Value) (v34 : Value) (v35 : Value) (v36 : Value) : cQ l yX12_write cX12_write 5 (some .int) 2 45 [.ref h0, .int p0, .int p1, .long k0] D ty [(h0, .inr (12, [v0, v1, v2, v3, v4, v5, v6, v7, v8, v9, v10, v11, v12, v13, v14, v15, v16, v17, v18, v19, v20, v21, v22, v23, v24, v25, v26, v27, v28, v29, v30, v31, v32, v33, .ref h1, v34, v35, v36])), (h1, .inl (ty 1, 4, .inl (upd (upd (upd (upd (kf 0) 0 (-1)) 1 (-1)) 2 (-1)) 3 (-1))))] sz (qI (fun (r : Int32) (u : va_W) => ((((((0 ≤ (Int32.toInt64 p0)) ∧ ((Int32.toInt64 p0) ≤ 3))) ∧ (p0 = 0)) ∨ ((((0 ≤ (Int32.toInt64 p0)) ∧ ((Int32.toInt64 p0) ≤ 3))) ∧ (p0 = 1)) ∨ ((((0 ≤ (Int32.toInt64 p0)) ∧ ((Int32.toInt64 p0) ≤ 3))) ∧ (p0 = 2)) ∨ ((((0 ≤ (Int32.toInt64 p0)) ∧ ((Int32.toInt64 p0) ≤ 3))) ∧ (p0 = 3))) ∧ (-6) = r ∧ [] = u) ∨ (((((¬ (0 ≤ (Int32.toInt64 p0))) ∨ (¬ ((Int32.toInt64 p0) ≤ 3))))) ∧ (-2) = r ∧ [] = u))) 0 0 := by
  refine cQ.of (by decide) (Nat.le_of_ble_eq_true rfl) (fun p e s m below meth c A ls C hsz hP hK hD hA hl => ?_)
  obtain ⟨hx, hb, hml, hown, hB, hr, hlocks, hin⟩ := C
  have hown : s.vm.findClass RX12 = some m.cls := hown
  have hS : va_S A s.heap s.heap [] := va_S.rf
  have hl : lv_has ls 5 [(0, .ref h0), (1, .int p0), (2, .int p1), (3, .long k0)] := hl
  refine lv_iload_n hx hb dX12_write_0 rfl (lv_at hl 1 rfl) ?_
  refine kc_i (va_runS (As := [.int p0]) (rest := []) ⟨hx, hb, hml, hown, hB⟩ (c152_X12_isSlot l D ty s.heap.size p0) (va_cwS 1 hB (bw_S mw_477 mw_478 mw_211 mw_476) rfl rfl rfl (by decide +kernel) ⟨Nat.le_of_ble_eq_true rfl, Nat.le_of_ble_eq_true rfl⟩) (kp_S hK hP hD [] (by decide) rfl) rfl rfl hl.1 rfl (lv_room (Nat.le_of_ble_eq_true rfl)) dX12_write_1 ⟨Nat.le_of_ble_eq_true rfl, Nat.le_of_ble_eq_true rfl⟩) hP hD hS hA [] [0, 1] (wr := [(h0, .inr (12, [v0, v1, v2, v3, v4, v5, v6, v7, v8, v9, v10, v11, v12, v13, v14, v15, v16, v17, v18, v19, v20, v21, v22, v23, v24, v25, v26, v27, v28, v29, v30, v31, v32, v33, .ref h1, v34, v35, v36])), (h1, .inl (ty 1, 4, .inl (upd (upd (upd (upd (kf 0) 0 (-1)) 1 (-1)) 2 (-1)) 3 (-1))))]) rfl rfl (by decide) (by decide) (fun r u H locs w1 hP hD hS => ?_)
  rcases w1 with ⟨c2, rfl, rfl⟩ | ⟨c3, rfl, rfl⟩
  · have hP : va_P D vwCl [(h0, .inr (12, [v0, v1, v2, v3, v4, v5, v6, v7, v8, v9, v10, v11, v12, v13, v14, v15, v16, v17, v18, v19, v20, v21, v22, v23, v24, v25, v26, v27, v28, v29, v30, v31, v32, v33, .ref h1, v34, v35, v36])), (h1, .inl (ty 1, 4, .inl (upd (upd (upd (upd (kf 0) 0 (-1)) 1 (-1)) 2 (-1)) 3 (-1))))] H := hP
    have hD : va_D A [(h0, .inr (12, [v0, v1, v2, v3, v4, v5, v6, v7, v8, v9, v10, v11, v12, v13, v14, v15, v16, v17, v18, v19, v20, v21, v22, v23, v24, v25, v26, v27, v28, v29, v30, v31, v32, v33, .ref h1, v34, v35, v36])), (h1, .inl (ty 1, 4, .inl (upd (upd (upd (upd (kf 0) 0 (-1)) 1 (-1)) 2 (-1)) 3 (-1))))] := hD
    refine lv_if_ne (tgt := 10) hx hb dX12_write_4 (by decide) (fun _ => ?_) (fun h9 => absurd h9 (by decide))
    refine lv_aload_n hx hb dX12_write_10 rfl (lv_at hl 0 rfl) ?_
    refine va_get (D := D) (ci := 12) (v := .ref h1) (C := RX12) (T := TX12) (N := 38) hx hb hB inB_X12 hown hK.1 hP 0 rfl rfl 34 (by decide) (hB _ mw_204) (fun _ h9 => h9) rfl dX12_write_11 ?_
    refine lv_iload_n hx hb dX12_write_14 rfl (lv_at hl 1 rfl) ?_
    rcases ps_6 p0 c2 with rfl | rfl | rfl | rfl
    · refine va_iald hx hb hK.1 hP 1 1 rfl rfl (by unfold vp_in; decide) dX12_write_15 ?_
      refine tp_i (v := (-1)) rfl ?_
      refine lv_iconst (v := (-1)) hx hb dX12_write_16 (by decide) ?_
      refine lv_icmp_ne (tgt := 23) hx hb dX12_write_17 (by decide) (fun h9 => absurd (by decide) h9) (fun _ => ?_)
      refine lv_bipush (v := (-6)) hx hb dX12_write_20 (by decide) ?_
      exact kr_z hx hb hr rfl hlocks hP hD hS [] [] (by decide) rfl (Or.inl ⟨(Or.inl ⟨c2, rfl⟩), rfl, rfl⟩) (by decide) (by decide) dX12_write_22
    · refine va_iald hx hb hK.1 hP 1 1 rfl rfl (by unfold vp_in; decide) dX12_write_15 ?_
      refine tp_i (v := (-1)) rfl ?_
      refine lv_iconst (v := (-1)) hx hb dX12_write_16 (by decide) ?_
      refine lv_icmp_ne (tgt := 23) hx hb dX12_write_17 (by decide) (fun h9 => absurd (by decide) h9) (fun _ => ?_)
      refine lv_bipush (v := (-6)) hx hb dX12_write_20 (by decide) ?_
      exact kr_z hx hb hr rfl hlocks hP hD hS [] [] (by decide) rfl (Or.inl ⟨(Or.inr (Or.inl ⟨c2, rfl⟩)), rfl, rfl⟩) (by decide) (by decide) dX12_write_22
    · refine va_iald hx hb hK.1 hP 1 1 rfl rfl (by unfold vp_in; decide) dX12_write_15 ?_
      refine tp_i (v := (-1)) rfl ?_
      refine lv_iconst (v := (-1)) hx hb dX12_write_16 (by decide) ?_
      refine lv_icmp_ne (tgt := 23) hx hb dX12_write_17 (by decide) (fun h9 => absurd (by decide) h9) (fun _ => ?_)
      refine lv_bipush (v := (-6)) hx hb dX12_write_20 (by decide) ?_
      exact kr_z hx hb hr rfl hlocks hP hD hS [] [] (by decide) rfl (Or.inl ⟨(Or.inr (Or.inr (Or.inl ⟨c2, rfl⟩))), rfl, rfl⟩) (by decide) (by decide) dX12_write_22
    · refine va_iald hx hb hK.1 hP 1 1 rfl rfl (by unfold vp_in; decide) dX12_write_15 ?_
      refine tp_i (v := (-1)) rfl ?_
      refine lv_iconst (v := (-1)) hx hb dX12_write_16 (by decide) ?_
      refine lv_icmp_ne (tgt := 23) hx hb dX12_write_17 (by decide) (fun h9 => absurd (by decide) h9) (fun _ => ?_)
      refine lv_bipush (v := (-6)) hx hb dX12_write_20 (by decide) ?_
      exact kr_z hx hb hr rfl hlocks hP hD hS [] [] (by decide) rfl (Or.inl ⟨(Or.inr (Or.inr (Or.inr ⟨c2, rfl⟩))), rfl, rfl⟩) (by decide) (by decide) dX12_write_22
  · have hP : va_P D vwCl [(h0, .inr (12, [v0, v1, v2, v3, v4, v5, v6, v7, v8, v9, v10, v11, v12, v13, v14, v15, v16, v17, v18, v19, v20, v21, v22, v23, v24, v25, v26, v27, v28, v29, v30, v31, v32, v33, .ref h1, v34, v35, v36])), (h1, .inl (ty 1, 4, .inl (upd (upd (upd (upd (kf 0) 0 (-1)) 1 (-1)) 2 (-1)) 3 (-1))))] H := hP
    have hD : va_D A [(h0, .inr (12, [v0, v1, v2, v3, v4, v5, v6, v7, v8, v9, v10, v11, v12, v13, v14, v15, v16, v17, v18, v19, v20, v21, v22, v23, v24, v25, v26, v27, v28, v29, v30, v31, v32, v33, .ref h1, v34, v35, v36])), (h1, .inl (ty 1, 4, .inl (upd (upd (upd (upd (kf 0) 0 (-1)) 1 (-1)) 2 (-1)) 3 (-1))))] := hD
    refine lv_if_ne (tgt := 10) hx hb dX12_write_4 (by decide) (fun h9 => absurd (by decide) h9) (fun _ => ?_)
    refine lv_bipush (v := (-2)) hx hb dX12_write_7 (by decide) ?_
    exact kr_z hx hb hr rfl hlocks hP hD hS [] [] (by decide) rfl (Or.inr ⟨c3, rfl, rfl⟩) (by decide) (by decide) dX12_write_9
set_option maxHeartbeats 4000000 in
set_option maxRecDepth 100000 in
theorem c229_X12_paste (l : Launch) (D : va_G) (ty : Nat → ClassId) (sz : Nat) (h0 : Nat) (h1 : Nat) (p0 : Int32) (p1 : Int32) (p2 : Int32) (p3 : Int32) (p4 : Int32) (v0 : Value) (v1 : Value) (v2 : Value) (v3 : Value) (v4 : Value) (v5 : Value) (v6 : Value) (v7 : Value) (v8 : Value) (v9 : Value) (v10 : Value) (v11 : Value) (v12 : Value) (v13 : Value) (v14 : Value) (v15 : Value) (v16 : Value) (v17 : Value) (v18 : Value) (v19 : Value) (v20 : Value) (v21 : Value) (v22 : Value) (v23 : Value) (v24 : Value) (v25 : Value) (v26 : Value) (v27 : Value) (v28 : Value) (v29 : Value) (v30 : Value) (v31 : Value) (v32 : Value) (v33 : Value) (v34 : Value) (v35 : Value) (v36 : Value) : cQ l yX12_paste cX12_paste 7 (some .int) 2 45 [.ref h0, .int p0, .int p1, .int p2, .int p3, .int p4] D ty [(h0, .inr (12, [v0, v1, v2, v3, v4, v5, v6, v7, v8, v9, v10, v11, v12, v13, v14, v15, v16, v17, v18, v19, v20, v21, v22, v23, v24, v25, v26, v27, v28, v29, v30, v31, v32, v33, .ref h1, v34, v35, v36])), (h1, .inl (ty 1, 4, .inl (upd (upd (upd (upd (kf 0) 0 (-1)) 1 (-1)) 2 (-1)) 3 (-1))))] sz (qI (fun (r : Int32) (u : va_W) => ((((((0 ≤ (Int32.toInt64 p0)) ∧ ((Int32.toInt64 p0) ≤ 3))) ∧ (((0 ≤ (Int32.toInt64 p2)) ∧ ((Int32.toInt64 p2) ≤ 3))) ∧ (p0 = 0)) ∨ ((((0 ≤ (Int32.toInt64 p0)) ∧ ((Int32.toInt64 p0) ≤ 3))) ∧ (((0 ≤ (Int32.toInt64 p2)) ∧ ((Int32.toInt64 p2) ≤ 3))) ∧ (p0 = 1)) ∨ ((((0 ≤ (Int32.toInt64 p0)) ∧ ((Int32.toInt64 p0) ≤ 3))) ∧ (((0 ≤ (Int32.toInt64 p2)) ∧ ((Int32.toInt64 p2) ≤ 3))) ∧ (p0 = 2)) ∨ ((((0 ≤ (Int32.toInt64 p0)) ∧ ((Int32.toInt64 p0) ≤ 3))) ∧ (((0 ≤ (Int32.toInt64 p2)) ∧ ((Int32.toInt64 p2) ≤ 3))) ∧ (p0 = 3))) ∧ (-6) = r ∧ [] = u) ∨ ((((((0 ≤ (Int32.toInt64 p0)) ∧ ((Int32.toInt64 p0) ≤ 3))) ∧ (((¬ (0 ≤ (Int32.toInt64 p2))) ∨ (¬ ((Int32.toInt64 p2) ≤ 3))))) ∨ ((((¬ (0 ≤ (Int32.toInt64 p0))) ∨ (¬ ((Int32.toInt64 p0) ≤ 3)))))) ∧ (-2) = r ∧ [] = u))) 0 0 := by
  refine cQ.of (by decide) (Nat.le_of_ble_eq_true rfl) (fun p e s m below meth c A ls C hsz hP hK hD hA hl => ?_)
  obtain ⟨hx, hb, hml, hown, hB, hr, hlocks, hin⟩ := C
  have hown : s.vm.findClass RX12 = some m.cls := hown
  have hS : va_S A s.heap s.heap [] := va_S.rf
  have hl : lv_has ls 7 [(0, .ref h0), (1, .int p0), (2, .int p1), (3, .int p2), (4, .int p3), (5, .int p4)] := hl
  refine lv_iload_n hx hb dX12_paste_0 rfl (lv_at hl 1 rfl) ?_
  refine kc_i (va_runS (As := [.int p0]) (rest := []) ⟨hx, hb, hml, hown, hB⟩ (c152_X12_isSlot l D ty s.heap.size p0) (va_cwS 1 hB (bw_S mw_477 mw_478 mw_211 mw_476) rfl rfl rfl (by decide +kernel) ⟨Nat.le_of_ble_eq_true rfl, Nat.le_of_ble_eq_true rfl⟩) (kp_S hK hP hD [] (by decide) rfl) rfl rfl hl.1 rfl (lv_room (Nat.le_of_ble_eq_true rfl)) dX12_paste_1 ⟨Nat.le_of_ble_eq_true rfl, Nat.le_of_ble_eq_true rfl⟩) hP hD hS hA [] [0, 1] (wr := [(h0, .inr (12, [v0, v1, v2, v3, v4, v5, v6, v7, v8, v9, v10, v11, v12, v13, v14, v15, v16, v17, v18, v19, v20, v21, v22, v23, v24, v25, v26, v27, v28, v29, v30, v31, v32, v33, .ref h1, v34, v35, v36])), (h1, .inl (ty 1, 4, .inl (upd (upd (upd (upd (kf 0) 0 (-1)) 1 (-1)) 2 (-1)) 3 (-1))))]) rfl rfl (by decide) (by decide) (fun r u H locs w1 hP hD hS => ?_)
  rcases w1 with ⟨c2, rfl, rfl⟩ | ⟨c3, rfl, rfl⟩
  · have hP : va_P D vwCl [(h0, .inr (12, [v0, v1, v2, v3, v4, v5, v6, v7, v8, v9, v10, v11, v12, v13, v14, v15, v16, v17, v18, v19, v20, v21, v22, v23, v24, v25, v26, v27, v28, v29, v30, v31, v32, v33, .ref h1, v34, v35, v36])), (h1, .inl (ty 1, 4, .inl (upd (upd (upd (upd (kf 0) 0 (-1)) 1 (-1)) 2 (-1)) 3 (-1))))] H := hP
    have hD : va_D A [(h0, .inr (12, [v0, v1, v2, v3, v4, v5, v6, v7, v8, v9, v10, v11, v12, v13, v14, v15, v16, v17, v18, v19, v20, v21, v22, v23, v24, v25, v26, v27, v28, v29, v30, v31, v32, v33, .ref h1, v34, v35, v36])), (h1, .inl (ty 1, 4, .inl (upd (upd (upd (upd (kf 0) 0 (-1)) 1 (-1)) 2 (-1)) 3 (-1))))] := hD
    refine lv_if_eq (tgt := 14) hx hb dX12_paste_4 (by decide) (fun h9 => absurd h9 (by decide)) (fun _ => ?_)
    refine lv_iload_n hx hb dX12_paste_7 rfl (lv_at hl 3 rfl) ?_
    refine kc_i (va_runS (As := [.int p2]) (rest := []) ⟨hx, hb, hml, hown, hB⟩ (c152_X12_isSlot l D ty H.size p2) (va_cwS 1 hB (bw_S mw_477 mw_478 mw_211 mw_476) rfl rfl rfl (by decide +kernel) ⟨Nat.le_of_ble_eq_true rfl, Nat.le_of_ble_eq_true rfl⟩) (kp_S hK hP hD [] (by decide) rfl) rfl rfl hl.1 rfl (lv_room (Nat.le_of_ble_eq_true rfl)) dX12_paste_8 ⟨Nat.le_of_ble_eq_true rfl, Nat.le_of_ble_eq_true rfl⟩) hP hD hS hA [] [0, 1] (wr := [(h0, .inr (12, [v0, v1, v2, v3, v4, v5, v6, v7, v8, v9, v10, v11, v12, v13, v14, v15, v16, v17, v18, v19, v20, v21, v22, v23, v24, v25, v26, v27, v28, v29, v30, v31, v32, v33, .ref h1, v34, v35, v36])), (h1, .inl (ty 1, 4, .inl (upd (upd (upd (upd (kf 0) 0 (-1)) 1 (-1)) 2 (-1)) 3 (-1))))]) rfl rfl (by decide) (by decide) (fun r u H locs w4 hP hD hS => ?_)
    rcases w4 with ⟨c5, rfl, rfl⟩ | ⟨c6, rfl, rfl⟩
    · have hP : va_P D vwCl [(h0, .inr (12, [v0, v1, v2, v3, v4, v5, v6, v7, v8, v9, v10, v11, v12, v13, v14, v15, v16, v17, v18, v19, v20, v21, v22, v23, v24, v25, v26, v27, v28, v29, v30, v31, v32, v33, .ref h1, v34, v35, v36])), (h1, .inl (ty 1, 4, .inl (upd (upd (upd (upd (kf 0) 0 (-1)) 1 (-1)) 2 (-1)) 3 (-1))))] H := hP
      have hD : va_D A [(h0, .inr (12, [v0, v1, v2, v3, v4, v5, v6, v7, v8, v9, v10, v11, v12, v13, v14, v15, v16, v17, v18, v19, v20, v21, v22, v23, v24, v25, v26, v27, v28, v29, v30, v31, v32, v33, .ref h1, v34, v35, v36])), (h1, .inl (ty 1, 4, .inl (upd (upd (upd (upd (kf 0) 0 (-1)) 1 (-1)) 2 (-1)) 3 (-1))))] := hD
      refine lv_if_ne (tgt := 17) hx hb dX12_paste_11 (by decide) (fun _ => ?_) (fun h9 => absurd h9 (by decide))
      refine lv_aload_n hx hb dX12_paste_17 rfl (lv_at hl 0 rfl) ?_
      refine va_get (D := D) (ci := 12) (v := .ref h1) (C := RX12) (T := TX12) (N := 38) hx hb hB inB_X12 hown hK.1 hP 0 rfl rfl 34 (by decide) (hB _ mw_204) (fun _ h9 => h9) rfl dX12_paste_18 ?_
      refine lv_iload_n hx hb dX12_paste_21 rfl (lv_at hl 1 rfl) ?_
      rcases ps_6 p0 c2 with rfl | rfl | rfl | rfl
      · refine va_iald hx hb hK.1 hP 1 1 rfl rfl (by unfold vp_in; decide) dX12_paste_22 ?_
        refine tp_i (v := (-1)) rfl ?_
        refine lv_iconst (v := (-1)) hx hb dX12_paste_23 (by decide) ?_
        refine lv_icmp_eq (tgt := 37) hx hb dX12_paste_24 (by decide) (fun _ => ?_) (fun h9 => absurd (by decide) h9)
        refine lv_bipush (v := (-6)) hx hb dX12_paste_37 (by decide) ?_
        exact kr_z hx hb hr rfl hlocks hP hD hS [] [] (by decide) rfl (Or.inl ⟨(Or.inl ⟨c2, c5, rfl⟩), rfl, rfl⟩) (by decide) (by decide) dX12_paste_39
      · refine va_iald hx hb hK.1 hP 1 1 rfl rfl (by unfold vp_in; decide) dX12_paste_22 ?_
        refine tp_i (v := (-1)) rfl ?_
        refine lv_iconst (v := (-1)) hx hb dX12_paste_23 (by decide) ?_
        refine lv_icmp_eq (tgt := 37) hx hb dX12_paste_24 (by decide) (fun _ => ?_) (fun h9 => absurd (by decide) h9)
        refine lv_bipush (v := (-6)) hx hb dX12_paste_37 (by decide) ?_
        exact kr_z hx hb hr rfl hlocks hP hD hS [] [] (by decide) rfl (Or.inl ⟨(Or.inr (Or.inl ⟨c2, c5, rfl⟩)), rfl, rfl⟩) (by decide) (by decide) dX12_paste_39
      · refine va_iald hx hb hK.1 hP 1 1 rfl rfl (by unfold vp_in; decide) dX12_paste_22 ?_
        refine tp_i (v := (-1)) rfl ?_
        refine lv_iconst (v := (-1)) hx hb dX12_paste_23 (by decide) ?_
        refine lv_icmp_eq (tgt := 37) hx hb dX12_paste_24 (by decide) (fun _ => ?_) (fun h9 => absurd (by decide) h9)
        refine lv_bipush (v := (-6)) hx hb dX12_paste_37 (by decide) ?_
        exact kr_z hx hb hr rfl hlocks hP hD hS [] [] (by decide) rfl (Or.inl ⟨(Or.inr (Or.inr (Or.inl ⟨c2, c5, rfl⟩))), rfl, rfl⟩) (by decide) (by decide) dX12_paste_39
      · refine va_iald hx hb hK.1 hP 1 1 rfl rfl (by unfold vp_in; decide) dX12_paste_22 ?_
        refine tp_i (v := (-1)) rfl ?_
        refine lv_iconst (v := (-1)) hx hb dX12_paste_23 (by decide) ?_
        refine lv_icmp_eq (tgt := 37) hx hb dX12_paste_24 (by decide) (fun _ => ?_) (fun h9 => absurd (by decide) h9)
        refine lv_bipush (v := (-6)) hx hb dX12_paste_37 (by decide) ?_
        exact kr_z hx hb hr rfl hlocks hP hD hS [] [] (by decide) rfl (Or.inl ⟨(Or.inr (Or.inr (Or.inr ⟨c2, c5, rfl⟩))), rfl, rfl⟩) (by decide) (by decide) dX12_paste_39
    · have hP : va_P D vwCl [(h0, .inr (12, [v0, v1, v2, v3, v4, v5, v6, v7, v8, v9, v10, v11, v12, v13, v14, v15, v16, v17, v18, v19, v20, v21, v22, v23, v24, v25, v26, v27, v28, v29, v30, v31, v32, v33, .ref h1, v34, v35, v36])), (h1, .inl (ty 1, 4, .inl (upd (upd (upd (upd (kf 0) 0 (-1)) 1 (-1)) 2 (-1)) 3 (-1))))] H := hP
      have hD : va_D A [(h0, .inr (12, [v0, v1, v2, v3, v4, v5, v6, v7, v8, v9, v10, v11, v12, v13, v14, v15, v16, v17, v18, v19, v20, v21, v22, v23, v24, v25, v26, v27, v28, v29, v30, v31, v32, v33, .ref h1, v34, v35, v36])), (h1, .inl (ty 1, 4, .inl (upd (upd (upd (upd (kf 0) 0 (-1)) 1 (-1)) 2 (-1)) 3 (-1))))] := hD
      refine lv_if_ne (tgt := 17) hx hb dX12_paste_11 (by decide) (fun h9 => absurd (by decide) h9) (fun _ => ?_)
      refine lv_bipush (v := (-2)) hx hb dX12_paste_14 (by decide) ?_
      exact kr_z hx hb hr rfl hlocks hP hD hS [] [] (by decide) rfl (Or.inr ⟨(Or.inl ⟨c2, c6⟩), rfl, rfl⟩) (by decide) (by decide) dX12_paste_16
  · have hP : va_P D vwCl [(h0, .inr (12, [v0, v1, v2, v3, v4, v5, v6, v7, v8, v9, v10, v11, v12, v13, v14, v15, v16, v17, v18, v19, v20, v21, v22, v23, v24, v25, v26, v27, v28, v29, v30, v31, v32, v33, .ref h1, v34, v35, v36])), (h1, .inl (ty 1, 4, .inl (upd (upd (upd (upd (kf 0) 0 (-1)) 1 (-1)) 2 (-1)) 3 (-1))))] H := hP
    have hD : va_D A [(h0, .inr (12, [v0, v1, v2, v3, v4, v5, v6, v7, v8, v9, v10, v11, v12, v13, v14, v15, v16, v17, v18, v19, v20, v21, v22, v23, v24, v25, v26, v27, v28, v29, v30, v31, v32, v33, .ref h1, v34, v35, v36])), (h1, .inl (ty 1, 4, .inl (upd (upd (upd (upd (kf 0) 0 (-1)) 1 (-1)) 2 (-1)) 3 (-1))))] := hD
    refine lv_if_eq (tgt := 14) hx hb dX12_paste_4 (by decide) (fun _ => ?_) (fun h9 => absurd (by decide) h9)
    refine lv_bipush (v := (-2)) hx hb dX12_paste_14 (by decide) ?_
    exact kr_z hx hb hr rfl hlocks hP hD hS [] [] (by decide) rfl (Or.inr ⟨(Or.inr c3), rfl, rfl⟩) (by decide) (by decide) dX12_paste_16
