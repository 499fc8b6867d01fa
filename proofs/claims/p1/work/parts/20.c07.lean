set_option maxHeartbeats 4000000 in
set_option maxRecDepth 100000 in
theorem c73_X11_isJourney (l : Launch) (D : va_G) (ty : Nat → ClassId) (sz : Nat) (h0 : Nat) (h1 : Nat) (h2 : Nat) (h3 : Nat) (p0 : Int32) (v0 : Value) (v1 : Value) (v2 : Value) (v3 : Value) (v4 : Value) (v5 : Value) (v6 : Value) (v7 : Value) (v8 : Value) (v9 : Value) (v10 : Value) (v11 : Value) (v12 : Value) (v13 : Value) (v14 : Value) (v15 : Value) (v16 : Value) (v17 : Value) (v18 : Value) (v19 : Value) (v20 : Value) (v21 : Value) (v22 : Value) (v23 : Value) (v24 : Value) (v25 : Value) (v26 : Value) (v27 : Value) (v28 : Value) (v29 : Value) (v30 : Value) (v31 : Value) (v32 : Value) (v33 : Value) (v34 : Value) (v35 : Value) : cQ l yX11_isJourney cX11_isJourney 2 (some .boolean) 0 0 [.ref h0, .int p0] D ty [(h0, .inr (11, [v0, v1, v2, .ref h1, v3, v4, v5, v6, v7, v8, v9, v10, v11, v12, v13])), (h1, .inr (5, [.ref h2, v14, v15])), (h2, .inr (8, [v16, v17, v18, v19, v20, v21, v22, v23, v24, v25, v26, v27, .ref h3, v28, v29, v30, v31, v32])), (h3, .inr (1, [.int 0, v33, v34, v35]))] sz (qI (fun (r : Int32) (u : va_W) => 0 = r ∧ [(h0, .inr (11, [v0, v1, v2, .ref h1, v3, v4, v5, v6, v7, v8, v9, v10, v11, v12, v13])), (h1, .inr (5, [.ref h2, v14, v15])), (h2, .inr (8, [v16, v17, v18, v19, v20, v21, v22, v23, v24, v25, v26, v27, .ref h3, v28, v29, v30, v31, v32])), (h3, .inr (1, [.int 0, v33, v34, v35]))] = u)) 0 0 := by
  refine cQ.of (by decide) (Nat.le_of_ble_eq_true rfl) (fun p e s m below meth c A ls C hsz hP hK hD hA hl => ?_)
  obtain ⟨hx, hb, hml, hown, hB, hr, hlocks, hin⟩ := C
  have hown : s.vm.findClass RX11 = some m.cls := hown
  have hS : va_S A s.heap s.heap [] := va_S.rf
  have hl : lv_has ls 2 [(0, .ref h0), (1, .int p0)] := hl
  refine lv_iload_n hx hb dX11_isJourney_0 rfl (lv_at hl 1 rfl) ?_
  refine lv_if_lt (tgt := 25) hx hb dX11_isJourney_1 (by decide) (fun c1 => ?_) (fun c1 => ?_)
  · refine lv_iconst (v := 0) hx hb dX11_isJourney_25 (by decide) ?_
    exact kr_z hx hb hr rfl hlocks hP hD hS [(h0, .inr (11, [v0, v1, v2, .ref h1, v3, v4, v5, v6, v7, v8, v9, v10, v11, v12, v13])), (h1, .inr (5, [.ref h2, v14, v15])), (h2, .inr (8, [v16, v17, v18, v19, v20, v21, v22, v23, v24, v25, v26, v27, .ref h3, v28, v29, v30, v31, v32])), (h3, .inr (1, [.int 0, v33, v34, v35]))] [0, 1, 2, 3] (by decide) rfl ⟨rfl, rfl⟩ (by decide) (by decide) dX11_isJourney_26
  · refine lv_iload_n hx hb dX11_isJourney_4 rfl (lv_at hl 1 rfl) ?_
    refine lv_aload_n hx hb dX11_isJourney_5 rfl (lv_at hl 0 rfl) ?_
    refine va_get (D := D) (ci := 11) (v := .ref h1) (C := RX11) (T := TX11) (N := 15) hx hb hB inB_X11 hown hK.1 hP 0 rfl rfl 3 (by decide) (hB _ mw_85) (fun _ h9 => h9) rfl dX11_isJourney_6 ?_
    refine va_get (D := D) (ci := 5) (v := .ref h2) (C := RX5) (T := TX5) (N := 3) hx hb hB inB_X5 hown hK.1 hP 1 rfl rfl 0 (by decide) (hB _ mw_150) (fun _ h9 => h9) rfl dX11_isJourney_9 ?_
    refine va_get (D := D) (ci := 8) (v := .ref h3) (C := RX8) (T := TX8) (N := 18) hx hb hB inB_X8 hown hK.1 hP 2 rfl rfl 12 (by decide) (hB _ mw_321) (fun _ h9 => h9) rfl dX11_isJourney_12 ?_
    refine va_get (D := D) (ci := 1) (v := .int 0) (C := RX1) (T := TX1) (N := 4) hx hb hB inB_X1 hown hK.1 hP 3 rfl rfl 0 (by decide) (hB _ mw_322) (fun _ h9 => h9) rfl dX11_isJourney_15 ?_
    refine lv_icmp_ge (tgt := 25) hx hb dX11_isJourney_18 (by decide) (fun _ => ?_) (fun h9 => (ps_0 p0 c1 h9).elim)
    refine lv_iconst (v := 0) hx hb dX11_isJourney_25 (by decide) ?_
    exact kr_z hx hb hr rfl hlocks hP hD hS [(h0, .inr (11, [v0, v1, v2, .ref h1, v3, v4, v5, v6, v7, v8, v9, v10, v11, v12, v13])), (h1, .inr (5, [.ref h2, v14, v15])), (h2, .inr (8, [v16, v17, v18, v19, v20, v21, v22, v23, v24, v25, v26, v27, .ref h3, v28, v29, v30, v31, v32])), (h3, .inr (1, [.int 0, v33, v34, v35]))] [0, 1, 2, 3] (by decide) rfl ⟨rfl, rfl⟩ (by decide) (by decide) dX11_isJourney_26
set_option maxHeartbeats 4000000 in
set_option maxRecDepth 100000 in
theorem c72_X11_round (l : Launch) (D : va_G) (ty : Nat → ClassId) (sz : Nat) (h0 : Nat) (h1 : Nat) (h2 : Nat) (h3 : Nat) (p0 : Int32) (p1 : Int32) (v0 : Value) (v1 : Value) (v2 : Value) (v3 : Value) (v4 : Value) (v5 : Value) (v6 : Value) (v7 : Value) (v8 : Value) (v9 : Value) (v10 : Value) (v11 : Value) (v12 : Value) (v13 : Value) (v14 : Value) (v15 : Value) (v16 : Value) (v17 : Value) (v18 : Value) (v19 : Value) (v20 : Value) (v21 : Value) (v22 : Value) (v23 : Value) (v24 : Value) (v25 : Value) (v26 : Value) (v27 : Value) (v28 : Value) (v29 : Value) (v30 : Value) (v31 : Value) (v32 : Value) (v33 : Value) (v34 : Value) (v35 : Value) : cQ l yX11_round cX11_round 3 (some .int) 1 21 [.ref h0, .int p0, .int p1] D ty [(h0, .inr (11, [v0, v1, v2, .ref h1, v3, v4, v5, v6, v7, v8, v9, v10, v11, v12, v13])), (h1, .inr (5, [.ref h2, v14, v15])), (h2, .inr (8, [v16, v17, v18, v19, v20, v21, v22, v23, v24, v25, v26, v27, .ref h3, v28, v29, v30, v31, v32])), (h3, .inr (1, [.int 0, v33, v34, v35]))] sz (qI (fun (r : Int32) (u : va_W) => (-2) = r ∧ [] = u)) 0 0 := by
  refine cQ.of (by decide) (Nat.le_of_ble_eq_true rfl) (fun p e s m below meth c A ls C hsz hP hK hD hA hl => ?_)
  obtain ⟨hx, hb, hml, hown, hB, hr, hlocks, hin⟩ := C
  have hown : s.vm.findClass RX11 = some m.cls := hown
  have hS : va_S A s.heap s.heap [] := va_S.rf
  have hl : lv_has ls 3 [(0, .ref h0), (1, .int p0), (2, .int p1)] := hl
  refine lv_iload_n hx hb dX11_round_0 rfl (lv_at hl 1 rfl) ?_
  refine kc_i (va_runS (As := [.int p0]) (rest := []) ⟨hx, hb, hml, hown, hB⟩ (c38_X11_isGiving l D ty s.heap.size p0) (va_cwS 1 hB (bw_S mw_253 mw_254 mw_216 mw_252) rfl rfl rfl (by decide +kernel) ⟨Nat.le_of_ble_eq_true rfl, Nat.le_of_ble_eq_true rfl⟩) (kp_S hK hP hD [] (by decide) rfl) rfl rfl hl.1 rfl (lv_room (Nat.le_of_ble_eq_true rfl)) dX11_round_1 ⟨Nat.le_of_ble_eq_true rfl, Nat.le_of_ble_eq_true rfl⟩) hP hD hS hA [] [0, 1, 2, 3] (wr := [(h0, .inr (11, [v0, v1, v2, .ref h1, v3, v4, v5, v6, v7, v8, v9, v10, v11, v12, v13])), (h1, .inr (5, [.ref h2, v14, v15])), (h2, .inr (8, [v16, v17, v18, v19, v20, v21, v22, v23, v24, v25, v26, v27, .ref h3, v28, v29, v30, v31, v32])), (h3, .inr (1, [.int 0, v33, v34, v35]))]) rfl rfl (by decide) (by decide) (fun r u H locs w1 hP hD hS => ?_)
  rcases w1 with ⟨c2, rfl, rfl⟩ | ⟨c3, rfl, rfl⟩
  · have hP : va_P D vwCl [(h0, .inr (11, [v0, v1, v2, .ref h1, v3, v4, v5, v6, v7, v8, v9, v10, v11, v12, v13])), (h1, .inr (5, [.ref h2, v14, v15])), (h2, .inr (8, [v16, v17, v18, v19, v20, v21, v22, v23, v24, v25, v26, v27, .ref h3, v28, v29, v30, v31, v32])), (h3, .inr (1, [.int 0, v33, v34, v35]))] H := hP
    have hD : va_D A [(h0, .inr (11, [v0, v1, v2, .ref h1, v3, v4, v5, v6, v7, v8, v9, v10, v11, v12, v13])), (h1, .inr (5, [.ref h2, v14, v15])), (h2, .inr (8, [v16, v17, v18, v19, v20, v21, v22, v23, v24, v25, v26, v27, .ref h3, v28, v29, v30, v31, v32])), (h3, .inr (1, [.int 0, v33, v34, v35]))] := hD
    refine lv_if_eq (tgt := 15) hx hb dX11_round_4 (by decide) (fun _ => ?_) (fun h9 => absurd (by decide) h9)
    refine lv_bipush (v := (-2)) hx hb dX11_round_15 (by decide) ?_
    exact kr_z hx hb hr rfl hlocks hP hD hS [] [] (by decide) rfl ⟨rfl, rfl⟩ (by decide) (by decide) dX11_round_17
  · have hP : va_P D vwCl [(h0, .inr (11, [v0, v1, v2, .ref h1, v3, v4, v5, v6, v7, v8, v9, v10, v11, v12, v13])), (h1, .inr (5, [.ref h2, v14, v15])), (h2, .inr (8, [v16, v17, v18, v19, v20, v21, v22, v23, v24, v25, v26, v27, .ref h3, v28, v29, v30, v31, v32])), (h3, .inr (1, [.int 0, v33, v34, v35]))] H := hP
    have hD : va_D A [(h0, .inr (11, [v0, v1, v2, .ref h1, v3, v4, v5, v6, v7, v8, v9, v10, v11, v12, v13])), (h1, .inr (5, [.ref h2, v14, v15])), (h2, .inr (8, [v16, v17, v18, v19, v20, v21, v22, v23, v24, v25, v26, v27, .ref h3, v28, v29, v30, v31, v32])), (h3, .inr (1, [.int 0, v33, v34, v35]))] := hD
    refine lv_if_eq (tgt := 15) hx hb dX11_round_4 (by decide) (fun h9 => absurd h9 (by decide)) (fun _ => ?_)
    refine lv_aload_n hx hb dX11_round_7 rfl (lv_at hl 0 rfl) ?_
    refine lv_iload_n hx hb dX11_round_8 rfl (lv_at hl 2 rfl) ?_
    refine kc_i (va_runV (As := [.int p1]) (rest := []) ⟨hx, hb, hml, hown, hB⟩ (c73_X11_isJourney l D ty H.size h0 h1 h2 h3 p1 v0 v1 v2 v3 v4 v5 v6 v7 v8 v9 v10 v11 v12 v13 v14 v15 v16 v17 v18 v19 v20 v21 v22 v23 v24 v25 v26 v27 v28 v29 v30 v31 v32 v33 v34 v35) (cwV 1 hB (bw_V mw_324 mw_325 mw_326 mw_216 mw_323) rfl rfl rfl (by decide +kernel) ⟨Nat.le_of_ble_eq_true rfl, Nat.le_of_ble_eq_true rfl⟩) (kp_V hK hP hD [0, 1, 2, 3] (by decide) rfl 0 rfl rfl rfl) rfl rfl hl.1 rfl (lv_room (Nat.le_of_ble_eq_true rfl)) dX11_round_9 ⟨Nat.le_of_ble_eq_true rfl, Nat.le_of_ble_eq_true rfl⟩) hP hD hS hA [0, 1, 2, 3] [] (wr := []) rfl rfl (by decide) (by decide) (fun r u H locs w4 hP hD hS => ?_)
    obtain ⟨rfl, rfl⟩ := w4
    have hP : va_P D vwCl [(h0, .inr (11, [v0, v1, v2, .ref h1, v3, v4, v5, v6, v7, v8, v9, v10, v11, v12, v13])), (h1, .inr (5, [.ref h2, v14, v15])), (h2, .inr (8, [v16, v17, v18, v19, v20, v21, v22, v23, v24, v25, v26, v27, .ref h3, v28, v29, v30, v31, v32])), (h3, .inr (1, [.int 0, v33, v34, v35]))] H := hP
    have hD : va_D A [(h0, .inr (11, [v0, v1, v2, .ref h1, v3, v4, v5, v6, v7, v8, v9, v10, v11, v12, v13])), (h1, .inr (5, [.ref h2, v14, v15])), (h2, .inr (8, [v16, v17, v18, v19, v20, v21, v22, v23, v24, v25, v26, v27, .ref h3, v28, v29, v30, v31, v32])), (h3, .inr (1, [.int 0, v33, v34, v35]))] := hD
    refine lv_if_ne (tgt := 18) hx hb dX11_round_12 (by decide) (fun h9 => absurd (by decide) h9) (fun _ => ?_)
    refine lv_bipush (v := (-2)) hx hb dX11_round_15 (by decide) ?_
    exact kr_z hx hb hr rfl hlocks hP hD hS [] [] (by decide) rfl ⟨rfl, rfl⟩ (by decide) (by decide) dX11_round_17
set_option maxHeartbeats 4000000 in
set_option maxRecDepth 100000 in
theorem c75_X2_sumOf (l : Launch) (D : va_G) (ty : Nat → ClassId) (sz : Nat) (h0 : Nat) (h1 : Nat) (h2 : Nat) (h3 : Nat) (v0 : Value) (v1 : Value) (v2 : Value) (v3 : Value) (v4 : Value) (v5 : Value) (v6 : Value) (v7 : Value) (v8 : Value) (v9 : Value) (v10 : Value) (v11 : Value) (v12 : Value) (v13 : Value) (v14 : Value) (v15 : Value) (v16 : Value) (v17 : Value) (v18 : Value) (v19 : Value) : cQ l yX2_sumOf cX2_sumOf 10 (some .int) 0 0 [.ref h2, .ref h0, .ref h3, .int 0, .int 1000000000] D ty [(h0, .inr (8, [v0, v1, v2, v3, v4, v5, v6, v7, v8, v9, v10, v11, .ref h1, v12, v13, v14, v15, v16])), (h1, .inr (1, [.int 0, v17, v18, v19]))] sz (qI (fun (r : Int32) (u : va_W) => 0 = r ∧ [(h0, .inr (8, [v0, v1, v2, v3, v4, v5, v6, v7, v8, v9, v10, v11, .ref h1, v12, v13, v14, v15, v16])), (h1, .inr (1, [.int 0, v17, v18, v19]))] = u)) 0 0 := by
  refine cQ.of (by decide) (Nat.le_of_ble_eq_true rfl) (fun p e s m below meth c A ls C hsz hP hK hD hA hl => ?_)
  obtain ⟨hx, hb, hml, hown, hB, hr, hlocks, hin⟩ := C
  have hown : s.vm.findClass RX2 = some m.cls := hown
  have hS : va_S A s.heap s.heap [] := va_S.rf
  have hl : lv_has ls 10 [(0, .ref h2), (1, .ref h0), (2, .ref h3), (3, .int 0), (4, .int 1000000000)] := hl
  refine lv_iconst (v := 0) hx hb dX2_sumOf_0 (by decide) ?_
  refine lv_istore (lv' := [(5, .int 0), (0, .ref h2), (1, .ref h0), (2, .ref h3), (3, .int 0), (4, .int 1000000000)]) hx hb dX2_sumOf_1 hl (by decide) rfl (fun ls hl => ?_)
  refine lv_iconst (v := 0) hx hb dX2_sumOf_3 (by decide) ?_
  refine lv_istore (lv' := [(6, .int 0), (5, .int 0), (0, .ref h2), (1, .ref h0), (2, .ref h3), (3, .int 0), (4, .int 1000000000)]) hx hb dX2_sumOf_4 hl (by decide) rfl (fun ls hl => ?_)
  refine lv_iload hx hb dX2_sumOf_6 (lv_at hl 0 rfl) ?_
  refine lv_aload_n hx hb dX2_sumOf_8 rfl (lv_at hl 3 rfl) ?_
  refine va_get (D := D) (ci := 8) (v := .ref h1) (C := RX8) (T := TX8) (N := 18) hx hb hB inB_X8 hown hK.1 hP 0 rfl rfl 12 (by decide) (hB _ mw_328) (fun _ h9 => h9) rfl dX2_sumOf_9 ?_
  refine va_get (D := D) (ci := 1) (v := .int 0) (C := RX1) (T := TX1) (N := 4) hx hb hB inB_X1 hown hK.1 hP 1 rfl rfl 0 (by decide) (hB _ mw_329) (fun _ h9 => h9) rfl dX2_sumOf_12 ?_
  refine lv_icmp_ge (tgt := 135) hx hb dX2_sumOf_15 (by decide) (fun _ => ?_) (fun h9 => absurd (by decide) h9)
  refine lv_iload hx hb dX2_sumOf_135 (lv_at hl 1 rfl) ?_
  exact kr_z hx hb hr rfl hlocks hP hD hS [(h0, .inr (8, [v0, v1, v2, v3, v4, v5, v6, v7, v8, v9, v10, v11, .ref h1, v12, v13, v14, v15, v16])), (h1, .inr (1, [.int 0, v17, v18, v19]))] [0, 1] (by decide) rfl ⟨rfl, rfl⟩ (by decide) (by decide) dX2_sumOf_137
set_option maxHeartbeats 4000000 in
set_option maxRecDepth 100000 in
theorem c74_X11_sum (l : Launch) (D : va_G) (ty : Nat → ClassId) (sz : Nat) (h0 : Nat) (h1 : Nat) (h2 : Nat) (h3 : Nat) (h4 : Nat) (h5 : Nat) (p0 : Int32) (v0 : Value) (v1 : Value) (v2 : Value) (v3 : Value) (v4 : Value) (v5 : Value) (v6 : Value) (v7 : Value) (v8 : Value) (v9 : Value) (v10 : Value) (v11 : Value) (v12 : Value) (v13 : Value) (h6 : Nat) (h7 : Nat) (v14 : Value) (v15 : Value) (v16 : Value) (v17 : Value) (v18 : Value) (v19 : Value) (v20 : Value) (v21 : Value) (v22 : Value) (v23 : Value) (v24 : Value) (v25 : Value) (v26 : Value) (v27 : Value) (v28 : Value) (v29 : Value) (v30 : Value) (v31 : Value) (v32 : Value) (v33 : Value) (v34 : Value) (v35 : Value) (v36 : Value) (v37 : Value) (v38 : Value) (v39 : Value) : cQ l yX11_sum cX11_sum 2 (some .int) 1 29 [.ref h0, .int p0] D ty [(h0, .inr (11, [v0, v1, v2, .ref h1, v3, v4, .ref h3, v5, v6, v7, v8, v9, v10, v11, v12])), (h1, .inr (5, [.ref h4, .ref h2, v13])), (h2, .inl (ty 6, 2, .inr (.inr (.inr (.inr (wy2 h6 h7)))))), (h3, .inr (2, [v14, v15, v16, v17, v18, v19])), (h4, .inr (8, [v20, v21, v22, v23, v24, v25, v26, v27, v28, v29, v30, v31, .ref h5, v32, v33, v34, v35, v36])), (h5, .inr (1, [.int 0, v37, v38, v39]))] sz (qI (fun (r : Int32) (u : va_W) => (((((p0 < 0)) ∨ ((¬ (p0 < 0)) ∧ (2 ≤ p0)))) ∧ (-2) = r ∧ [] = u) ∨ (((((¬ (p0 < 0)) ∧ (¬ (2 ≤ p0))) ∧ (p0 = 0)) ∨ (((¬ (p0 < 0)) ∧ (¬ (2 ≤ p0))) ∧ (p0 = 1))) ∧ 0 = r ∧ [] = u))) 0 0 := by
  refine cQ.of (by decide) (Nat.le_of_ble_eq_true rfl) (fun p e s m below meth c A ls C hsz hP hK hD hA hl => ?_)
  obtain ⟨hx, hb, hml, hown, hB, hr, hlocks, hin⟩ := C
  have hown : s.vm.findClass RX11 = some m.cls := hown
  have hS : va_S A s.heap s.heap [] := va_S.rf
  have hl : lv_has ls 2 [(0, .ref h0), (1, .int p0)] := hl
  refine lv_iload_n hx hb dX11_sum_0 rfl (lv_at hl 1 rfl) ?_
  refine kc_i (va_runS (As := [.int p0]) (rest := []) ⟨hx, hb, hml, hown, hB⟩ (c38_X11_isGiving l D ty s.heap.size p0) (va_cwS 1 hB (bw_S mw_253 mw_254 mw_216 mw_252) rfl rfl rfl (by decide +kernel) ⟨Nat.le_of_ble_eq_true rfl, Nat.le_of_ble_eq_true rfl⟩) (kp_S hK hP hD [] (by decide) rfl) rfl rfl hl.1 rfl (lv_room (Nat.le_of_ble_eq_true rfl)) dX11_sum_1 ⟨Nat.le_of_ble_eq_true rfl, Nat.le_of_ble_eq_true rfl⟩) hP hD hS hA [] [0, 1, 2, 3, 4, 5] (wr := [(h0, .inr (11, [v0, v1, v2, .ref h1, v3, v4, .ref h3, v5, v6, v7, v8, v9, v10, v11, v12])), (h1, .inr (5, [.ref h4, .ref h2, v13])), (h2, .inl (ty 6, 2, .inr (.inr (.inr (.inr (wy2 h6 h7)))))), (h3, .inr (2, [v14, v15, v16, v17, v18, v19])), (h4, .inr (8, [v20, v21, v22, v23, v24, v25, v26, v27, v28, v29, v30, v31, .ref h5, v32, v33, v34, v35, v36])), (h5, .inr (1, [.int 0, v37, v38, v39]))]) rfl rfl (by decide) (by decide) (fun r u H locs w1 hP hD hS => ?_)
  rcases w1 with ⟨c2, rfl, rfl⟩ | ⟨c3, rfl, rfl⟩
  · have hP : va_P D vwCl [(h0, .inr (11, [v0, v1, v2, .ref h1, v3, v4, .ref h3, v5, v6, v7, v8, v9, v10, v11, v12])), (h1, .inr (5, [.ref h4, .ref h2, v13])), (h2, .inl (ty 6, 2, .inr (.inr (.inr (.inr (wy2 h6 h7)))))), (h3, .inr (2, [v14, v15, v16, v17, v18, v19])), (h4, .inr (8, [v20, v21, v22, v23, v24, v25, v26, v27, v28, v29, v30, v31, .ref h5, v32, v33, v34, v35, v36])), (h5, .inr (1, [.int 0, v37, v38, v39]))] H := hP
    have hD : va_D A [(h0, .inr (11, [v0, v1, v2, .ref h1, v3, v4, .ref h3, v5, v6, v7, v8, v9, v10, v11, v12])), (h1, .inr (5, [.ref h4, .ref h2, v13])), (h2, .inl (ty 6, 2, .inr (.inr (.inr (.inr (wy2 h6 h7)))))), (h3, .inr (2, [v14, v15, v16, v17, v18, v19])), (h4, .inr (8, [v20, v21, v22, v23, v24, v25, v26, v27, v28, v29, v30, v31, .ref h5, v32, v33, v34, v35, v36])), (h5, .inr (1, [.int 0, v37, v38, v39]))] := hD
    refine lv_if_eq (tgt := 36) hx hb dX11_sum_4 (by decide) (fun _ => ?_) (fun h9 => absurd (by decide) h9)
    refine lv_bipush (v := (-2)) hx hb dX11_sum_36 (by decide) ?_
    exact kr_z hx hb hr rfl hlocks hP hD hS [] [] (by decide) rfl (Or.inl ⟨c2, rfl, rfl⟩) (by decide) (by decide) dX11_sum_38
  · have hP : va_P D vwCl [(h0, .inr (11, [v0, v1, v2, .ref h1, v3, v4, .ref h3, v5, v6, v7, v8, v9, v10, v11, v12])), (h1, .inr (5, [.ref h4, .ref h2, v13])), (h2, .inl (ty 6, 2, .inr (.inr (.inr (.inr (wy2 h6 h7)))))), (h3, .inr (2, [v14, v15, v16, v17, v18, v19])), (h4, .inr (8, [v20, v21, v22, v23, v24, v25, v26, v27, v28, v29, v30, v31, .ref h5, v32, v33, v34, v35, v36])), (h5, .inr (1, [.int 0, v37, v38, v39]))] H := hP
    have hD : va_D A [(h0, .inr (11, [v0, v1, v2, .ref h1, v3, v4, .ref h3, v5, v6, v7, v8, v9, v10, v11, v12])), (h1, .inr (5, [.ref h4, .ref h2, v13])), (h2, .inl (ty 6, 2, .inr (.inr (.inr (.inr (wy2 h6 h7)))))), (h3, .inr (2, [v14, v15, v16, v17, v18, v19])), (h4, .inr (8, [v20, v21, v22, v23, v24, v25, v26, v27, v28, v29, v30, v31, .ref h5, v32, v33, v34, v35, v36])), (h5, .inr (1, [.int 0, v37, v38, v39]))] := hD
    refine lv_if_eq (tgt := 36) hx hb dX11_sum_4 (by decide) (fun h9 => absurd h9 (by decide)) (fun _ => ?_)
    refine lv_aload_n hx hb dX11_sum_7 rfl (lv_at hl 0 rfl) ?_
    refine va_get (D := D) (ci := 11) (v := .ref h3) (C := RX11) (T := TX11) (N := 15) hx hb hB inB_X11 hown hK.1 hP 0 rfl rfl 6 (by decide) (hB _ mw_102) (fun _ h9 => h9) rfl dX11_sum_8 ?_
    refine lv_aload_n hx hb dX11_sum_11 rfl (lv_at hl 0 rfl) ?_
    refine va_get (D := D) (ci := 11) (v := .ref h1) (C := RX11) (T := TX11) (N := 15) hx hb hB inB_X11 hown hK.1 hP 0 rfl rfl 3 (by decide) (hB _ mw_85) (fun _ h9 => h9) rfl dX11_sum_12 ?_
    refine va_get (D := D) (ci := 5) (v := .ref h4) (C := RX5) (T := TX5) (N := 3) hx hb hB inB_X5 hown hK.1 hP 1 rfl rfl 0 (by decide) (hB _ mw_150) (fun _ h9 => h9) rfl dX11_sum_15 ?_
    refine lv_aload_n hx hb dX11_sum_18 rfl (lv_at hl 0 rfl) ?_
    refine va_get (D := D) (ci := 11) (v := .ref h1) (C := RX11) (T := TX11) (N := 15) hx hb hB inB_X11 hown hK.1 hP 0 rfl rfl 3 (by decide) (hB _ mw_85) (fun _ h9 => h9) rfl dX11_sum_19 ?_
    refine va_get (D := D) (ci := 5) (v := .ref h2) (C := RX5) (T := TX5) (N := 3) hx hb hB inB_X5 hown hK.1 hP 1 rfl rfl 1 (by decide) (hB _ mw_267) (fun _ h9 => h9) rfl dX11_sum_22 ?_
    refine lv_iload_n hx hb dX11_sum_25 rfl (lv_at hl 1 rfl) ?_
    rcases ps_2 p0 c3 with rfl | rfl
    · refine va_aldA hx hb hK.1 hP 2 6 rfl rfl (by unfold vp_in; decide) dX11_sum_26 ?_
      refine tp_v (v := .ref h6) rfl ?_
      refine lv_iconst (v := 0) hx hb dX11_sum_27 (by decide) ?_
      refine lv_ldc hx hb hown (hB _ mw_327) dX11_sum_28 ?_
      refine kc_i (va_runV (As := [.ref h4, .ref h6, .int 0, .int 1000000000]) (rest := []) ⟨hx, hb, hml, hown, hB⟩ (c75_X2_sumOf l D ty H.size h4 h5 h3 h6 v20 v21 v22 v23 v24 v25 v26 v27 v28 v29 v30 v31 v32 v33 v34 v35 v36 v37 v38 v39) (cwV 4 hB (bw_V mw_331 mw_332 mw_333 mw_92 mw_330) rfl rfl rfl (by decide +kernel) ⟨Nat.le_of_ble_eq_true rfl, Nat.le_of_ble_eq_true rfl⟩) (kp_V hK hP hD [4, 5] (by decide) rfl 3 rfl rfl rfl) rfl rfl hl.1 rfl (lv_room (Nat.le_of_ble_eq_true rfl)) dX11_sum_30 ⟨Nat.le_of_ble_eq_true rfl, Nat.le_of_ble_eq_true rfl⟩) hP hD hS hA [4, 5] [0, 1, 2, 3] (wr := [(h0, .inr (11, [v0, v1, v2, .ref h1, v3, v4, .ref h3, v5, v6, v7, v8, v9, v10, v11, v12])), (h1, .inr (5, [.ref h4, .ref h2, v13])), (h2, .inl (ty 6, 2, .inr (.inr (.inr (.inr (wy2 h6 h7)))))), (h3, .inr (2, [v14, v15, v16, v17, v18, v19]))]) rfl rfl (by decide) (by decide) (fun r u H locs w4 hP hD hS => ?_)
      obtain ⟨rfl, rfl⟩ := w4
      have hP : va_P D vwCl [(h0, .inr (11, [v0, v1, v2, .ref h1, v3, v4, .ref h3, v5, v6, v7, v8, v9, v10, v11, v12])), (h1, .inr (5, [.ref h4, .ref h2, v13])), (h2, .inl (ty 6, 2, .inr (.inr (.inr (.inr (wy2 h6 h7)))))), (h3, .inr (2, [v14, v15, v16, v17, v18, v19])), (h4, .inr (8, [v20, v21, v22, v23, v24, v25, v26, v27, v28, v29, v30, v31, .ref h5, v32, v33, v34, v35, v36])), (h5, .inr (1, [.int 0, v37, v38, v39]))] H := hP
      have hD : va_D A [(h0, .inr (11, [v0, v1, v2, .ref h1, v3, v4, .ref h3, v5, v6, v7, v8, v9, v10, v11, v12])), (h1, .inr (5, [.ref h4, .ref h2, v13])), (h2, .inl (ty 6, 2, .inr (.inr (.inr (.inr (wy2 h6 h7)))))), (h3, .inr (2, [v14, v15, v16, v17, v18, v19])), (h4, .inr (8, [v20, v21, v22, v23, v24, v25, v26, v27, v28, v29, v30, v31, .ref h5, v32, v33, v34, v35, v36])), (h5, .inr (1, [.int 0, v37, v38, v39]))] := hD
      refine lv_goto (tgt := 38) hx hb dX11_sum_33 (by decide) ?_
      exact kr_z hx hb hr rfl hlocks hP hD hS [] [] (by decide) rfl (Or.inr ⟨(Or.inl ⟨c3, rfl⟩), rfl, rfl⟩) (by decide) (by decide) dX11_sum_38
    · refine va_aldA hx hb hK.1 hP 2 6 rfl rfl (by unfold vp_in; decide) dX11_sum_26 ?_
      refine tp_v (v := .ref h7) rfl ?_
      refine lv_iconst (v := 0) hx hb dX11_sum_27 (by decide) ?_
      refine lv_ldc hx hb hown (hB _ mw_327) dX11_sum_28 ?_
      refine kc_i (va_runV (As := [.ref h4, .ref h7, .int 0, .int 1000000000]) (rest := []) ⟨hx, hb, hml, hown, hB⟩ (c75_X2_sumOf l D ty H.size h4 h5 h3 h7 v20 v21 v22 v23 v24 v25 v26 v27 v28 v29 v30 v31 v32 v33 v34 v35 v36 v37 v38 v39) (cwV 4 hB (bw_V mw_331 mw_332 mw_333 mw_92 mw_330) rfl rfl rfl (by decide +kernel) ⟨Nat.le_of_ble_eq_true rfl, Nat.le_of_ble_eq_true rfl⟩) (kp_V hK hP hD [4, 5] (by decide) rfl 3 rfl rfl rfl) rfl rfl hl.1 rfl (lv_room (Nat.le_of_ble_eq_true rfl)) dX11_sum_30 ⟨Nat.le_of_ble_eq_true rfl, Nat.le_of_ble_eq_true rfl⟩) hP hD hS hA [4, 5] [0, 1, 2, 3] (wr := [(h0, .inr (11, [v0, v1, v2, .ref h1, v3, v4, .ref h3, v5, v6, v7, v8, v9, v10, v11, v12])), (h1, .inr (5, [.ref h4, .ref h2, v13])), (h2, .inl (ty 6, 2, .inr (.inr (.inr (.inr (wy2 h6 h7)))))), (h3, .inr (2, [v14, v15, v16, v17, v18, v19]))]) rfl rfl (by decide) (by decide) (fun r u H locs w5 hP hD hS => ?_)
      obtain ⟨rfl, rfl⟩ := w5
      have hP : va_P D vwCl [(h0, .inr (11, [v0, v1, v2, .ref h1, v3, v4, .ref h3, v5, v6, v7, v8, v9, v10, v11, v12])), (h1, .inr (5, [.ref h4, .ref h2, v13])), (h2, .inl (ty 6, 2, .inr (.inr (.inr (.inr (wy2 h6 h7)))))), (h3, .inr (2, [v14, v15, v16, v17, v18, v19])), (h4, .inr (8, [v20, v21, v22, v23, v24, v25, v26, v27, v28, v29, v30, v31, .ref h5, v32, v33, v34, v35, v36])), (h5, .inr (1, [.int 0, v37, v38, v39]))] H := hP
      have hD : va_D A [(h0, .inr (11, [v0, v1, v2, .ref h1, v3, v4, .ref h3, v5, v6, v7, v8, v9, v10, v11, v12])), (h1, .inr (5, [.ref h4, .ref h2, v13])), (h2, .inl (ty 6, 2, .inr (.inr (.inr (.inr (wy2 h6 h7)))))), (h3, .inr (2, [v14, v15, v16, v17, v18, v19])), (h4, .inr (8, [v20, v21, v22, v23, v24, v25, v26, v27, v28, v29, v30, v31, .ref h5, v32, v33, v34, v35, v36])), (h5, .inr (1, [.int 0, v37, v38, v39]))] := hD
      refine lv_goto (tgt := 38) hx hb dX11_sum_33 (by decide) ?_
      exact kr_z hx hb hr rfl hlocks hP hD hS [] [] (by decide) rfl (Or.inr ⟨(Or.inr ⟨c3, rfl⟩), rfl, rfl⟩) (by decide) (by decide) dX11_sum_38
set_option maxHeartbeats 4000000 in
set_option maxRecDepth 100000 in
theorem c77_X2_worstOf (l : Launch) (D : va_G) (ty : Nat → ClassId) (sz : Nat) (h0 : Nat) (h1 : Nat) (h2 : Nat) (h3 : Nat) (v0 : Value) (v1 : Value) (v2 : Value) (v3 : Value) (v4 : Value) (v5 : Value) (v6 : Value) (v7 : Value) (v8 : Value) (v9 : Value) (v10 : Value) (v11 : Value) (v12 : Value) (v13 : Value) (v14 : Value) (v15 : Value) (v16 : Value) (v17 : Value) (v18 : Value) (v19 : Value) : cQ l yX2_worstOf cX2_worstOf 7 (some .int) 0 0 [.ref h2, .ref h0, .ref h3, .int 1000000000] D ty [(h0, .inr (8, [v0, v1, v2, v3, v4, v5, v6, v7, v8, v9, v10, v11, .ref h1, v12, v13, v14, v15, v16])), (h1, .inr (1, [.int 0, v17, v18, v19]))] sz (qI (fun (r : Int32) (u : va_W) => 0 = r ∧ [(h0, .inr (8, [v0, v1, v2, v3, v4, v5, v6, v7, v8, v9, v10, v11, .ref h1, v12, v13, v14, v15, v16])), (h1, .inr (1, [.int 0, v17, v18, v19]))] = u)) 0 0 := by
  refine cQ.of (by decide) (Nat.le_of_ble_eq_true rfl) (fun p e s m below meth c A ls C hsz hP hK hD hA hl => ?_)
  obtain ⟨hx, hb, hml, hown, hB, hr, hlocks, hin⟩ := C
  have hown : s.vm.findClass RX2 = some m.cls := hown
  have hS : va_S A s.heap s.heap [] := va_S.rf
  have hl : lv_has ls 7 [(0, .ref h2), (1, .ref h0), (2, .ref h3), (3, .int 1000000000)] := hl
  refine lv_iconst (v := 0) hx hb dX2_worstOf_0 (by decide) ?_
  refine lv_istore (lv' := [(4, .int 0), (0, .ref h2), (1, .ref h0), (2, .ref h3), (3, .int 1000000000)]) hx hb dX2_worstOf_1 hl (by decide) rfl (fun ls hl => ?_)
  refine lv_iconst (v := 0) hx hb dX2_worstOf_3 (by decide) ?_
  refine lv_istore (lv' := [(5, .int 0), (4, .int 0), (0, .ref h2), (1, .ref h0), (2, .ref h3), (3, .int 1000000000)]) hx hb dX2_worstOf_4 hl (by decide) rfl (fun ls hl => ?_)
  refine lv_iload hx hb dX2_worstOf_6 (lv_at hl 0 rfl) ?_
  refine lv_aload_n hx hb dX2_worstOf_8 rfl (lv_at hl 3 rfl) ?_
  refine va_get (D := D) (ci := 8) (v := .ref h1) (C := RX8) (T := TX8) (N := 18) hx hb hB inB_X8 hown hK.1 hP 0 rfl rfl 12 (by decide) (hB _ mw_328) (fun _ h9 => h9) rfl dX2_worstOf_9 ?_
  refine va_get (D := D) (ci := 1) (v := .int 0) (C := RX1) (T := TX1) (N := 4) hx hb hB inB_X1 hown hK.1 hP 1 rfl rfl 0 (by decide) (hB _ mw_329) (fun _ h9 => h9) rfl dX2_worstOf_12 ?_
  refine lv_icmp_ge (tgt := 57) hx hb dX2_worstOf_15 (by decide) (fun _ => ?_) (fun h9 => absurd (by decide) h9)
  refine lv_iload hx hb dX2_worstOf_57 (lv_at hl 1 rfl) ?_
  exact kr_z hx hb hr rfl hlocks hP hD hS [(h0, .inr (8, [v0, v1, v2, v3, v4, v5, v6, v7, v8, v9, v10, v11, .ref h1, v12, v13, v14, v15, v16])), (h1, .inr (1, [.int 0, v17, v18, v19]))] [0, 1] (by decide) rfl ⟨rfl, rfl⟩ (by decide) (by decide) dX2_worstOf_59
set_option maxHeartbeats 4000000 in
set_option maxRecDepth 100000 in
theorem c76_X11_worst (l : Launch) (D : va_G) (ty : Nat → ClassId) (sz : Nat) (h0 : Nat) (h1 : Nat) (h2 : Nat) (h3 : Nat) (h4 : Nat) (h5 : Nat) (p0 : Int32) (v0 : Value) (v1 : Value) (v2 : Value) (v3 : Value) (v4 : Value) (v5 : Value) (v6 : Value) (v7 : Value) (v8 : Value) (v9 : Value) (v10 : Value) (v11 : Value) (v12 : Value) (v13 : Value) (h6 : Nat) (h7 : Nat) (v14 : Value) (v15 : Value) (v16 : Value) (v17 : Value) (v18 : Value) (v19 : Value) (v20 : Value) (v21 : Value) (v22 : Value) (v23 : Value) (v24 : Value) (v25 : Value) (v26 : Value) (v27 : Value) (v28 : Value) (v29 : Value) (v30 : Value) (v31 : Value) (v32 : Value) (v33 : Value) (v34 : Value) (v35 : Value) (v36 : Value) (v37 : Value) (v38 : Value) (v39 : Value) : cQ l yX11_worst cX11_worst 2 (some .int) 1 26 [.ref h0, .int p0] D ty [(h0, .inr (11, [v0, v1, v2, .ref h1, v3, v4, .ref h3, v5, v6, v7, v8, v9, v10, v11, v12])), (h1, .inr (5, [.ref h4, .ref h2, v13])), (h2, .inl (ty 6, 2, .inr (.inr (.inr (.inr (wy2 h6 h7)))))), (h3, .inr (2, [v14, v15, v16, v17, v18, v19])), (h4, .inr (8, [v20, v21, v22, v23, v24, v25, v26, v27, v28, v29, v30, v31, .ref h5, v32, v33, v34, v35, v36])), (h5, .inr (1, [.int 0, v37, v38, v39]))] sz (qI (fun (r : Int32) (u : va_W) => (((((p0 < 0)) ∨ ((¬ (p0 < 0)) ∧ (2 ≤ p0)))) ∧ (-2) = r ∧ [] = u) ∨ (((((¬ (p0 < 0)) ∧ (¬ (2 ≤ p0))) ∧ (p0 = 0)) ∨ (((¬ (p0 < 0)) ∧ (¬ (2 ≤ p0))) ∧ (p0 = 1))) ∧ 0 = r ∧ [] = u))) 0 0 := by
  refine cQ.of (by decide) (Nat.le_of_ble_eq_true rfl) (fun p e s m below meth c A ls C hsz hP hK hD hA hl => ?_)
  obtain ⟨hx, hb, hml, hown, hB, hr, hlocks, hin⟩ := C
  have hown : s.vm.findClass RX11 = some m.cls := hown
  have hS : va_S A s.heap s.heap [] := va_S.rf
  have hl : lv_has ls 2 [(0, .ref h0), (1, .int p0)] := hl
  refine lv_iload_n hx hb dX11_worst_0 rfl (lv_at hl 1 rfl) ?_
  refine kc_i (va_runS (As := [.int p0]) (rest := []) ⟨hx, hb, hml, hown, hB⟩ (c38_X11_isGiving l D ty s.heap.size p0) (va_cwS 1 hB (bw_S mw_253 mw_254 mw_216 mw_252) rfl rfl rfl (by decide +kernel) ⟨Nat.le_of_ble_eq_true rfl, Nat.le_of_ble_eq_true rfl⟩) (kp_S hK hP hD [] (by decide) rfl) rfl rfl hl.1 rfl (lv_room (Nat.le_of_ble_eq_true rfl)) dX11_worst_1 ⟨Nat.le_of_ble_eq_true rfl, Nat.le_of_ble_eq_true rfl⟩) hP hD hS hA [] [0, 1, 2, 3, 4, 5] (wr := [(h0, .inr (11, [v0, v1, v2, .ref h1, v3, v4, .ref h3, v5, v6, v7, v8, v9, v10, v11, v12])), (h1, .inr (5, [.ref h4, .ref h2, v13])), (h2, .inl (ty 6, 2, .inr (.inr (.inr (.inr (wy2 h6 h7)))))), (h3, .inr (2, [v14, v15, v16, v17, v18, v19])), (h4, .inr (8, [v20, v21, v22, v23, v24, v25, v26, v27, v28, v29, v30, v31, .ref h5, v32, v33, v34, v35, v36])), (h5, .inr (1, [.int 0, v37, v38, v39]))]) rfl rfl (by decide) (by decide) (fun r u H locs w1 hP hD hS => ?_)
  rcases w1 with ⟨c2, rfl, rfl⟩ | ⟨c3, rfl, rfl⟩
  · have hP : va_P D vwCl [(h0, .inr (11, [v0, v1, v2, .ref h1, v3, v4, .ref h3, v5, v6, v7, v8, v9, v10, v11, v12])), (h1, .inr (5, [.ref h4, .ref h2, v13])), (h2, .inl (ty 6, 2, .inr (.inr (.inr (.inr (wy2 h6 h7)))))), (h3, .inr (2, [v14, v15, v16, v17, v18, v19])), (h4, .inr (8, [v20, v21, v22, v23, v24, v25, v26, v27, v28, v29, v30, v31, .ref h5, v32, v33, v34, v35, v36])), (h5, .inr (1, [.int 0, v37, v38, v39]))] H := hP
    have hD : va_D A [(h0, .inr (11, [v0, v1, v2, .ref h1, v3, v4, .ref h3, v5, v6, v7, v8, v9, v10, v11, v12])), (h1, .inr (5, [.ref h4, .ref h2, v13])), (h2, .inl (ty 6, 2, .inr (.inr (.inr (.inr (wy2 h6 h7)))))), (h3, .inr (2, [v14, v15, v16, v17, v18, v19])), (h4, .inr (8, [v20, v21, v22, v23, v24, v25, v26, v27, v28, v29, v30, v31, .ref h5, v32, v33, v34, v35, v36])), (h5, .inr (1, [.int 0, v37, v38, v39]))] := hD
    refine lv_if_eq (tgt := 35) hx hb dX11_worst_4 (by decide) (fun _ => ?_) (fun h9 => absurd (by decide) h9)
    refine lv_bipush (v := (-2)) hx hb dX11_worst_35 (by decide) ?_
    exact kr_z hx hb hr rfl hlocks hP hD hS [] [] (by decide) rfl (Or.inl ⟨c2, rfl, rfl⟩) (by decide) (by decide) dX11_worst_37
  · have hP : va_P D vwCl [(h0, .inr (11, [v0, v1, v2, .ref h1, v3, v4, .ref h3, v5, v6, v7, v8, v9, v10, v11, v12])), (h1, .inr (5, [.ref h4, .ref h2, v13])), (h2, .inl (ty 6, 2, .inr (.inr (.inr (.inr (wy2 h6 h7)))))), (h3, .inr (2, [v14, v15, v16, v17, v18, v19])), (h4, .inr (8, [v20, v21, v22, v23, v24, v25, v26, v27, v28, v29, v30, v31, .ref h5, v32, v33, v34, v35, v36])), (h5, .inr (1, [.int 0, v37, v38, v39]))] H := hP
    have hD : va_D A [(h0, .inr (11, [v0, v1, v2, .ref h1, v3, v4, .ref h3, v5, v6, v7, v8, v9, v10, v11, v12])), (h1, .inr (5, [.ref h4, .ref h2, v13])), (h2, .inl (ty 6, 2, .inr (.inr (.inr (.inr (wy2 h6 h7)))))), (h3, .inr (2, [v14, v15, v16, v17, v18, v19])), (h4, .inr (8, [v20, v21, v22, v23, v24, v25, v26, v27, v28, v29, v30, v31, .ref h5, v32, v33, v34, v35, v36])), (h5, .inr (1, [.int 0, v37, v38, v39]))] := hD
    refine lv_if_eq (tgt := 35) hx hb dX11_worst_4 (by decide) (fun h9 => absurd h9 (by decide)) (fun _ => ?_)
    refine lv_aload_n hx hb dX11_worst_7 rfl (lv_at hl 0 rfl) ?_
    refine va_get (D := D) (ci := 11) (v := .ref h3) (C := RX11) (T := TX11) (N := 15) hx hb hB inB_X11 hown hK.1 hP 0 rfl rfl 6 (by decide) (hB _ mw_102) (fun _ h9 => h9) rfl dX11_worst_8 ?_
    refine lv_aload_n hx hb dX11_worst_11 rfl (lv_at hl 0 rfl) ?_
    refine va_get (D := D) (ci := 11) (v := .ref h1) (C := RX11) (T := TX11) (N := 15) hx hb hB inB_X11 hown hK.1 hP 0 rfl rfl 3 (by decide) (hB _ mw_85) (fun _ h9 => h9) rfl dX11_worst_12 ?_
    refine va_get (D := D) (ci := 5) (v := .ref h4) (C := RX5) (T := TX5) (N := 3) hx hb hB inB_X5 hown hK.1 hP 1 rfl rfl 0 (by decide) (hB _ mw_150) (fun _ h9 => h9) rfl dX11_worst_15 ?_
    refine lv_aload_n hx hb dX11_worst_18 rfl (lv_at hl 0 rfl) ?_
    refine va_get (D := D) (ci := 11) (v := .ref h1) (C := RX11) (T := TX11) (N := 15) hx hb hB inB_X11 hown hK.1 hP 0 rfl rfl 3 (by decide) (hB _ mw_85) (fun _ h9 => h9) rfl dX11_worst_19 ?_
    refine va_get (D := D) (ci := 5) (v := .ref h2) (C := RX5) (T := TX5) (N := 3) hx hb hB inB_X5 hown hK.1 hP 1 rfl rfl 1 (by decide) (hB _ mw_267) (fun _ h9 => h9) rfl dX11_worst_22 ?_
    refine lv_iload_n hx hb dX11_worst_25 rfl (lv_at hl 1 rfl) ?_
    rcases ps_2 p0 c3 with rfl | rfl
    · refine va_aldA hx hb hK.1 hP 2 6 rfl rfl (by unfold vp_in; decide) dX11_worst_26 ?_
      refine tp_v (v := .ref h6) rfl ?_
      refine lv_ldc hx hb hown (hB _ mw_327) dX11_worst_27 ?_
      refine kc_i (va_runV (As := [.ref h4, .ref h6, .int 1000000000]) (rest := []) ⟨hx, hb, hml, hown, hB⟩ (c77_X2_worstOf l D ty H.size h4 h5 h3 h6 v20 v21 v22 v23 v24 v25 v26 v27 v28 v29 v30 v31 v32 v33 v34 v35 v36 v37 v38 v39) (cwV 3 hB (bw_V mw_335 mw_336 mw_337 mw_92 mw_334) rfl rfl rfl (by decide +kernel) ⟨Nat.le_of_ble_eq_true rfl, Nat.le_of_ble_eq_true rfl⟩) (kp_V hK hP hD [4, 5] (by decide) rfl 3 rfl rfl rfl) rfl rfl hl.1 rfl (lv_room (Nat.le_of_ble_eq_true rfl)) dX11_worst_29 ⟨Nat.le_of_ble_eq_true rfl, Nat.le_of_ble_eq_true rfl⟩) hP hD hS hA [4, 5] [0, 1, 2, 3] (wr := [(h0, .inr (11, [v0, v1, v2, .ref h1, v3, v4, .ref h3, v5, v6, v7, v8, v9, v10, v11, v12])), (h1, .inr (5, [.ref h4, .ref h2, v13])), (h2, .inl (ty 6, 2, .inr (.inr (.inr (.inr (wy2 h6 h7)))))), (h3, .inr (2, [v14, v15, v16, v17, v18, v19]))]) rfl rfl (by decide) (by decide) (fun r u H locs w4 hP hD hS => ?_)
      obtain ⟨rfl, rfl⟩ := w4
      have hP : va_P D vwCl [(h0, .inr (11, [v0, v1, v2, .ref h1, v3, v4, .ref h3, v5, v6, v7, v8, v9, v10, v11, v12])), (h1, .inr (5, [.ref h4, .ref h2, v13])), (h2, .inl (ty 6, 2, .inr (.inr (.inr (.inr (wy2 h6 h7)))))), (h3, .inr (2, [v14, v15, v16, v17, v18, v19])), (h4, .inr (8, [v20, v21, v22, v23, v24, v25, v26, v27, v28, v29, v30, v31, .ref h5, v32, v33, v34, v35, v36])), (h5, .inr (1, [.int 0, v37, v38, v39]))] H := hP
      have hD : va_D A [(h0, .inr (11, [v0, v1, v2, .ref h1, v3, v4, .ref h3, v5, v6, v7, v8, v9, v10, v11, v12])), (h1, .inr (5, [.ref h4, .ref h2, v13])), (h2, .inl (ty 6, 2, .inr (.inr (.inr (.inr (wy2 h6 h7)))))), (h3, .inr (2, [v14, v15, v16, v17, v18, v19])), (h4, .inr (8, [v20, v21, v22, v23, v24, v25, v26, v27, v28, v29, v30, v31, .ref h5, v32, v33, v34, v35, v36])), (h5, .inr (1, [.int 0, v37, v38, v39]))] := hD
      refine lv_goto (tgt := 37) hx hb dX11_worst_32 (by decide) ?_
      exact kr_z hx hb hr rfl hlocks hP hD hS [] [] (by decide) rfl (Or.inr ⟨(Or.inl ⟨c3, rfl⟩), rfl, rfl⟩) (by decide) (by decide) dX11_worst_37
    · refine va_aldA hx hb hK.1 hP 2 6 rfl rfl (by unfold vp_in; decide) dX11_worst_26 ?_
      refine tp_v (v := .ref h7) rfl ?_
      refine lv_ldc hx hb hown (hB _ mw_327) dX11_worst_27 ?_
      refine kc_i (va_runV (As := [.ref h4, .ref h7, .int 1000000000]) (rest := []) ⟨hx, hb, hml, hown, hB⟩ (c77_X2_worstOf l D ty H.size h4 h5 h3 h7 v20 v21 v22 v23 v24 v25 v26 v27 v28 v29 v30 v31 v32 v33 v34 v35 v36 v37 v38 v39) (cwV 3 hB (bw_V mw_335 mw_336 mw_337 mw_92 mw_334) rfl rfl rfl (by decide +kernel) ⟨Nat.le_of_ble_eq_true rfl, Nat.le_of_ble_eq_true rfl⟩) (kp_V hK hP hD [4, 5] (by decide) rfl 3 rfl rfl rfl) rfl rfl hl.1 rfl (lv_room (Nat.le_of_ble_eq_true rfl)) dX11_worst_29 ⟨Nat.le_of_ble_eq_true rfl, Nat.le_of_ble_eq_true rfl⟩) hP hD hS hA [4, 5] [0, 1, 2, 3] (wr := [(h0, .inr (11, [v0, v1, v2, .ref h1, v3, v4, .ref h3, v5, v6, v7, v8, v9, v10, v11, v12])), (h1, .inr (5, [.ref h4, .ref h2, v13])), (h2, .inl (ty 6, 2, .inr (.inr (.inr (.inr (wy2 h6 h7)))))), (h3, .inr (2, [v14, v15, v16, v17, v18, v19]))]) rfl rfl (by decide) (by decide) (fun r u H locs w5 hP hD hS => ?_)
      obtain ⟨rfl, rfl⟩ := w5
      have hP : va_P D vwCl [(h0, .inr (11, [v0, v1, v2, .ref h1, v3, v4, .ref h3, v5, v6, v7, v8, v9, v10, v11, v12])), (h1, .inr (5, [.ref h4, .ref h2, v13])), (h2, .inl (ty 6, 2, .inr (.inr (.inr (.inr (wy2 h6 h7)))))), (h3, .inr (2, [v14, v15, v16, v17, v18, v19])), (h4, .inr (8, [v20, v21, v22, v23, v24, v25, v26, v27, v28, v29, v30, v31, .ref h5, v32, v33, v34, v35, v36])), (h5, .inr (1, [.int 0, v37, v38, v39]))] H := hP
      have hD : va_D A [(h0, .inr (11, [v0, v1, v2, .ref h1, v3, v4, .ref h3, v5, v6, v7, v8, v9, v10, v11, v12])), (h1, .inr (5, [.ref h4, .ref h2, v13])), (h2, .inl (ty 6, 2, .inr (.inr (.inr (.inr (wy2 h6 h7)))))), (h3, .inr (2, [v14, v15, v16, v17, v18, v19])), (h4, .inr (8, [v20, v21, v22, v23, v24, v25, v26, v27, v28, v29, v30, v31, .ref h5, v32, v33, v34, v35, v36])), (h5, .inr (1, [.int 0, v37, v38, v39]))] := hD
      refine lv_goto (tgt := 37) hx hb dX11_worst_32 (by decide) ?_
      exact kr_z hx hb hr rfl hlocks hP hD hS [] [] (by decide) rfl (Or.inr ⟨(Or.inr ⟨c3, rfl⟩), rfl, rfl⟩) (by decide) (by decide) dX11_worst_37
set_option maxHeartbeats 4000000 in
set_option maxRecDepth 100000 in
theorem c80_J6_bitCount_0f7a4 (l : Launch) (D : va_G) (ty : Nat → ClassId) (sz : Nat) : cQ l yJ6_bitCount_0f7a4 cJ6_bitCount_0f7a4 1 (some .int) 0 0 [.int 0] D ty [] sz (qI (fun (r : Int32) (u : va_W) => 0 = r ∧ [] = u)) 0 0 := by
  refine cQ.of (by decide) (Nat.le_of_ble_eq_true rfl) (fun p e s m below meth c A ls C hsz hP hK hD hA hl => ?_)
  obtain ⟨hx, hb, hml, hown, hB, hr, hlocks, hin⟩ := C
  have hown : s.vm.findClass RJ6 = some m.cls := hown
  have hS : va_S A s.heap s.heap [] := va_S.rf
  have hl : lv_has ls 1 [(0, .int 0)] := hl
  refine lv_iload_n hx hb dJ6_bitCount_0f7a4_0 rfl (lv_at hl 0 rfl) ?_
  refine lv_iload_n hx hb dJ6_bitCount_0f7a4_1 rfl (lv_at hl 0 rfl) ?_
  refine lv_iconst (v := 1) hx hb dJ6_bitCount_0f7a4_2 (by decide) ?_
  refine lv_iushr (v := 0) hx hb dJ6_bitCount_0f7a4_3 (by decide) ?_
  refine lv_ldcw hx hb hown (hB _ mw_339) dJ6_bitCount_0f7a4_4 ?_
  refine lv_iand hx hb dJ6_bitCount_0f7a4_7 ?_
  refine tp_i (v := 0) (by decide) ?_
  refine lv_isub hx hb dJ6_bitCount_0f7a4_8 ?_
  refine tp_i (v := 0) (by decide) ?_
  refine lv_istore_n (lv' := [(0, .int 0)]) hx hb dJ6_bitCount_0f7a4_9 rfl hl (by decide) rfl (fun ls hl => ?_)
  refine lv_iload_n hx hb dJ6_bitCount_0f7a4_10 rfl (lv_at hl 0 rfl) ?_
  refine lv_ldcw hx hb hown (hB _ mw_340) dJ6_bitCount_0f7a4_11 ?_
  refine lv_iand hx hb dJ6_bitCount_0f7a4_14 ?_
  refine tp_i (v := 0) (by decide) ?_
  refine lv_iload_n hx hb dJ6_bitCount_0f7a4_15 rfl (lv_at hl 0 rfl) ?_
  refine lv_iconst (v := 2) hx hb dJ6_bitCount_0f7a4_16 (by decide) ?_
  refine lv_iushr (v := 0) hx hb dJ6_bitCount_0f7a4_17 (by decide) ?_
  refine lv_ldcw hx hb hown (hB _ mw_340) dJ6_bitCount_0f7a4_18 ?_
  refine lv_iand hx hb dJ6_bitCount_0f7a4_21 ?_
  refine tp_i (v := 0) (by decide) ?_
  refine lv_iadd hx hb dJ6_bitCount_0f7a4_22 ?_
  refine tp_i (v := 0) (by decide) ?_
  refine lv_istore_n (lv' := [(0, .int 0)]) hx hb dJ6_bitCount_0f7a4_23 rfl hl (by decide) rfl (fun ls hl => ?_)
  refine lv_iload_n hx hb dJ6_bitCount_0f7a4_24 rfl (lv_at hl 0 rfl) ?_
  refine lv_iload_n hx hb dJ6_bitCount_0f7a4_25 rfl (lv_at hl 0 rfl) ?_
  refine lv_iconst (v := 4) hx hb dJ6_bitCount_0f7a4_26 (by decide) ?_
  refine lv_iushr (v := 0) hx hb dJ6_bitCount_0f7a4_27 (by decide) ?_
  refine lv_iadd hx hb dJ6_bitCount_0f7a4_28 ?_
  refine tp_i (v := 0) (by decide) ?_
  refine lv_ldcw hx hb hown (hB _ mw_341) dJ6_bitCount_0f7a4_29 ?_
  refine lv_iand hx hb dJ6_bitCount_0f7a4_32 ?_
  refine tp_i (v := 0) (by decide) ?_
  refine lv_istore_n (lv' := [(0, .int 0)]) hx hb dJ6_bitCount_0f7a4_33 rfl hl (by decide) rfl (fun ls hl => ?_)
  refine lv_iload_n hx hb dJ6_bitCount_0f7a4_34 rfl (lv_at hl 0 rfl) ?_
  refine lv_iload_n hx hb dJ6_bitCount_0f7a4_35 rfl (lv_at hl 0 rfl) ?_
  refine lv_bipush (v := 8) hx hb dJ6_bitCount_0f7a4_36 (by decide) ?_
  refine lv_iushr (v := 0) hx hb dJ6_bitCount_0f7a4_38 (by decide) ?_
  refine lv_iadd hx hb dJ6_bitCount_0f7a4_39 ?_
  refine tp_i (v := 0) (by decide) ?_
  refine lv_istore_n (lv' := [(0, .int 0)]) hx hb dJ6_bitCount_0f7a4_40 rfl hl (by decide) rfl (fun ls hl => ?_)
  refine lv_iload_n hx hb dJ6_bitCount_0f7a4_41 rfl (lv_at hl 0 rfl) ?_
  refine lv_iload_n hx hb dJ6_bitCount_0f7a4_42 rfl (lv_at hl 0 rfl) ?_
  refine lv_bipush (v := 16) hx hb dJ6_bitCount_0f7a4_43 (by decide) ?_
  refine lv_iushr (v := 0) hx hb dJ6_bitCount_0f7a4_45 (by decide) ?_
  refine lv_iadd hx hb dJ6_bitCount_0f7a4_46 ?_
  refine tp_i (v := 0) (by decide) ?_
  refine lv_istore_n (lv' := [(0, .int 0)]) hx hb dJ6_bitCount_0f7a4_47 rfl hl (by decide) rfl (fun ls hl => ?_)
  refine lv_iload_n hx hb dJ6_bitCount_0f7a4_48 rfl (lv_at hl 0 rfl) ?_
  refine lv_bipush (v := 63) hx hb dJ6_bitCount_0f7a4_49 (by decide) ?_
  refine lv_iand hx hb dJ6_bitCount_0f7a4_51 ?_
  refine tp_i (v := 0) (by decide) ?_
  exact kr_z hx hb hr rfl hlocks hP hD hS [] [] (by decide) rfl ⟨rfl, rfl⟩ (by decide) (by decide) dJ6_bitCount_0f7a4_52
set_option maxHeartbeats 4000000 in
set_option maxRecDepth 100000 in
theorem c79_X5_openOnes (l : Launch) (D : va_G) (ty : Nat → ClassId) (sz : Nat) (h0 : Nat) (h1 : Nat) (h2 : Nat) (v0 : Value) (h3 : Nat) (h4 : Nat) (v1 : Value) (v2 : Value) (v3 : Value) (v4 : Value) (v5 : Value) (v6 : Value) (v7 : Value) (v8 : Value) (v9 : Value) (v10 : Value) (v11 : Value) (v12 : Value) (v13 : Value) (v14 : Value) (v15 : Value) (v16 : Value) (v17 : Value) : cQ l yX5_openOnes cX5_openOnes 2 (some .int) 1 23 [.ref h0, .int 0] D ty [(h0, .inr (5, [.ref h2, .ref h1, v0])), (h1, .inl (ty 6, 2, .inr (.inr (.inr (.inr (wy2 h3 h4)))))), (h2, .inr (8, [v1, v2, .int 0, v3, v4, v5, v6, v7, v8, v9, v10, v11, v12, v13, v14, v15, v16, v17]))] sz (qI (fun (r : Int32) (u : va_W) => 0 = r ∧ [(h0, .inr (5, [.ref h2, .ref h1, v0])), (h1, .inl (ty 6, 2, .inr (.inr (.inr (.inr (wy2 h3 h4)))))), (h2, .inr (8, [v1, v2, .int 0, v3, v4, v5, v6, v7, v8, v9, v10, v11, v12, v13, v14, v15, v16, v17]))] = u)) 0 0 := by
  refine cQ.of (by decide) (Nat.le_of_ble_eq_true rfl) (fun p e s m below meth c A ls C hsz hP hK hD hA hl => ?_)
  obtain ⟨hx, hb, hml, hown, hB, hr, hlocks, hin⟩ := C
  have hown : s.vm.findClass RX5 = some m.cls := hown
  have hS : va_S A s.heap s.heap [] := va_S.rf
  have hl : lv_has ls 2 [(0, .ref h0), (1, .int 0)] := hl
  refine lv_aload_n hx hb dX5_openOnes_0 rfl (lv_at hl 0 rfl) ?_
  refine va_get (D := D) (ci := 5) (v := .ref h2) (C := RX5) (T := TX5) (N := 3) hx hb hB inB_X5 hown hK.1 hP 0 rfl rfl 0 (by decide) (hB _ mw_79) (fun _ h9 => h9) rfl dX5_openOnes_1 ?_
  refine lv_aload_n hx hb dX5_openOnes_4 rfl (lv_at hl 0 rfl) ?_
  refine va_get (D := D) (ci := 5) (v := .ref h1) (C := RX5) (T := TX5) (N := 3) hx hb hB inB_X5 hown hK.1 hP 0 rfl rfl 1 (by decide) (hB _ mw_81) (fun _ h9 => h9) rfl dX5_openOnes_5 ?_
  refine lv_iload_n hx hb dX5_openOnes_8 rfl (lv_at hl 1 rfl) ?_
  refine va_aldA hx hb hK.1 hP 1 6 rfl rfl (by unfold vp_in; decide) dX5_openOnes_9 ?_
  refine tp_v (v := .ref h3) rfl ?_
  refine kc_i (va_runV (As := [.ref h3]) (rest := []) ⟨hx, hb, hml, hown, hB⟩ (c53_X8_openAlleys l D ty s.heap.size h2 h3 v1 v2 v3 v4 v5 v6 v7 v8 v9 v10 v11 v12 v13 v14 v15 v16 v17) (cwV 1 hB (bw_V mw_338 mw_287 mw_288 mw_25 mw_285) rfl rfl rfl (by decide +kernel) ⟨Nat.le_of_ble_eq_true rfl, Nat.le_of_ble_eq_true rfl⟩) (kp_V hK hP hD [2] (by decide) rfl 2 rfl rfl rfl) rfl rfl hl.1 rfl (lv_room (Nat.le_of_ble_eq_true rfl)) dX5_openOnes_10 ⟨Nat.le_of_ble_eq_true rfl, Nat.le_of_ble_eq_true rfl⟩) hP hD hS hA [2] [0, 1] (wr := [(h0, .inr (5, [.ref h2, .ref h1, v0])), (h1, .inl (ty 6, 2, .inr (.inr (.inr (.inr (wy2 h3 h4))))))]) rfl rfl (by decide) (by decide) (fun r u H locs w1 hP hD hS => ?_)
  obtain ⟨rfl, rfl⟩ := w1
  have hP : va_P D vwCl [(h0, .inr (5, [.ref h2, .ref h1, v0])), (h1, .inl (ty 6, 2, .inr (.inr (.inr (.inr (wy2 h3 h4)))))), (h2, .inr (8, [v1, v2, .int 0, v3, v4, v5, v6, v7, v8, v9, v10, v11, v12, v13, v14, v15, v16, v17]))] H := hP
  have hD : va_D A [(h0, .inr (5, [.ref h2, .ref h1, v0])), (h1, .inl (ty 6, 2, .inr (.inr (.inr (.inr (wy2 h3 h4)))))), (h2, .inr (8, [v1, v2, .int 0, v3, v4, v5, v6, v7, v8, v9, v10, v11, v12, v13, v14, v15, v16, v17]))] := hD
  refine kc_i (va_runS (As := [.int 0]) (rest := []) ⟨hx, hb, hml, hown, hB⟩ (c80_J6_bitCount_0f7a4 l D ty H.size) (va_cwS 1 hB (bw_S mw_343 mw_344 mw_345 mw_342) rfl rfl rfl (by decide +kernel) ⟨Nat.le_of_ble_eq_true rfl, Nat.le_of_ble_eq_true rfl⟩) (kp_S hK hP hD [] (by decide) rfl) rfl rfl hl.1 rfl (lv_room (Nat.le_of_ble_eq_true rfl)) dX5_openOnes_13 ⟨Nat.le_of_ble_eq_true rfl, Nat.le_of_ble_eq_true rfl⟩) hP hD hS hA [] [0, 1, 2] (wr := [(h0, .inr (5, [.ref h2, .ref h1, v0])), (h1, .inl (ty 6, 2, .inr (.inr (.inr (.inr (wy2 h3 h4)))))), (h2, .inr (8, [v1, v2, .int 0, v3, v4, v5, v6, v7, v8, v9, v10, v11, v12, v13, v14, v15, v16, v17]))]) rfl rfl (by decide) (by decide) (fun r u H locs w2 hP hD hS => ?_)
  obtain ⟨rfl, rfl⟩ := w2
  have hP : va_P D vwCl [(h0, .inr (5, [.ref h2, .ref h1, v0])), (h1, .inl (ty 6, 2, .inr (.inr (.inr (.inr (wy2 h3 h4)))))), (h2, .inr (8, [v1, v2, .int 0, v3, v4, v5, v6, v7, v8, v9, v10, v11, v12, v13, v14, v15, v16, v17]))] H := hP
  have hD : va_D A [(h0, .inr (5, [.ref h2, .ref h1, v0])), (h1, .inl (ty 6, 2, .inr (.inr (.inr (.inr (wy2 h3 h4)))))), (h2, .inr (8, [v1, v2, .int 0, v3, v4, v5, v6, v7, v8, v9, v10, v11, v12, v13, v14, v15, v16, v17]))] := hD
  exact kr_z hx hb hr rfl hlocks hP hD hS [(h0, .inr (5, [.ref h2, .ref h1, v0])), (h1, .inl (ty 6, 2, .inr (.inr (.inr (.inr (wy2 h3 h4)))))), (h2, .inr (8, [v1, v2, .int 0, v3, v4, v5, v6, v7, v8, v9, v10, v11, v12, v13, v14, v15, v16, v17]))] [0, 1, 2] (by decide) rfl ⟨rfl, rfl⟩ (by decide) (by decide) dX5_openOnes_16
set_option maxHeartbeats 4000000 in
set_option maxRecDepth 100000 in
theorem c82_X0_listOpen (l : Launch) (D : va_G) (ty : Nat → ClassId) (sz : Nat) (h0 : Nat) (h1 : Nat) (h2 : Nat) (v0 : Value) (v1 : Value) (v2 : Value) (v3 : Value) (v4 : Value) (v5 : Value) (v6 : Value) (v7 : Value) (v8 : Value) (v9 : Value) (v10 : Value) (v11 : Value) (v12 : Value) (v13 : Value) (v14 : Value) (v15 : Value) (v16 : Value) : cQ l yX0_listOpen cX0_listOpen 5 (some .int) 0 0 [.ref h1, .ref h0, .ref h2] D ty [(h0, .inr (8, [v0, v1, .int 0, v2, v3, v4, v5, v6, v7, v8, v9, v10, v11, v12, v13, v14, v15, v16]))] sz (qI (fun (r : Int32) (u : va_W) => 0 = r ∧ [(h0, .inr (8, [v0, v1, .int 0, v2, v3, v4, v5, v6, v7, v8, v9, v10, v11, v12, v13, v14, v15, v16]))] = u)) 0 0 := by
  refine cQ.of (by decide) (Nat.le_of_ble_eq_true rfl) (fun p e s m below meth c A ls C hsz hP hK hD hA hl => ?_)
  obtain ⟨hx, hb, hml, hown, hB, hr, hlocks, hin⟩ := C
  have hown : s.vm.findClass RX0 = some m.cls := hown
  have hS : va_S A s.heap s.heap [] := va_S.rf
  have hl : lv_has ls 5 [(0, .ref h1), (1, .ref h0), (2, .ref h2)] := hl
  refine lv_iconst (v := 0) hx hb dX0_listOpen_0 (by decide) ?_
  refine lv_istore_n (lv' := [(3, .int 0), (0, .ref h1), (1, .ref h0), (2, .ref h2)]) hx hb dX0_listOpen_1 rfl hl (by decide) rfl (fun ls hl => ?_)
  refine lv_iconst (v := 0) hx hb dX0_listOpen_2 (by decide) ?_
  refine lv_istore (lv' := [(4, .int 0), (3, .int 0), (0, .ref h1), (1, .ref h0), (2, .ref h2)]) hx hb dX0_listOpen_3 hl (by decide) rfl (fun ls hl => ?_)
  refine lv_iload hx hb dX0_listOpen_5 (lv_at hl 0 rfl) ?_
  refine lv_aload_n hx hb dX0_listOpen_7 rfl (lv_at hl 3 rfl) ?_
  refine va_get (D := D) (ci := 8) (v := .int 0) (C := RX8) (T := TX8) (N := 18) hx hb hB inB_X8 hown hK.1 hP 0 rfl rfl 2 (by decide) (hB _ mw_350) (fun _ h9 => h9) rfl dX0_listOpen_8 ?_
  refine lv_icmp_ge (tgt := 44) hx hb dX0_listOpen_11 (by decide) (fun _ => ?_) (fun h9 => absurd (by decide) h9)
  refine lv_iload_n hx hb dX0_listOpen_44 rfl (lv_at hl 1 rfl) ?_
  exact kr_z hx hb hr rfl hlocks hP hD hS [(h0, .inr (8, [v0, v1, .int 0, v2, v3, v4, v5, v6, v7, v8, v9, v10, v11, v12, v13, v14, v15, v16]))] [0] (by decide) rfl ⟨rfl, rfl⟩ (by decide) (by decide) dX0_listOpen_45
set_option maxHeartbeats 4000000 in
set_option maxRecDepth 100000 in
theorem c83_X0_giveTrial (l : Launch) (D : va_G) (ty : Nat → ClassId) (sz : Nat) (h0 : Nat) (h1 : Nat) : cQ l yX0_giveTrial cX0_giveTrial 5 none 0 0 [.ref h0, .ref h1, .int 0, .int 0] D ty [] sz (qV (fun (u : va_W) => [] = u)) 0 0 := by
  refine cQ.of (by decide) (Nat.le_of_ble_eq_true rfl) (fun p e s m below meth c A ls C hsz hP hK hD hA hl => ?_)
  obtain ⟨hx, hb, hml, hown, hB, hr, hlocks, hin⟩ := C
  have hown : s.vm.findClass RX0 = some m.cls := hown
  have hS : va_S A s.heap s.heap [] := va_S.rf
  have hl : lv_has ls 5 [(0, .ref h0), (1, .ref h1), (2, .int 0), (3, .int 0)] := hl
  refine lv_iconst (v := 0) hx hb dX0_giveTrial_0 (by decide) ?_
  refine lv_istore (lv' := [(4, .int 0), (0, .ref h0), (1, .ref h1), (2, .int 0), (3, .int 0)]) hx hb dX0_giveTrial_1 hl (by decide) rfl (fun ls hl => ?_)
  refine lv_iload hx hb dX0_giveTrial_3 (lv_at hl 0 rfl) ?_
  refine lv_iload_n hx hb dX0_giveTrial_5 rfl (lv_at hl 3 rfl) ?_
  refine lv_icmp_ge (tgt := 42) hx hb dX0_giveTrial_6 (by decide) (fun _ => ?_) (fun h9 => absurd (by decide) h9)
  exact kr_v hx hb hr hlocks hP hD hS [] [] (by decide) rfl rfl (by decide) (by decide) dX0_giveTrial_42
set_option maxHeartbeats 4000000 in
set_option maxRecDepth 100000 in
theorem c81_X0_endAsBest (l : Launch) (D : va_G) (ty : Nat → ClassId) (sz : Nat) (h0 : Nat) (h1 : Nat) (h2 : Nat) (h3 : Nat) (h4 : Nat) (h5 : Nat) (v0 : Value) (v1 : Value) (v2 : Value) (v3 : Value) (v4 : Value) (v5 : Value) (v6 : Value) (v7 : Value) (v8 : Value) (v9 : Value) (v10 : Value) (v11 : Value) (v12 : Value) (v13 : Value) (v14 : Value) (v15 : Value) (v16 : Value) (v17 : Value) (v18 : Value) (v19 : Value) (v20 : Value) (f0 : Nat → Int32) (f1 : Nat → Int32) : cQ l yX0_endAsBest cX0_endAsBest 9 (some .int) 3 72 [.ref h0, .ref h1, .ref h5, .int 0] D ty [(h0, .inr (0, [.ref h2, v0])), (h1, .inr (8, [v1, .int 2, .int 0, v2, v3, v4, v5, v6, v7, v8, v9, v10, v11, v12, v13, v14, v15, v16])), (h2, .inr (2, [v17, v18, v19, .ref h3, .ref h4, v20])), (h3, .inl (ty 1, 16, .inl f0)), (h4, .inl (ty 1, 16, .inl f1))] sz (qI (fun (r : Int32) (u : va_W) => (-1) = r ∧ [(h0, .inr (0, [.ref h2, v0])), (h2, .inr (2, [v17, v18, v19, .ref h3, .ref h4, v20])), (h4, .inl (ty 1, 16, .inl (kf 0))), (h1, .inr (8, [v1, .int 2, .int 0, v2, v3, v4, v5, v6, v7, v8, v9, v10, v11, v12, v13, v14, v15, v16])), (h3, .inl (ty 1, 16, .inl (kf 0)))] = u)) 0 0 := by
  refine cQ.of (by decide) (Nat.le_of_ble_eq_true rfl) (fun p e s m below meth c A ls C hsz hP hK hD hA hl => ?_)
  obtain ⟨hx, hb, hml, hown, hB, hr, hlocks, hin⟩ := C
  have hown : s.vm.findClass RX0 = some m.cls := hown
  have hS : va_S A s.heap s.heap [] := va_S.rf
  have hl : lv_has ls 9 [(0, .ref h0), (1, .ref h1), (2, .ref h5), (3, .int 0)] := hl
  refine lv_aload_n hx hb dX0_endAsBest_0 rfl (lv_at hl 0 rfl) ?_
  refine lv_aload_n hx hb dX0_endAsBest_1 rfl (lv_at hl 1 rfl) ?_
  refine lv_aload_n hx hb dX0_endAsBest_2 rfl (lv_at hl 2 rfl) ?_
  refine kc_i (va_runV (As := [.ref h1, .ref h5]) (rest := []) ⟨hx, hb, hml, hown, hB⟩ (c82_X0_listOpen l D ty s.heap.size h1 h0 h5 v1 (.int 2) v2 v3 v4 v5 v6 v7 v8 v9 v10 v11 v12 v13 v14 v15 v16) (cwV 2 hB (bw_V mw_352 mw_353 mw_354 mw_105 mw_351) rfl rfl rfl (by decide +kernel) ⟨Nat.le_of_ble_eq_true rfl, Nat.le_of_ble_eq_true rfl⟩) (kp_V hK hP hD [1] (by decide) rfl 0 rfl rfl rfl) rfl rfl hl.1 rfl (lv_room (Nat.le_of_ble_eq_true rfl)) dX0_endAsBest_3 ⟨Nat.le_of_ble_eq_true rfl, Nat.le_of_ble_eq_true rfl⟩) hP hD hS hA [1] [0, 2, 3, 4] (wr := [(h0, .inr (0, [.ref h2, v0])), (h2, .inr (2, [v17, v18, v19, .ref h3, .ref h4, v20])), (h3, .inl (ty 1, 16, .inl f0)), (h4, .inl (ty 1, 16, .inl f1))]) rfl rfl (by decide) (by decide) (fun r u H locs w1 hP hD hS => ?_)
  obtain ⟨rfl, rfl⟩ := w1
  have hP : va_P D vwCl [(h0, .inr (0, [.ref h2, v0])), (h2, .inr (2, [v17, v18, v19, .ref h3, .ref h4, v20])), (h3, .inl (ty 1, 16, .inl f0)), (h4, .inl (ty 1, 16, .inl f1)), (h1, .inr (8, [v1, .int 2, .int 0, v2, v3, v4, v5, v6, v7, v8, v9, v10, v11, v12, v13, v14, v15, v16]))] H := hP
  have hD : va_D A [(h0, .inr (0, [.ref h2, v0])), (h2, .inr (2, [v17, v18, v19, .ref h3, .ref h4, v20])), (h3, .inl (ty 1, 16, .inl f0)), (h4, .inl (ty 1, 16, .inl f1)), (h1, .inr (8, [v1, .int 2, .int 0, v2, v3, v4, v5, v6, v7, v8, v9, v10, v11, v12, v13, v14, v15, v16]))] := hD
  refine lv_istore (lv' := [(4, .int 0), (0, .ref h0), (1, .ref h1), (2, .ref h5), (3, .int 0)]) hx hb dX0_endAsBest_6 hl (by decide) rfl (fun ls hl => ?_)
  refine lv_ldc hx hb hown (hB _ mw_355) dX0_endAsBest_8 ?_
  refine lv_istore (lv' := [(5, .int 1000000000), (4, .int 0), (0, .ref h0), (1, .ref h1), (2, .ref h5), (3, .int 0)]) hx hb dX0_endAsBest_10 hl (by decide) rfl (fun ls hl => ?_)
  refine lv_iconst (v := (-1)) hx hb dX0_endAsBest_12 (by decide) ?_
  refine lv_istore (lv' := [(6, .int (-1)), (5, .int 1000000000), (4, .int 0), (0, .ref h0), (1, .ref h1), (2, .ref h5), (3, .int 0)]) hx hb dX0_endAsBest_13 hl (by decide) rfl (fun ls hl => ?_)
  refine lv_iconst (v := 0) hx hb dX0_endAsBest_15 (by decide) ?_
  refine lv_istore (lv' := [(7, .int 0), (6, .int (-1)), (5, .int 1000000000), (4, .int 0), (0, .ref h0), (1, .ref h1), (2, .ref h5), (3, .int 0)]) hx hb dX0_endAsBest_16 hl (by decide) rfl (fun ls hl => ?_)
  refine lv_iload hx hb dX0_endAsBest_18 (lv_at hl 0 rfl) ?_
  refine lv_iconst (v := 1) hx hb dX0_endAsBest_20 (by decide) ?_
  refine lv_iload hx hb dX0_endAsBest_21 (lv_at hl 3 rfl) ?_
  refine lv_ishl hx hb dX0_endAsBest_23 ?_
  refine tp_i (v := 1) (by decide) ?_
  refine lv_icmp_ge (tgt := 90) hx hb dX0_endAsBest_24 (by decide) (fun h9 => absurd h9 (by decide)) (fun _ => ?_)
  refine lv_iload hx hb dX0_endAsBest_27 (lv_at hl 2 rfl) ?_
  refine lv_if_le (tgt := 90) hx hb dX0_endAsBest_29 (by decide) (fun h9 => absurd h9 (by decide)) (fun _ => ?_)
  refine lv_aload_n hx hb dX0_endAsBest_32 rfl (lv_at hl 4 rfl) ?_
  refine lv_aload_n hx hb dX0_endAsBest_33 rfl (lv_at hl 6 rfl) ?_
  refine lv_iload hx hb dX0_endAsBest_34 (lv_at hl 3 rfl) ?_
  refine lv_iload hx hb dX0_endAsBest_36 (lv_at hl 0 rfl) ?_
  refine kc_v (va_runV (As := [.ref h5, .int 0, .int 0]) (rest := []) ⟨hx, hb, hml, hown, hB⟩ (c83_X0_giveTrial l D ty H.size h0 h5) (cwV 3 hB (bw_V mw_357 mw_358 mw_359 mw_105 mw_356) rfl rfl rfl (by decide +kernel) ⟨Nat.le_of_ble_eq_true rfl, Nat.le_of_ble_eq_true rfl⟩) (kp_V hK hP hD [] (by decide) rfl 0 rfl rfl rfl) rfl rfl hl.1 rfl (lv_room (Nat.le_of_ble_eq_true rfl)) dX0_endAsBest_38 ⟨Nat.le_of_ble_eq_true rfl, Nat.le_of_ble_eq_true rfl⟩) hP hD hS hA [] [0, 1, 2, 3, 4] (wr := [(h0, .inr (0, [.ref h2, v0])), (h2, .inr (2, [v17, v18, v19, .ref h3, .ref h4, v20])), (h3, .inl (ty 1, 16, .inl f0)), (h4, .inl (ty 1, 16, .inl f1)), (h1, .inr (8, [v1, .int 2, .int 0, v2, v3, v4, v5, v6, v7, v8, v9, v10, v11, v12, v13, v14, v15, v16]))]) rfl rfl (by decide) (by decide) (fun u H locs w2 hP hD hS => ?_)
  subst w2
  have hP : va_P D vwCl [(h0, .inr (0, [.ref h2, v0])), (h2, .inr (2, [v17, v18, v19, .ref h3, .ref h4, v20])), (h3, .inl (ty 1, 16, .inl f0)), (h4, .inl (ty 1, 16, .inl f1)), (h1, .inr (8, [v1, .int 2, .int 0, v2, v3, v4, v5, v6, v7, v8, v9, v10, v11, v12, v13, v14, v15, v16]))] H := hP
  have hD : va_D A [(h0, .inr (0, [.ref h2, v0])), (h2, .inr (2, [v17, v18, v19, .ref h3, .ref h4, v20])), (h3, .inl (ty 1, 16, .inl f0)), (h4, .inl (ty 1, 16, .inl f1)), (h1, .inr (8, [v1, .int 2, .int 0, v2, v3, v4, v5, v6, v7, v8, v9, v10, v11, v12, v13, v14, v15, v16]))] := hD
  refine lv_aload_n hx hb dX0_endAsBest_41 rfl (lv_at hl 4 rfl) ?_
  refine va_get (D := D) (ci := 0) (v := .ref h2) (C := RX0) (T := TX0) (N := 2) hx hb hB inB_X0 hown hK.1 hP 0 rfl rfl 0 (by decide) (hB _ mw_108) (fun _ h9 => h9) rfl dX0_endAsBest_42 ?_
  refine lv_aload_n hx hb dX0_endAsBest_45 rfl (lv_at hl 5 rfl) ?_
  refine lv_aload_n hx hb dX0_endAsBest_46 rfl (lv_at hl 6 rfl) ?_
  refine kc_i (va_runV (As := [.ref h1, .ref h5]) (rest := []) ⟨hx, hb, hml, hown, hB⟩ (c47_X2_isWhole l D ty H.size h2 h3 h4 h1 h5 v17 v18 v19 v20 f0 f1 v1 v2 v3 v4 v5 v6 v7 v8 v9 v10 v11 v12 v13 v14 v15 v16) (cwV 2 hB (bw_V mw_289 mw_282 mw_283 mw_92 mw_280) rfl rfl rfl (by decide +kernel) ⟨Nat.le_of_ble_eq_true rfl, Nat.le_of_ble_eq_true rfl⟩) (kp_V hK hP hD [1, 2, 3, 4] (by decide) rfl 1 rfl rfl rfl) rfl rfl hl.1 rfl (lv_room (Nat.le_of_ble_eq_true rfl)) dX0_endAsBest_47 ⟨Nat.le_of_ble_eq_true rfl, Nat.le_of_ble_eq_true rfl⟩) hP hD hS hA [1, 2, 3, 4] [0] (wr := [(h0, .inr (0, [.ref h2, v0]))]) rfl rfl (by decide) (by decide) (fun r u H locs w3 hP hD hS => ?_)
  obtain ⟨rfl, rfl⟩ := w3
  have hP : va_P D vwCl [(h0, .inr (0, [.ref h2, v0])), (h2, .inr (2, [v17, v18, v19, .ref h3, .ref h4, v20])), (h4, .inl (ty 1, 16, .inl (kf 0))), (h1, .inr (8, [v1, .int 2, .int 0, v2, v3, v4, v5, v6, v7, v8, v9, v10, v11, v12, v13, v14, v15, v16])), (h3, .inl (ty 1, 16, .inl (kf 0)))] H := hP
  have hD : va_D A [(h0, .inr (0, [.ref h2, v0])), (h2, .inr (2, [v17, v18, v19, .ref h3, .ref h4, v20])), (h4, .inl (ty 1, 16, .inl (kf 0))), (h1, .inr (8, [v1, .int 2, .int 0, v2, v3, v4, v5, v6, v7, v8, v9, v10, v11, v12, v13, v14, v15, v16])), (h3, .inl (ty 1, 16, .inl (kf 0)))] := hD
  refine lv_if_eq (tgt := 65) hx hb dX0_endAsBest_50 (by decide) (fun _ => ?_) (fun h9 => absurd (by decide) h9)
  refine lv_ldc hx hb hown (hB _ mw_355) dX0_endAsBest_65 ?_
  refine lv_istore (lv' := [(8, .int 1000000000), (7, .int 0), (6, .int (-1)), (5, .int 1000000000), (4, .int 0), (0, .ref h0), (1, .ref h1), (2, .ref h5), (3, .int 0)]) hx hb dX0_endAsBest_67 hl (by decide) rfl (fun ls hl => ?_)
  refine lv_iload hx hb dX0_endAsBest_69 (lv_at hl 0 rfl) ?_
  refine lv_iload hx hb dX0_endAsBest_71 (lv_at hl 3 rfl) ?_
  refine lv_icmp_ge (tgt := 84) hx hb dX0_endAsBest_73 (by decide) (fun _ => ?_) (fun h9 => absurd (by decide) h9)
  refine lv_iinc (v := 1) (lv' := [(7, .int 1), (8, .int 1000000000), (6, .int (-1)), (5, .int 1000000000), (4, .int 0), (0, .ref h0), (1, .ref h1), (2, .ref h5), (3, .int 0)]) hx hb dX0_endAsBest_84 hl (k := 1) rfl (by decide) (by decide) rfl (fun ls hl => ?_)
  refine lv_goto (tgt := 18) hx hb dX0_endAsBest_87 (by decide) ?_
  refine lv_iload hx hb dX0_endAsBest_18 (lv_at hl 0 rfl) ?_
  refine lv_iconst (v := 1) hx hb dX0_endAsBest_20 (by decide) ?_
  refine lv_iload hx hb dX0_endAsBest_21 (lv_at hl 4 rfl) ?_
  refine lv_ishl hx hb dX0_endAsBest_23 ?_
  refine tp_i (v := 1) (by decide) ?_
  refine lv_icmp_ge (tgt := 90) hx hb dX0_endAsBest_24 (by decide) (fun _ => ?_) (fun h9 => absurd (by decide) h9)
  refine lv_iload hx hb dX0_endAsBest_90 (lv_at hl 2 rfl) ?_
  refine lv_iconst (v := (-1)) hx hb dX0_endAsBest_92 (by decide) ?_
  refine lv_icmp_ne (tgt := 124) hx hb dX0_endAsBest_93 (by decide) (fun h9 => absurd (by decide) h9) (fun _ => ?_)
  refine lv_iconst (v := 0) hx hb dX0_endAsBest_96 (by decide) ?_
  refine lv_istore (lv' := [(7, .int 0), (8, .int 1000000000), (6, .int (-1)), (5, .int 1000000000), (4, .int 0), (0, .ref h0), (1, .ref h1), (2, .ref h5), (3, .int 0)]) hx hb dX0_endAsBest_97 hl (by decide) rfl (fun ls hl => ?_)
  refine lv_iload hx hb dX0_endAsBest_99 (lv_at hl 0 rfl) ?_
  refine lv_iload hx hb dX0_endAsBest_101 (lv_at hl 4 rfl) ?_
  refine lv_icmp_ge (tgt := 122) hx hb dX0_endAsBest_103 (by decide) (fun _ => ?_) (fun h9 => absurd (by decide) h9)
  refine lv_iconst (v := (-1)) hx hb dX0_endAsBest_122 (by decide) ?_
  exact kr_z hx hb hr rfl hlocks hP hD hS [(h0, .inr (0, [.ref h2, v0])), (h2, .inr (2, [v17, v18, v19, .ref h3, .ref h4, v20])), (h4, .inl (ty 1, 16, .inl (kf 0))), (h1, .inr (8, [v1, .int 2, .int 0, v2, v3, v4, v5, v6, v7, v8, v9, v10, v11, v12, v13, v14, v15, v16])), (h3, .inl (ty 1, 16, .inl (kf 0)))] [0, 1, 2, 3, 4] (by decide) rfl ⟨rfl, rfl⟩ (by decide) (by decide) dX0_endAsBest_123
set_option maxHeartbeats 4000000 in
set_option maxRecDepth 100000 in
theorem c84_X0_endAsBest (l : Launch) (D : va_G) (ty : Nat → ClassId) (sz : Nat) (h0 : Nat) (h1 : Nat) (h2 : Nat) (h3 : Nat) (h4 : Nat) (h5 : Nat) (v0 : Value) (v1 : Value) (v2 : Value) (v3 : Value) (v4 : Value) (v5 : Value) (v6 : Value) (v7 : Value) (v8 : Value) (v9 : Value) (v10 : Value) (v11 : Value) (v12 : Value) (v13 : Value) (v14 : Value) (v15 : Value) (v16 : Value) (v17 : Value) (v18 : Value) (v19 : Value) (v20 : Value) (f0 : Nat → Int32) (f1 : Nat → Int32) : cQ l yX0_endAsBest cX0_endAsBest 9 (some .int) 3 72 [.ref h0, .ref h1, .ref h5, .int 1] D ty [(h0, .inr (0, [.ref h2, v0])), (h1, .inr (8, [v1, .int 2, .int 0, v2, v3, v4, v5, v6, v7, v8, v9, v10, v11, v12, v13, v14, v15, v16])), (h2, .inr (2, [v17, v18, v19, .ref h3, .ref h4, v20])), (h3, .inl (ty 1, 16, .inl f0)), (h4, .inl (ty 1, 16, .inl f1))] sz (qI (fun (r : Int32) (u : va_W) => (-1) = r ∧ [(h0, .inr (0, [.ref h2, v0])), (h2, .inr (2, [v17, v18, v19, .ref h3, .ref h4, v20])), (h4, .inl (ty 1, 16, .inl (kf 0))), (h1, .inr (8, [v1, .int 2, .int 0, v2, v3, v4, v5, v6, v7, v8, v9, v10, v11, v12, v13, v14, v15, v16])), (h3, .inl (ty 1, 16, .inl (kf 0)))] = u)) 0 0 := by
  refine cQ.of (by decide) (Nat.le_of_ble_eq_true rfl) (fun p e s m below meth c A ls C hsz hP hK hD hA hl => ?_)
  obtain ⟨hx, hb, hml, hown, hB, hr, hlocks, hin⟩ := C
  have hown : s.vm.findClass RX0 = some m.cls := hown
  have hS : va_S A s.heap s.heap [] := va_S.rf
  have hl : lv_has ls 9 [(0, .ref h0), (1, .ref h1), (2, .ref h5), (3, .int 1)] := hl
  refine lv_aload_n hx hb dX0_endAsBest_0 rfl (lv_at hl 0 rfl) ?_
  refine lv_aload_n hx hb dX0_endAsBest_1 rfl (lv_at hl 1 rfl) ?_
  refine lv_aload_n hx hb dX0_endAsBest_2 rfl (lv_at hl 2 rfl) ?_
  refine kc_i (va_runV (As := [.ref h1, .ref h5]) (rest := []) ⟨hx, hb, hml, hown, hB⟩ (c82_X0_listOpen l D ty s.heap.size h1 h0 h5 v1 (.int 2) v2 v3 v4 v5 v6 v7 v8 v9 v10 v11 v12 v13 v14 v15 v16) (cwV 2 hB (bw_V mw_352 mw_353 mw_354 mw_105 mw_351) rfl rfl rfl (by decide +kernel) ⟨Nat.le_of_ble_eq_true rfl, Nat.le_of_ble_eq_true rfl⟩) (kp_V hK hP hD [1] (by decide) rfl 0 rfl rfl rfl) rfl rfl hl.1 rfl (lv_room (Nat.le_of_ble_eq_true rfl)) dX0_endAsBest_3 ⟨Nat.le_of_ble_eq_true rfl, Nat.le_of_ble_eq_true rfl⟩) hP hD hS hA [1] [0, 2, 3, 4] (wr := [(h0, .inr (0, [.ref h2, v0])), (h2, .inr (2, [v17, v18, v19, .ref h3, .ref h4, v20])), (h3, .inl (ty 1, 16, .inl f0)), (h4, .inl (ty 1, 16, .inl f1))]) rfl rfl (by decide) (by decide) (fun r u H locs w1 hP hD hS => ?_)
  obtain ⟨rfl, rfl⟩ := w1
  have hP : va_P D vwCl [(h0, .inr (0, [.ref h2, v0])), (h2, .inr (2, [v17, v18, v19, .ref h3, .ref h4, v20])), (h3, .inl (ty 1, 16, .inl f0)), (h4, .inl (ty 1, 16, .inl f1)), (h1, .inr (8, [v1, .int 2, .int 0, v2, v3, v4, v5, v6, v7, v8, v9, v10, v11, v12, v13, v14, v15, v16]))] H := hP
  have hD : va_D A [(h0, .inr (0, [.ref h2, v0])), (h2, .inr (2, [v17, v18, v19, .ref h3, .ref h4, v20])), (h3, .inl (ty 1, 16, .inl f0)), (h4, .inl (ty 1, 16, .inl f1)), (h1, .inr (8, [v1, .int 2, .int 0, v2, v3, v4, v5, v6, v7, v8, v9, v10, v11, v12, v13, v14, v15, v16]))] := hD
  refine lv_istore (lv' := [(4, .int 0), (0, .ref h0), (1, .ref h1), (2, .ref h5), (3, .int 1)]) hx hb dX0_endAsBest_6 hl (by decide) rfl (fun ls hl => ?_)
  refine lv_ldc hx hb hown (hB _ mw_355) dX0_endAsBest_8 ?_
  refine lv_istore (lv' := [(5, .int 1000000000), (4, .int 0), (0, .ref h0), (1, .ref h1), (2, .ref h5), (3, .int 1)]) hx hb dX0_endAsBest_10 hl (by decide) rfl (fun ls hl => ?_)
  refine lv_iconst (v := (-1)) hx hb dX0_endAsBest_12 (by decide) ?_
  refine lv_istore (lv' := [(6, .int (-1)), (5, .int 1000000000), (4, .int 0), (0, .ref h0), (1, .ref h1), (2, .ref h5), (3, .int 1)]) hx hb dX0_endAsBest_13 hl (by decide) rfl (fun ls hl => ?_)
  refine lv_iconst (v := 0) hx hb dX0_endAsBest_15 (by decide) ?_
  refine lv_istore (lv' := [(7, .int 0), (6, .int (-1)), (5, .int 1000000000), (4, .int 0), (0, .ref h0), (1, .ref h1), (2, .ref h5), (3, .int 1)]) hx hb dX0_endAsBest_16 hl (by decide) rfl (fun ls hl => ?_)
  refine lv_iload hx hb dX0_endAsBest_18 (lv_at hl 0 rfl) ?_
  refine lv_iconst (v := 1) hx hb dX0_endAsBest_20 (by decide) ?_
  refine lv_iload hx hb dX0_endAsBest_21 (lv_at hl 3 rfl) ?_
  refine lv_ishl hx hb dX0_endAsBest_23 ?_
  refine tp_i (v := 1) (by decide) ?_
  refine lv_icmp_ge (tgt := 90) hx hb dX0_endAsBest_24 (by decide) (fun h9 => absurd h9 (by decide)) (fun _ => ?_)
  refine lv_iload hx hb dX0_endAsBest_27 (lv_at hl 2 rfl) ?_
  refine lv_if_le (tgt := 90) hx hb dX0_endAsBest_29 (by decide) (fun h9 => absurd h9 (by decide)) (fun _ => ?_)
  refine lv_aload_n hx hb dX0_endAsBest_32 rfl (lv_at hl 4 rfl) ?_
  refine lv_aload_n hx hb dX0_endAsBest_33 rfl (lv_at hl 6 rfl) ?_
  refine lv_iload hx hb dX0_endAsBest_34 (lv_at hl 3 rfl) ?_
  refine lv_iload hx hb dX0_endAsBest_36 (lv_at hl 0 rfl) ?_
  refine kc_v (va_runV (As := [.ref h5, .int 0, .int 0]) (rest := []) ⟨hx, hb, hml, hown, hB⟩ (c83_X0_giveTrial l D ty H.size h0 h5) (cwV 3 hB (bw_V mw_357 mw_358 mw_359 mw_105 mw_356) rfl rfl rfl (by decide +kernel) ⟨Nat.le_of_ble_eq_true rfl, Nat.le_of_ble_eq_true rfl⟩) (kp_V hK hP hD [] (by decide) rfl 0 rfl rfl rfl) rfl rfl hl.1 rfl (lv_room (Nat.le_of_ble_eq_true rfl)) dX0_endAsBest_38 ⟨Nat.le_of_ble_eq_true rfl, Nat.le_of_ble_eq_true rfl⟩) hP hD hS hA [] [0, 1, 2, 3, 4] (wr := [(h0, .inr (0, [.ref h2, v0])), (h2, .inr (2, [v17, v18, v19, .ref h3, .ref h4, v20])), (h3, .inl (ty 1, 16, .inl f0)), (h4, .inl (ty 1, 16, .inl f1)), (h1, .inr (8, [v1, .int 2, .int 0, v2, v3, v4, v5, v6, v7, v8, v9, v10, v11, v12, v13, v14, v15, v16]))]) rfl rfl (by decide) (by decide) (fun u H locs w2 hP hD hS => ?_)
  subst w2
  have hP : va_P D vwCl [(h0, .inr (0, [.ref h2, v0])), (h2, .inr (2, [v17, v18, v19, .ref h3, .ref h4, v20])), (h3, .inl (ty 1, 16, .inl f0)), (h4, .inl (ty 1, 16, .inl f1)), (h1, .inr (8, [v1, .int 2, .int 0, v2, v3, v4, v5, v6, v7, v8, v9, v10, v11, v12, v13, v14, v15, v16]))] H := hP
  have hD : va_D A [(h0, .inr (0, [.ref h2, v0])), (h2, .inr (2, [v17, v18, v19, .ref h3, .ref h4, v20])), (h3, .inl (ty 1, 16, .inl f0)), (h4, .inl (ty 1, 16, .inl f1)), (h1, .inr (8, [v1, .int 2, .int 0, v2, v3, v4, v5, v6, v7, v8, v9, v10, v11, v12, v13, v14, v15, v16]))] := hD
  refine lv_aload_n hx hb dX0_endAsBest_41 rfl (lv_at hl 4 rfl) ?_
  refine va_get (D := D) (ci := 0) (v := .ref h2) (C := RX0) (T := TX0) (N := 2) hx hb hB inB_X0 hown hK.1 hP 0 rfl rfl 0 (by decide) (hB _ mw_108) (fun _ h9 => h9) rfl dX0_endAsBest_42 ?_
  refine lv_aload_n hx hb dX0_endAsBest_45 rfl (lv_at hl 5 rfl) ?_
  refine lv_aload_n hx hb dX0_endAsBest_46 rfl (lv_at hl 6 rfl) ?_
  refine kc_i (va_runV (As := [.ref h1, .ref h5]) (rest := []) ⟨hx, hb, hml, hown, hB⟩ (c47_X2_isWhole l D ty H.size h2 h3 h4 h1 h5 v17 v18 v19 v20 f0 f1 v1 v2 v3 v4 v5 v6 v7 v8 v9 v10 v11 v12 v13 v14 v15 v16) (cwV 2 hB (bw_V mw_289 mw_282 mw_283 mw_92 mw_280) rfl rfl rfl (by decide +kernel) ⟨Nat.le_of_ble_eq_true rfl, Nat.le_of_ble_eq_true rfl⟩) (kp_V hK hP hD [1, 2, 3, 4] (by decide) rfl 1 rfl rfl rfl) rfl rfl hl.1 rfl (lv_room (Nat.le_of_ble_eq_true rfl)) dX0_endAsBest_47 ⟨Nat.le_of_ble_eq_true rfl, Nat.le_of_ble_eq_true rfl⟩) hP hD hS hA [1, 2, 3, 4] [0] (wr := [(h0, .inr (0, [.ref h2, v0]))]) rfl rfl (by decide) (by decide) (fun r u H locs w3 hP hD hS => ?_)
  obtain ⟨rfl, rfl⟩ := w3
  have hP : va_P D vwCl [(h0, .inr (0, [.ref h2, v0])), (h2, .inr (2, [v17, v18, v19, .ref h3, .ref h4, v20])), (h4, .inl (ty 1, 16, .inl (kf 0))), (h1, .inr (8, [v1, .int 2, .int 0, v2, v3, v4, v5, v6, v7, v8, v9, v10, v11, v12, v13, v14, v15, v16])), (h3, .inl (ty 1, 16, .inl (kf 0)))] H := hP
  have hD : va_D A [(h0, .inr (0, [.ref h2, v0])), (h2, .inr (2, [v17, v18, v19, .ref h3, .ref h4, v20])), (h4, .inl (ty 1, 16, .inl (kf 0))), (h1, .inr (8, [v1, .int 2, .int 0, v2, v3, v4, v5, v6, v7, v8, v9, v10, v11, v12, v13, v14, v15, v16])), (h3, .inl (ty 1, 16, .inl (kf 0)))] := hD
  refine lv_if_eq (tgt := 65) hx hb dX0_endAsBest_50 (by decide) (fun _ => ?_) (fun h9 => absurd (by decide) h9)
  refine lv_ldc hx hb hown (hB _ mw_355) dX0_endAsBest_65 ?_
  refine lv_istore (lv' := [(8, .int 1000000000), (7, .int 0), (6, .int (-1)), (5, .int 1000000000), (4, .int 0), (0, .ref h0), (1, .ref h1), (2, .ref h5), (3, .int 1)]) hx hb dX0_endAsBest_67 hl (by decide) rfl (fun ls hl => ?_)
  refine lv_iload hx hb dX0_endAsBest_69 (lv_at hl 0 rfl) ?_
  refine lv_iload hx hb dX0_endAsBest_71 (lv_at hl 3 rfl) ?_
  refine lv_icmp_ge (tgt := 84) hx hb dX0_endAsBest_73 (by decide) (fun _ => ?_) (fun h9 => absurd (by decide) h9)
  refine lv_iinc (v := 1) (lv' := [(7, .int 1), (8, .int 1000000000), (6, .int (-1)), (5, .int 1000000000), (4, .int 0), (0, .ref h0), (1, .ref h1), (2, .ref h5), (3, .int 1)]) hx hb dX0_endAsBest_84 hl (k := 1) rfl (by decide) (by decide) rfl (fun ls hl => ?_)
  refine lv_goto (tgt := 18) hx hb dX0_endAsBest_87 (by decide) ?_
  refine lv_iload hx hb dX0_endAsBest_18 (lv_at hl 0 rfl) ?_
  refine lv_iconst (v := 1) hx hb dX0_endAsBest_20 (by decide) ?_
  refine lv_iload hx hb dX0_endAsBest_21 (lv_at hl 4 rfl) ?_
  refine lv_ishl hx hb dX0_endAsBest_23 ?_
  refine tp_i (v := 1) (by decide) ?_
  refine lv_icmp_ge (tgt := 90) hx hb dX0_endAsBest_24 (by decide) (fun _ => ?_) (fun h9 => absurd (by decide) h9)
  refine lv_iload hx hb dX0_endAsBest_90 (lv_at hl 2 rfl) ?_
  refine lv_iconst (v := (-1)) hx hb dX0_endAsBest_92 (by decide) ?_
  refine lv_icmp_ne (tgt := 124) hx hb dX0_endAsBest_93 (by decide) (fun h9 => absurd (by decide) h9) (fun _ => ?_)
  refine lv_iconst (v := 0) hx hb dX0_endAsBest_96 (by decide) ?_
  refine lv_istore (lv' := [(7, .int 0), (8, .int 1000000000), (6, .int (-1)), (5, .int 1000000000), (4, .int 0), (0, .ref h0), (1, .ref h1), (2, .ref h5), (3, .int 1)]) hx hb dX0_endAsBest_97 hl (by decide) rfl (fun ls hl => ?_)
  refine lv_iload hx hb dX0_endAsBest_99 (lv_at hl 0 rfl) ?_
  refine lv_iload hx hb dX0_endAsBest_101 (lv_at hl 4 rfl) ?_
  refine lv_icmp_ge (tgt := 122) hx hb dX0_endAsBest_103 (by decide) (fun _ => ?_) (fun h9 => absurd (by decide) h9)
  refine lv_iconst (v := (-1)) hx hb dX0_endAsBest_122 (by decide) ?_
  exact kr_z hx hb hr rfl hlocks hP hD hS [(h0, .inr (0, [.ref h2, v0])), (h2, .inr (2, [v17, v18, v19, .ref h3, .ref h4, v20])), (h4, .inl (ty 1, 16, .inl (kf 0))), (h1, .inr (8, [v1, .int 2, .int 0, v2, v3, v4, v5, v6, v7, v8, v9, v10, v11, v12, v13, v14, v15, v16])), (h3, .inl (ty 1, 16, .inl (kf 0)))] [0, 1, 2, 3, 4] (by decide) rfl ⟨rfl, rfl⟩ (by decide) (by decide) dX0_endAsBest_123
set_option maxHeartbeats 4000000 in
set_option maxRecDepth 100000 in
theorem c85_X5_openOnes (l : Launch) (D : va_G) (ty : Nat → ClassId) (sz : Nat) (h0 : Nat) (h1 : Nat) (h2 : Nat) (v0 : Value) (h3 : Nat) (h4 : Nat) (v1 : Value) (v2 : Value) (v3 : Value) (v4 : Value) (v5 : Value) (v6 : Value) (v7 : Value) (v8 : Value) (v9 : Value) (v10 : Value) (v11 : Value) (v12 : Value) (v13 : Value) (v14 : Value) (v15 : Value) (v16 : Value) (v17 : Value) : cQ l yX5_openOnes cX5_openOnes 2 (some .int) 1 23 [.ref h0, .int 1] D ty [(h0, .inr (5, [.ref h2, .ref h1, v0])), (h1, .inl (ty 6, 2, .inr (.inr (.inr (.inr (wy2 h3 h4)))))), (h2, .inr (8, [v1, v2, .int 0, v3, v4, v5, v6, v7, v8, v9, v10, v11, v12, v13, v14, v15, v16, v17]))] sz (qI (fun (r : Int32) (u : va_W) => 0 = r ∧ [(h0, .inr (5, [.ref h2, .ref h1, v0])), (h1, .inl (ty 6, 2, .inr (.inr (.inr (.inr (wy2 h3 h4)))))), (h2, .inr (8, [v1, v2, .int 0, v3, v4, v5, v6, v7, v8, v9, v10, v11, v12, v13, v14, v15, v16, v17]))] = u)) 0 0 := by
  refine cQ.of (by decide) (Nat.le_of_ble_eq_true rfl) (fun p e s m below meth c A ls C hsz hP hK hD hA hl => ?_)
  obtain ⟨hx, hb, hml, hown, hB, hr, hlocks, hin⟩ := C
  have hown : s.vm.findClass RX5 = some m.cls := hown
  have hS : va_S A s.heap s.heap [] := va_S.rf
  have hl : lv_has ls 2 [(0, .ref h0), (1, .int 1)] := hl
  refine lv_aload_n hx hb dX5_openOnes_0 rfl (lv_at hl 0 rfl) ?_
  refine va_get (D := D) (ci := 5) (v := .ref h2) (C := RX5) (T := TX5) (N := 3) hx hb hB inB_X5 hown hK.1 hP 0 rfl rfl 0 (by decide) (hB _ mw_79) (fun _ h9 => h9) rfl dX5_openOnes_1 ?_
  refine lv_aload_n hx hb dX5_openOnes_4 rfl (lv_at hl 0 rfl) ?_
  refine va_get (D := D) (ci := 5) (v := .ref h1) (C := RX5) (T := TX5) (N := 3) hx hb hB inB_X5 hown hK.1 hP 0 rfl rfl 1 (by decide) (hB _ mw_81) (fun _ h9 => h9) rfl dX5_openOnes_5 ?_
  refine lv_iload_n hx hb dX5_openOnes_8 rfl (lv_at hl 1 rfl) ?_
  refine va_aldA hx hb hK.1 hP 1 6 rfl rfl (by unfold vp_in; decide) dX5_openOnes_9 ?_
  refine tp_v (v := .ref h4) rfl ?_
  refine kc_i (va_runV (As := [.ref h4]) (rest := []) ⟨hx, hb, hml, hown, hB⟩ (c53_X8_openAlleys l D ty s.heap.size h2 h4 v1 v2 v3 v4 v5 v6 v7 v8 v9 v10 v11 v12 v13 v14 v15 v16 v17) (cwV 1 hB (bw_V mw_338 mw_287 mw_288 mw_25 mw_285) rfl rfl rfl (by decide +kernel) ⟨Nat.le_of_ble_eq_true rfl, Nat.le_of_ble_eq_true rfl⟩) (kp_V hK hP hD [2] (by decide) rfl 2 rfl rfl rfl) rfl rfl hl.1 rfl (lv_room (Nat.le_of_ble_eq_true rfl)) dX5_openOnes_10 ⟨Nat.le_of_ble_eq_true rfl, Nat.le_of_ble_eq_true rfl⟩) hP hD hS hA [2] [0, 1] (wr := [(h0, .inr (5, [.ref h2, .ref h1, v0])), (h1, .inl (ty 6, 2, .inr (.inr (.inr (.inr (wy2 h3 h4))))))]) rfl rfl (by decide) (by decide) (fun r u H locs w1 hP hD hS => ?_)
  obtain ⟨rfl, rfl⟩ := w1
  have hP : va_P D vwCl [(h0, .inr (5, [.ref h2, .ref h1, v0])), (h1, .inl (ty 6, 2, .inr (.inr (.inr (.inr (wy2 h3 h4)))))), (h2, .inr (8, [v1, v2, .int 0, v3, v4, v5, v6, v7, v8, v9, v10, v11, v12, v13, v14, v15, v16, v17]))] H := hP
  have hD : va_D A [(h0, .inr (5, [.ref h2, .ref h1, v0])), (h1, .inl (ty 6, 2, .inr (.inr (.inr (.inr (wy2 h3 h4)))))), (h2, .inr (8, [v1, v2, .int 0, v3, v4, v5, v6, v7, v8, v9, v10, v11, v12, v13, v14, v15, v16, v17]))] := hD
  refine kc_i (va_runS (As := [.int 0]) (rest := []) ⟨hx, hb, hml, hown, hB⟩ (c80_J6_bitCount_0f7a4 l D ty H.size) (va_cwS 1 hB (bw_S mw_343 mw_344 mw_345 mw_342) rfl rfl rfl (by decide +kernel) ⟨Nat.le_of_ble_eq_true rfl, Nat.le_of_ble_eq_true rfl⟩) (kp_S hK hP hD [] (by decide) rfl) rfl rfl hl.1 rfl (lv_room (Nat.le_of_ble_eq_true rfl)) dX5_openOnes_13 ⟨Nat.le_of_ble_eq_true rfl, Nat.le_of_ble_eq_true rfl⟩) hP hD hS hA [] [0, 1, 2] (wr := [(h0, .inr (5, [.ref h2, .ref h1, v0])), (h1, .inl (ty 6, 2, .inr (.inr (.inr (.inr (wy2 h3 h4)))))), (h2, .inr (8, [v1, v2, .int 0, v3, v4, v5, v6, v7, v8, v9, v10, v11, v12, v13, v14, v15, v16, v17]))]) rfl rfl (by decide) (by decide) (fun r u H locs w2 hP hD hS => ?_)
  obtain ⟨rfl, rfl⟩ := w2
  have hP : va_P D vwCl [(h0, .inr (5, [.ref h2, .ref h1, v0])), (h1, .inl (ty 6, 2, .inr (.inr (.inr (.inr (wy2 h3 h4)))))), (h2, .inr (8, [v1, v2, .int 0, v3, v4, v5, v6, v7, v8, v9, v10, v11, v12, v13, v14, v15, v16, v17]))] H := hP
  have hD : va_D A [(h0, .inr (5, [.ref h2, .ref h1, v0])), (h1, .inl (ty 6, 2, .inr (.inr (.inr (.inr (wy2 h3 h4)))))), (h2, .inr (8, [v1, v2, .int 0, v3, v4, v5, v6, v7, v8, v9, v10, v11, v12, v13, v14, v15, v16, v17]))] := hD
  exact kr_z hx hb hr rfl hlocks hP hD hS [(h0, .inr (5, [.ref h2, .ref h1, v0])), (h1, .inl (ty 6, 2, .inr (.inr (.inr (.inr (wy2 h3 h4)))))), (h2, .inr (8, [v1, v2, .int 0, v3, v4, v5, v6, v7, v8, v9, v10, v11, v12, v13, v14, v15, v16, v17]))] [0, 1, 2] (by decide) rfl ⟨rfl, rfl⟩ (by decide) (by decide) dX5_openOnes_16
set_option maxHeartbeats 4000000 in
set_option maxRecDepth 100000 in
theorem c78_X11_best (l : Launch) (D : va_G) (ty : Nat → ClassId) (sz : Nat) (h0 : Nat) (h1 : Nat) (h2 : Nat) (h3 : Nat) (h4 : Nat) (h5 : Nat) (h6 : Nat) (h7 : Nat) (p0 : Int32) (p1 : Int32) (v0 : Value) (v1 : Value) (v2 : Value) (v3 : Value) (v4 : Value) (v5 : Value) (v6 : Value) (v7 : Value) (v8 : Value) (v9 : Value) (v10 : Value) (v11 : Value) (v12 : Value) (v13 : Value) (h8 : Nat) (h9 : Nat) (v14 : Value) (v15 : Value) (v16 : Value) (v17 : Value) (v18 : Value) (v19 : Value) (v20 : Value) (v21 : Value) (v22 : Value) (v23 : Value) (v24 : Value) (v25 : Value) (v26 : Value) (v27 : Value) (v28 : Value) (v29 : Value) (v30 : Value) (v31 : Value) (v32 : Value) (v33 : Value) (v34 : Value) (f0 : Nat → Int32) (f1 : Nat → Int32) : cQ l yX11_best cX11_best 3 (some .int) 4 100 [.ref h0, .int p0, .int p1] D ty [(h0, .inr (11, [v0, v1, v2, .ref h1, v3, v4, v5, .ref h4, v6, v7, v8, v9, v10, v11, v12])), (h1, .inr (5, [.ref h3, .ref h2, v13])), (h2, .inl (ty 6, 2, .inr (.inr (.inr (.inr (wy2 h8 h9)))))), (h3, .inr (8, [v14, .int 2, .int 0, v15, v16, v17, v18, v19, v20, v21, v22, v23, v24, v25, v26, v27, v28, v29])), (h4, .inr (0, [.ref h5, v30])), (h5, .inr (2, [v31, v32, v33, .ref h6, .ref h7, v34])), (h6, .inl (ty 1, 16, .inl f0)), (h7, .inl (ty 1, 16, .inl f1))] sz (qI (fun (r : Int32) (u : va_W) => ((((((p0 < 0)) ∨ ((¬ (p0 < 0)) ∧ (2 ≤ p0)))) ∨ (((¬ (p0 < 0)) ∧ (¬ (2 ≤ p0))) ∧ (p1 < 0)) ∨ (((¬ (p0 < 0)) ∧ (¬ (2 ≤ p0))) ∧ (¬ (p1 < 0)) ∧ (¬ (p1 ≤ 1)))) ∧ (-2) = r ∧ [] = u) ∨ (((((¬ (p0 < 0)) ∧ (¬ (2 ≤ p0))) ∧ (¬ (p1 < 0)) ∧ (p1 ≤ 1) ∧ (p0 = 0) ∧ (¬ (p1 = 1))) ∨ (((¬ (p0 < 0)) ∧ (¬ (2 ≤ p0))) ∧ (¬ (p1 < 0)) ∧ (p1 ≤ 1) ∧ (p0 = 0) ∧ (p1 = 1)) ∨ (((¬ (p0 < 0)) ∧ (¬ (2 ≤ p0))) ∧ (¬ (p1 < 0)) ∧ (p1 ≤ 1) ∧ (p0 = 1) ∧ (¬ (p1 = 1))) ∨ (((¬ (p0 < 0)) ∧ (¬ (2 ≤ p0))) ∧ (¬ (p1 < 0)) ∧ (p1 ≤ 1) ∧ (p0 = 1) ∧ (p1 = 1))) ∧ (-1) = r ∧ [] = u))) 0 0 := by
  refine cQ.of (by decide) (Nat.le_of_ble_eq_true rfl) (fun p e s m below meth c A ls C hsz hP hK hD hA hl => ?_)
  obtain ⟨hx, hb, hml, hown, hB, hr, hlocks, hin⟩ := C
  have hown : s.vm.findClass RX11 = some m.cls := hown
  have hS : va_S A s.heap s.heap [] := va_S.rf
  have hl : lv_has ls 3 [(0, .ref h0), (1, .int p0), (2, .int p1)] := hl
  refine lv_iload_n hx hb dX11_best_0 rfl (lv_at hl 1 rfl) ?_
  refine kc_i (va_runS (As := [.int p0]) (rest := []) ⟨hx, hb, hml, hown, hB⟩ (c38_X11_isGiving l D ty s.heap.size p0) (va_cwS 1 hB (bw_S mw_253 mw_254 mw_216 mw_252) rfl rfl rfl (by decide +kernel) ⟨Nat.le_of_ble_eq_true rfl, Nat.le_of_ble_eq_true rfl⟩) (kp_S hK hP hD [] (by decide) rfl) rfl rfl hl.1 rfl (lv_room (Nat.le_of_ble_eq_true rfl)) dX11_best_1 ⟨Nat.le_of_ble_eq_true rfl, Nat.le_of_ble_eq_true rfl⟩) hP hD hS hA [] [0, 1, 2, 3, 4, 5, 6, 7] (wr := [(h0, .inr (11, [v0, v1, v2, .ref h1, v3, v4, v5, .ref h4, v6, v7, v8, v9, v10, v11, v12])), (h1, .inr (5, [.ref h3, .ref h2, v13])), (h2, .inl (ty 6, 2, .inr (.inr (.inr (.inr (wy2 h8 h9)))))), (h3, .inr (8, [v14, .int 2, .int 0, v15, v16, v17, v18, v19, v20, v21, v22, v23, v24, v25, v26, v27, v28, v29])), (h4, .inr (0, [.ref h5, v30])), (h5, .inr (2, [v31, v32, v33, .ref h6, .ref h7, v34])), (h6, .inl (ty 1, 16, .inl f0)), (h7, .inl (ty 1, 16, .inl f1))]) rfl rfl (by decide) (by decide) (fun r u H locs w1 hP hD hS => ?_)
  rcases w1 with ⟨c2, rfl, rfl⟩ | ⟨c3, rfl, rfl⟩
  · have hP : va_P D vwCl [(h0, .inr (11, [v0, v1, v2, .ref h1, v3, v4, v5, .ref h4, v6, v7, v8, v9, v10, v11, v12])), (h1, .inr (5, [.ref h3, .ref h2, v13])), (h2, .inl (ty 6, 2, .inr (.inr (.inr (.inr (wy2 h8 h9)))))), (h3, .inr (8, [v14, .int 2, .int 0, v15, v16, v17, v18, v19, v20, v21, v22, v23, v24, v25, v26, v27, v28, v29])), (h4, .inr (0, [.ref h5, v30])), (h5, .inr (2, [v31, v32, v33, .ref h6, .ref h7, v34])), (h6, .inl (ty 1, 16, .inl f0)), (h7, .inl (ty 1, 16, .inl f1))] H := hP
    have hD : va_D A [(h0, .inr (11, [v0, v1, v2, .ref h1, v3, v4, v5, .ref h4, v6, v7, v8, v9, v10, v11, v12])), (h1, .inr (5, [.ref h3, .ref h2, v13])), (h2, .inl (ty 6, 2, .inr (.inr (.inr (.inr (wy2 h8 h9)))))), (h3, .inr (8, [v14, .int 2, .int 0, v15, v16, v17, v18, v19, v20, v21, v22, v23, v24, v25, v26, v27, v28, v29])), (h4, .inr (0, [.ref h5, v30])), (h5, .inr (2, [v31, v32, v33, .ref h6, .ref h7, v34])), (h6, .inl (ty 1, 16, .inl f0)), (h7, .inl (ty 1, 16, .inl f1))] := hD
    refine lv_if_eq (tgt := 16) hx hb dX11_best_4 (by decide) (fun _ => ?_) (fun h9 => absurd (by decide) h9)
    refine lv_bipush (v := (-2)) hx hb dX11_best_16 (by decide) ?_
    exact kr_z hx hb hr rfl hlocks hP hD hS [] [] (by decide) rfl (Or.inl ⟨(Or.inl c2), rfl, rfl⟩) (by decide) (by decide) dX11_best_18
  · have hP : va_P D vwCl [(h0, .inr (11, [v0, v1, v2, .ref h1, v3, v4, v5, .ref h4, v6, v7, v8, v9, v10, v11, v12])), (h1, .inr (5, [.ref h3, .ref h2, v13])), (h2, .inl (ty 6, 2, .inr (.inr (.inr (.inr (wy2 h8 h9)))))), (h3, .inr (8, [v14, .int 2, .int 0, v15, v16, v17, v18, v19, v20, v21, v22, v23, v24, v25, v26, v27, v28, v29])), (h4, .inr (0, [.ref h5, v30])), (h5, .inr (2, [v31, v32, v33, .ref h6, .ref h7, v34])), (h6, .inl (ty 1, 16, .inl f0)), (h7, .inl (ty 1, 16, .inl f1))] H := hP
    have hD : va_D A [(h0, .inr (11, [v0, v1, v2, .ref h1, v3, v4, v5, .ref h4, v6, v7, v8, v9, v10, v11, v12])), (h1, .inr (5, [.ref h3, .ref h2, v13])), (h2, .inl (ty 6, 2, .inr (.inr (.inr (.inr (wy2 h8 h9)))))), (h3, .inr (8, [v14, .int 2, .int 0, v15, v16, v17, v18, v19, v20, v21, v22, v23, v24, v25, v26, v27, v28, v29])), (h4, .inr (0, [.ref h5, v30])), (h5, .inr (2, [v31, v32, v33, .ref h6, .ref h7, v34])), (h6, .inl (ty 1, 16, .inl f0)), (h7, .inl (ty 1, 16, .inl f1))] := hD
    refine lv_if_eq (tgt := 16) hx hb dX11_best_4 (by decide) (fun h9 => absurd h9 (by decide)) (fun _ => ?_)
    refine lv_iload_n hx hb dX11_best_7 rfl (lv_at hl 2 rfl) ?_
    refine lv_if_lt (tgt := 16) hx hb dX11_best_8 (by decide) (fun c4 => ?_) (fun c4 => ?_)
    · refine lv_bipush (v := (-2)) hx hb dX11_best_16 (by decide) ?_
      exact kr_z hx hb hr rfl hlocks hP hD hS [] [] (by decide) rfl (Or.inl ⟨(Or.inr (Or.inl ⟨c3, c4⟩)), rfl, rfl⟩) (by decide) (by decide) dX11_best_18
    · refine lv_iload_n hx hb dX11_best_11 rfl (lv_at hl 2 rfl) ?_
      refine lv_iconst (v := 1) hx hb dX11_best_12 (by decide) ?_
      refine lv_icmp_le (tgt := 19) hx hb dX11_best_13 (by decide) (fun c5 => ?_) (fun c5 => ?_)
      · refine lv_aload_n hx hb dX11_best_19 rfl (lv_at hl 0 rfl) ?_
        refine va_get (D := D) (ci := 11) (v := .ref h1) (C := RX11) (T := TX11) (N := 15) hx hb hB inB_X11 hown hK.1 hP 0 rfl rfl 3 (by decide) (hB _ mw_85) (fun _ h9 => h9) rfl dX11_best_20 ?_
        refine lv_iload_n hx hb dX11_best_23 rfl (lv_at hl 1 rfl) ?_
        rcases ps_2 p0 c3 with rfl | rfl
        · refine kc_i (va_runV (As := [.int 0]) (rest := []) ⟨hx, hb, hml, hown, hB⟩ (c79_X5_openOnes l D ty H.size h1 h2 h3 v13 h8 h9 v14 (.int 2) v15 v16 v17 v18 v19 v20 v21 v22 v23 v24 v25 v26 v27 v28 v29) (cwV 1 hB (bw_V mw_347 mw_348 mw_349 mw_76 mw_346) rfl rfl rfl (by decide +kernel) ⟨Nat.le_of_ble_eq_true rfl, Nat.le_of_ble_eq_true rfl⟩) (kp_V hK hP hD [1, 2, 3] (by decide) rfl 1 rfl rfl rfl) rfl rfl hl.1 rfl (lv_room (Nat.le_of_ble_eq_true rfl)) dX11_best_24 ⟨Nat.le_of_ble_eq_true rfl, Nat.le_of_ble_eq_true rfl⟩) hP hD hS hA [1, 2, 3] [0, 4, 5, 6, 7] (wr := [(h0, .inr (11, [v0, v1, v2, .ref h1, v3, v4, v5, .ref h4, v6, v7, v8, v9, v10, v11, v12])), (h4, .inr (0, [.ref h5, v30])), (h5, .inr (2, [v31, v32, v33, .ref h6, .ref h7, v34])), (h6, .inl (ty 1, 16, .inl f0)), (h7, .inl (ty 1, 16, .inl f1))]) rfl rfl (by decide) (by decide) (fun r u H locs w6 hP hD hS => ?_)
          obtain ⟨rfl, rfl⟩ := w6
          have hP : va_P D vwCl [(h0, .inr (11, [v0, v1, v2, .ref h1, v3, v4, v5, .ref h4, v6, v7, v8, v9, v10, v11, v12])), (h4, .inr (0, [.ref h5, v30])), (h5, .inr (2, [v31, v32, v33, .ref h6, .ref h7, v34])), (h6, .inl (ty 1, 16, .inl f0)), (h7, .inl (ty 1, 16, .inl f1)), (h1, .inr (5, [.ref h3, .ref h2, v13])), (h2, .inl (ty 6, 2, .inr (.inr (.inr (.inr (wy2 h8 h9)))))), (h3, .inr (8, [v14, .int 2, .int 0, v15, v16, v17, v18, v19, v20, v21, v22, v23, v24, v25, v26, v27, v28, v29]))] H := hP
          have hD : va_D A [(h0, .inr (11, [v0, v1, v2, .ref h1, v3, v4, v5, .ref h4, v6, v7, v8, v9, v10, v11, v12])), (h4, .inr (0, [.ref h5, v30])), (h5, .inr (2, [v31, v32, v33, .ref h6, .ref h7, v34])), (h6, .inl (ty 1, 16, .inl f0)), (h7, .inl (ty 1, 16, .inl f1)), (h1, .inr (5, [.ref h3, .ref h2, v13])), (h2, .inl (ty 6, 2, .inr (.inr (.inr (.inr (wy2 h8 h9)))))), (h3, .inr (8, [v14, .int 2, .int 0, v15, v16, v17, v18, v19, v20, v21, v22, v23, v24, v25, v26, v27, v28, v29]))] := hD
          refine lv_bipush (v := 10) hx hb dX11_best_27 (by decide) ?_
          refine lv_icmp_le (tgt := 35) hx hb dX11_best_29 (by decide) (fun _ => ?_) (fun h9 => absurd (by decide) h9)
          refine lv_aload_n hx hb dX11_best_35 rfl (lv_at hl 0 rfl) ?_
          refine va_get (D := D) (ci := 11) (v := .ref h4) (C := RX11) (T := TX11) (N := 15) hx hb hB inB_X11 hown hK.1 hP 0 rfl rfl 7 (by decide) (hB _ mw_112) (fun _ h9 => h9) rfl dX11_best_36 ?_
          refine lv_aload_n hx hb dX11_best_39 rfl (lv_at hl 0 rfl) ?_
          refine va_get (D := D) (ci := 11) (v := .ref h1) (C := RX11) (T := TX11) (N := 15) hx hb hB inB_X11 hown hK.1 hP 0 rfl rfl 3 (by decide) (hB _ mw_85) (fun _ h9 => h9) rfl dX11_best_40 ?_
          refine va_get (D := D) (ci := 5) (v := .ref h3) (C := RX5) (T := TX5) (N := 3) hx hb hB inB_X5 hown hK.1 hP 5 rfl rfl 0 (by decide) (hB _ mw_150) (fun _ h9 => h9) rfl dX11_best_43 ?_
          refine lv_aload_n hx hb dX11_best_46 rfl (lv_at hl 0 rfl) ?_
          refine va_get (D := D) (ci := 11) (v := .ref h1) (C := RX11) (T := TX11) (N := 15) hx hb hB inB_X11 hown hK.1 hP 0 rfl rfl 3 (by decide) (hB _ mw_85) (fun _ h9 => h9) rfl dX11_best_47 ?_
          refine va_get (D := D) (ci := 5) (v := .ref h2) (C := RX5) (T := TX5) (N := 3) hx hb hB inB_X5 hown hK.1 hP 5 rfl rfl 1 (by decide) (hB _ mw_267) (fun _ h9 => h9) rfl dX11_best_50 ?_
          refine lv_iload_n hx hb dX11_best_53 rfl (lv_at hl 1 rfl) ?_
          refine va_aldA hx hb hK.1 hP 6 6 rfl rfl (by unfold vp_in; decide) dX11_best_54 ?_
          refine tp_v (v := .ref h8) rfl ?_
          refine lv_iload_n hx hb dX11_best_55 rfl (lv_at hl 2 rfl) ?_
          refine lv_iconst (v := 1) hx hb dX11_best_56 (by decide) ?_
          refine lv_icmp_ne (tgt := 64) hx hb dX11_best_57 (by decide) (fun c7 => ?_) (fun c7 => ?_)
          · refine lv_iconst (v := 0) hx hb dX11_best_64 (by decide) ?_
            refine kc_i (va_runV (As := [.ref h3, .ref h8, .int 0]) (rest := []) ⟨hx, hb, hml, hown, hB⟩ (c81_X0_endAsBest l D ty H.size h4 h3 h5 h6 h7 h8 v30 v14 v15 v16 v17 v18 v19 v20 v21 v22 v23 v24 v25 v26 v27 v28 v29 v31 v32 v33 v34 f0 f1) (cwV 3 hB (bw_V mw_361 mw_362 mw_363 mw_105 mw_360) rfl rfl rfl (by decide +kernel) ⟨Nat.le_of_ble_eq_true rfl, Nat.le_of_ble_eq_true rfl⟩) (kp_V hK hP hD [1, 7, 2, 3, 4] (by decide) rfl 1 rfl rfl rfl) rfl rfl hl.1 rfl (lv_room (Nat.le_of_ble_eq_true rfl)) dX11_best_65 ⟨Nat.le_of_ble_eq_true rfl, Nat.le_of_ble_eq_true rfl⟩) hP hD hS hA [1, 7, 2, 3, 4] [0, 5, 6] (wr := [(h0, .inr (11, [v0, v1, v2, .ref h1, v3, v4, v5, .ref h4, v6, v7, v8, v9, v10, v11, v12])), (h1, .inr (5, [.ref h3, .ref h2, v13])), (h2, .inl (ty 6, 2, .inr (.inr (.inr (.inr (wy2 h8 h9))))))]) rfl rfl (by decide) (by decide) (fun r u H locs w8 hP hD hS => ?_)
            obtain ⟨rfl, rfl⟩ := w8
            have hP : va_P D vwCl [(h0, .inr (11, [v0, v1, v2, .ref h1, v3, v4, v5, .ref h4, v6, v7, v8, v9, v10, v11, v12])), (h1, .inr (5, [.ref h3, .ref h2, v13])), (h2, .inl (ty 6, 2, .inr (.inr (.inr (.inr (wy2 h8 h9)))))), (h4, .inr (0, [.ref h5, v30])), (h5, .inr (2, [v31, v32, v33, .ref h6, .ref h7, v34])), (h7, .inl (ty 1, 16, .inl (kf 0))), (h3, .inr (8, [v14, .int 2, .int 0, v15, v16, v17, v18, v19, v20, v21, v22, v23, v24, v25, v26, v27, v28, v29])), (h6, .inl (ty 1, 16, .inl (kf 0)))] H := hP
            have hD : va_D A [(h0, .inr (11, [v0, v1, v2, .ref h1, v3, v4, v5, .ref h4, v6, v7, v8, v9, v10, v11, v12])), (h1, .inr (5, [.ref h3, .ref h2, v13])), (h2, .inl (ty 6, 2, .inr (.inr (.inr (.inr (wy2 h8 h9)))))), (h4, .inr (0, [.ref h5, v30])), (h5, .inr (2, [v31, v32, v33, .ref h6, .ref h7, v34])), (h7, .inl (ty 1, 16, .inl (kf 0))), (h3, .inr (8, [v14, .int 2, .int 0, v15, v16, v17, v18, v19, v20, v21, v22, v23, v24, v25, v26, v27, v28, v29])), (h6, .inl (ty 1, 16, .inl (kf 0)))] := hD
            exact kr_z hx hb hr rfl hlocks hP hD hS [] [] (by decide) rfl (Or.inr ⟨(Or.inl ⟨c3, c4, c5, rfl, c7⟩), rfl, rfl⟩) (by decide) (by decide) dX11_best_68
          · refine lv_iconst (v := 1) hx hb dX11_best_60 (by decide) ?_
            refine lv_goto (tgt := 65) hx hb dX11_best_61 (by decide) ?_
            refine kc_i (va_runV (As := [.ref h3, .ref h8, .int 1]) (rest := []) ⟨hx, hb, hml, hown, hB⟩ (c84_X0_endAsBest l D ty H.size h4 h3 h5 h6 h7 h8 v30 v14 v15 v16 v17 v18 v19 v20 v21 v22 v23 v24 v25 v26 v27 v28 v29 v31 v32 v33 v34 f0 f1) (cwV 3 hB (bw_V mw_361 mw_362 mw_363 mw_105 mw_360) rfl rfl rfl (by decide +kernel) ⟨Nat.le_of_ble_eq_true rfl, Nat.le_of_ble_eq_true rfl⟩) (kp_V hK hP hD [1, 7, 2, 3, 4] (by decide) rfl 1 rfl rfl rfl) rfl rfl hl.1 rfl (lv_room (Nat.le_of_ble_eq_true rfl)) dX11_best_65 ⟨Nat.le_of_ble_eq_true rfl, Nat.le_of_ble_eq_true rfl⟩) hP hD hS hA [1, 7, 2, 3, 4] [0, 5, 6] (wr := [(h0, .inr (11, [v0, v1, v2, .ref h1, v3, v4, v5, .ref h4, v6, v7, v8, v9, v10, v11, v12])), (h1, .inr (5, [.ref h3, .ref h2, v13])), (h2, .inl (ty 6, 2, .inr (.inr (.inr (.inr (wy2 h8 h9))))))]) rfl rfl (by decide) (by decide) (fun r u H locs w9 hP hD hS => ?_)
            obtain ⟨rfl, rfl⟩ := w9
            have hP : va_P D vwCl [(h0, .inr (11, [v0, v1, v2, .ref h1, v3, v4, v5, .ref h4, v6, v7, v8, v9, v10, v11, v12])), (h1, .inr (5, [.ref h3, .ref h2, v13])), (h2, .inl (ty 6, 2, .inr (.inr (.inr (.inr (wy2 h8 h9)))))), (h4, .inr (0, [.ref h5, v30])), (h5, .inr (2, [v31, v32, v33, .ref h6, .ref h7, v34])), (h7, .inl (ty 1, 16, .inl (kf 0))), (h3, .inr (8, [v14, .int 2, .int 0, v15, v16, v17, v18, v19, v20, v21, v22, v23, v24, v25, v26, v27, v28, v29])), (h6, .inl (ty 1, 16, .inl (kf 0)))] H := hP
            have hD : va_D A [(h0, .inr (11, [v0, v1, v2, .ref h1, v3, v4, v5, .ref h4, v6, v7, v8, v9, v10, v11, v12])), (h1, .inr (5, [.ref h3, .ref h2, v13])), (h2, .inl (ty 6, 2, .inr (.inr (.inr (.inr (wy2 h8 h9)))))), (h4, .inr (0, [.ref h5, v30])), (h5, .inr (2, [v31, v32, v33, .ref h6, .ref h7, v34])), (h7, .inl (ty 1, 16, .inl (kf 0))), (h3, .inr (8, [v14, .int 2, .int 0, v15, v16, v17, v18, v19, v20, v21, v22, v23, v24, v25, v26, v27, v28, v29])), (h6, .inl (ty 1, 16, .inl (kf 0)))] := hD
            exact kr_z hx hb hr rfl hlocks hP hD hS [] [] (by decide) rfl (Or.inr ⟨(Or.inr (Or.inl ⟨c3, c4, c5, rfl, c7⟩)), rfl, rfl⟩) (by decide) (by decide) dX11_best_68
        · refine kc_i (va_runV (As := [.int 1]) (rest := []) ⟨hx, hb, hml, hown, hB⟩ (c85_X5_openOnes l D ty H.size h1 h2 h3 v13 h8 h9 v14 (.int 2) v15 v16 v17 v18 v19 v20 v21 v22 v23 v24 v25 v26 v27 v28 v29) (cwV 1 hB (bw_V mw_347 mw_348 mw_349 mw_76 mw_346) rfl rfl rfl (by decide +kernel) ⟨Nat.le_of_ble_eq_true rfl, Nat.le_of_ble_eq_true rfl⟩) (kp_V hK hP hD [1, 2, 3] (by decide) rfl 1 rfl rfl rfl) rfl rfl hl.1 rfl (lv_room (Nat.le_of_ble_eq_true rfl)) dX11_best_24 ⟨Nat.le_of_ble_eq_true rfl, Nat.le_of_ble_eq_true rfl⟩) hP hD hS hA [1, 2, 3] [0, 4, 5, 6, 7] (wr := [(h0, .inr (11, [v0, v1, v2, .ref h1, v3, v4, v5, .ref h4, v6, v7, v8, v9, v10, v11, v12])), (h4, .inr (0, [.ref h5, v30])), (h5, .inr (2, [v31, v32, v33, .ref h6, .ref h7, v34])), (h6, .inl (ty 1, 16, .inl f0)), (h7, .inl (ty 1, 16, .inl f1))]) rfl rfl (by decide) (by decide) (fun r u H locs w10 hP hD hS => ?_)
          obtain ⟨rfl, rfl⟩ := w10
          have hP : va_P D vwCl [(h0, .inr (11, [v0, v1, v2, .ref h1, v3, v4, v5, .ref h4, v6, v7, v8, v9, v10, v11, v12])), (h4, .inr (0, [.ref h5, v30])), (h5, .inr (2, [v31, v32, v33, .ref h6, .ref h7, v34])), (h6, .inl (ty 1, 16, .inl f0)), (h7, .inl (ty 1, 16, .inl f1)), (h1, .inr (5, [.ref h3, .ref h2, v13])), (h2, .inl (ty 6, 2, .inr (.inr (.inr (.inr (wy2 h8 h9)))))), (h3, .inr (8, [v14, .int 2, .int 0, v15, v16, v17, v18, v19, v20, v21, v22, v23, v24, v25, v26, v27, v28, v29]))] H := hP
          have hD : va_D A [(h0, .inr (11, [v0, v1, v2, .ref h1, v3, v4, v5, .ref h4, v6, v7, v8, v9, v10, v11, v12])), (h4, .inr (0, [.ref h5, v30])), (h5, .inr (2, [v31, v32, v33, .ref h6, .ref h7, v34])), (h6, .inl (ty 1, 16, .inl f0)), (h7, .inl (ty 1, 16, .inl f1)), (h1, .inr (5, [.ref h3, .ref h2, v13])), (h2, .inl (ty 6, 2, .inr (.inr (.inr (.inr (wy2 h8 h9)))))), (h3, .inr (8, [v14, .int 2, .int 0, v15, v16, v17, v18, v19, v20, v21, v22, v23, v24, v25, v26, v27, v28, v29]))] := hD
          refine lv_bipush (v := 10) hx hb dX11_best_27 (by decide) ?_
          refine lv_icmp_le (tgt := 35) hx hb dX11_best_29 (by decide) (fun _ => ?_) (fun h9 => absurd (by decide) h9)
          refine lv_aload_n hx hb dX11_best_35 rfl (lv_at hl 0 rfl) ?_
          refine va_get (D := D) (ci := 11) (v := .ref h4) (C := RX11) (T := TX11) (N := 15) hx hb hB inB_X11 hown hK.1 hP 0 rfl rfl 7 (by decide) (hB _ mw_112) (fun _ h9 => h9) rfl dX11_best_36 ?_
          refine lv_aload_n hx hb dX11_best_39 rfl (lv_at hl 0 rfl) ?_
          refine va_get (D := D) (ci := 11) (v := .ref h1) (C := RX11) (T := TX11) (N := 15) hx hb hB inB_X11 hown hK.1 hP 0 rfl rfl 3 (by decide) (hB _ mw_85) (fun _ h9 => h9) rfl dX11_best_40 ?_
          refine va_get (D := D) (ci := 5) (v := .ref h3) (C := RX5) (T := TX5) (N := 3) hx hb hB inB_X5 hown hK.1 hP 5 rfl rfl 0 (by decide) (hB _ mw_150) (fun _ h9 => h9) rfl dX11_best_43 ?_
          refine lv_aload_n hx hb dX11_best_46 rfl (lv_at hl 0 rfl) ?_
          refine va_get (D := D) (ci := 11) (v := .ref h1) (C := RX11) (T := TX11) (N := 15) hx hb hB inB_X11 hown hK.1 hP 0 rfl rfl 3 (by decide) (hB _ mw_85) (fun _ h9 => h9) rfl dX11_best_47 ?_
          refine va_get (D := D) (ci := 5) (v := .ref h2) (C := RX5) (T := TX5) (N := 3) hx hb hB inB_X5 hown hK.1 hP 5 rfl rfl 1 (by decide) (hB _ mw_267) (fun _ h9 => h9) rfl dX11_best_50 ?_
          refine lv_iload_n hx hb dX11_best_53 rfl (lv_at hl 1 rfl) ?_
          refine va_aldA hx hb hK.1 hP 6 6 rfl rfl (by unfold vp_in; decide) dX11_best_54 ?_
          refine tp_v (v := .ref h9) rfl ?_
          refine lv_iload_n hx hb dX11_best_55 rfl (lv_at hl 2 rfl) ?_
          refine lv_iconst (v := 1) hx hb dX11_best_56 (by decide) ?_
          refine lv_icmp_ne (tgt := 64) hx hb dX11_best_57 (by decide) (fun c11 => ?_) (fun c11 => ?_)
          · refine lv_iconst (v := 0) hx hb dX11_best_64 (by decide) ?_
            refine kc_i (va_runV (As := [.ref h3, .ref h9, .int 0]) (rest := []) ⟨hx, hb, hml, hown, hB⟩ (c81_X0_endAsBest l D ty H.size h4 h3 h5 h6 h7 h9 v30 v14 v15 v16 v17 v18 v19 v20 v21 v22 v23 v24 v25 v26 v27 v28 v29 v31 v32 v33 v34 f0 f1) (cwV 3 hB (bw_V mw_361 mw_362 mw_363 mw_105 mw_360) rfl rfl rfl (by decide +kernel) ⟨Nat.le_of_ble_eq_true rfl, Nat.le_of_ble_eq_true rfl⟩) (kp_V hK hP hD [1, 7, 2, 3, 4] (by decide) rfl 1 rfl rfl rfl) rfl rfl hl.1 rfl (lv_room (Nat.le_of_ble_eq_true rfl)) dX11_best_65 ⟨Nat.le_of_ble_eq_true rfl, Nat.le_of_ble_eq_true rfl⟩) hP hD hS hA [1, 7, 2, 3, 4] [0, 5, 6] (wr := [(h0, .inr (11, [v0, v1, v2, .ref h1, v3, v4, v5, .ref h4, v6, v7, v8, v9, v10, v11, v12])), (h1, .inr (5, [.ref h3, .ref h2, v13])), (h2, .inl (ty 6, 2, .inr (.inr (.inr (.inr (wy2 h8 h9))))))]) rfl rfl (by decide) (by decide) (fun r u H locs w12 hP hD hS => ?_)
            obtain ⟨rfl, rfl⟩ := w12
            have hP : va_P D vwCl [(h0, .inr (11, [v0, v1, v2, .ref h1, v3, v4, v5, .ref h4, v6, v7, v8, v9, v10, v11, v12])), (h1, .inr (5, [.ref h3, .ref h2, v13])), (h2, .inl (ty 6, 2, .inr (.inr (.inr (.inr (wy2 h8 h9)))))), (h4, .inr (0, [.ref h5, v30])), (h5, .inr (2, [v31, v32, v33, .ref h6, .ref h7, v34])), (h7, .inl (ty 1, 16, .inl (kf 0))), (h3, .inr (8, [v14, .int 2, .int 0, v15, v16, v17, v18, v19, v20, v21, v22, v23, v24, v25, v26, v27, v28, v29])), (h6, .inl (ty 1, 16, .inl (kf 0)))] H := hP
            have hD : va_D A [(h0, .inr (11, [v0, v1, v2, .ref h1, v3, v4, v5, .ref h4, v6, v7, v8, v9, v10, v11, v12])), (h1, .inr (5, [.ref h3, .ref h2, v13])), (h2, .inl (ty 6, 2, .inr (.inr (.inr (.inr (wy2 h8 h9)))))), (h4, .inr (0, [.ref h5, v30])), (h5, .inr (2, [v31, v32, v33, .ref h6, .ref h7, v34])), (h7, .inl (ty 1, 16, .inl (kf 0))), (h3, .inr (8, [v14, .int 2, .int 0, v15, v16, v17, v18, v19, v20, v21, v22, v23, v24, v25, v26, v27, v28, v29])), (h6, .inl (ty 1, 16, .inl (kf 0)))] := hD
            exact kr_z hx hb hr rfl hlocks hP hD hS [] [] (by decide) rfl (Or.inr ⟨(Or.inr (Or.inr (Or.inl ⟨c3, c4, c5, rfl, c11⟩))), rfl, rfl⟩) (by decide) (by decide) dX11_best_68
          · refine lv_iconst (v := 1) hx hb dX11_best_60 (by decide) ?_
            refine lv_goto (tgt := 65) hx hb dX11_best_61 (by decide) ?_
            refine kc_i (va_runV (As := [.ref h3, .ref h9, .int 1]) (rest := []) ⟨hx, hb, hml, hown, hB⟩ (c84_X0_endAsBest l D ty H.size h4 h3 h5 h6 h7 h9 v30 v14 v15 v16 v17 v18 v19 v20 v21 v22 v23 v24 v25 v26 v27 v28 v29 v31 v32 v33 v34 f0 f1) (cwV 3 hB (bw_V mw_361 mw_362 mw_363 mw_105 mw_360) rfl rfl rfl (by decide +kernel) ⟨Nat.le_of_ble_eq_true rfl, Nat.le_of_ble_eq_true rfl⟩) (kp_V hK hP hD [1, 7, 2, 3, 4] (by decide) rfl 1 rfl rfl rfl) rfl rfl hl.1 rfl (lv_room (Nat.le_of_ble_eq_true rfl)) dX11_best_65 ⟨Nat.le_of_ble_eq_true rfl, Nat.le_of_ble_eq_true rfl⟩) hP hD hS hA [1, 7, 2, 3, 4] [0, 5, 6] (wr := [(h0, .inr (11, [v0, v1, v2, .ref h1, v3, v4, v5, .ref h4, v6, v7, v8, v9, v10, v11, v12])), (h1, .inr (5, [.ref h3, .ref h2, v13])), (h2, .inl (ty 6, 2, .inr (.inr (.inr (.inr (wy2 h8 h9))))))]) rfl rfl (by decide) (by decide) (fun r u H locs w13 hP hD hS => ?_)
            obtain ⟨rfl, rfl⟩ := w13
            have hP : va_P D vwCl [(h0, .inr (11, [v0, v1, v2, .ref h1, v3, v4, v5, .ref h4, v6, v7, v8, v9, v10, v11, v12])), (h1, .inr (5, [.ref h3, .ref h2, v13])), (h2, .inl (ty 6, 2, .inr (.inr (.inr (.inr (wy2 h8 h9)))))), (h4, .inr (0, [.ref h5, v30])), (h5, .inr (2, [v31, v32, v33, .ref h6, .ref h7, v34])), (h7, .inl (ty 1, 16, .inl (kf 0))), (h3, .inr (8, [v14, .int 2, .int 0, v15, v16, v17, v18, v19, v20, v21, v22, v23, v24, v25, v26, v27, v28, v29])), (h6, .inl (ty 1, 16, .inl (kf 0)))] H := hP
            have hD : va_D A [(h0, .inr (11, [v0, v1, v2, .ref h1, v3, v4, v5, .ref h4, v6, v7, v8, v9, v10, v11, v12])), (h1, .inr (5, [.ref h3, .ref h2, v13])), (h2, .inl (ty 6, 2, .inr (.inr (.inr (.inr (wy2 h8 h9)))))), (h4, .inr (0, [.ref h5, v30])), (h5, .inr (2, [v31, v32, v33, .ref h6, .ref h7, v34])), (h7, .inl (ty 1, 16, .inl (kf 0))), (h3, .inr (8, [v14, .int 2, .int 0, v15, v16, v17, v18, v19, v20, v21, v22, v23, v24, v25, v26, v27, v28, v29])), (h6, .inl (ty 1, 16, .inl (kf 0)))] := hD
            exact kr_z hx hb hr rfl hlocks hP hD hS [] [] (by decide) rfl (Or.inr ⟨(Or.inr (Or.inr (Or.inr ⟨c3, c4, c5, rfl, c11⟩))), rfl, rfl⟩) (by decide) (by decide) dX11_best_68
      · refine lv_bipush (v := (-2)) hx hb dX11_best_16 (by decide) ?_
        exact kr_z hx hb hr rfl hlocks hP hD hS [] [] (by decide) rfl (Or.inl ⟨(Or.inr (Or.inr ⟨c3, c4, c5⟩)), rfl, rfl⟩) (by decide) (by decide) dX11_best_18
set_option maxHeartbeats 4000000 in
set_option maxRecDepth 100000 in
theorem c87_X11_isComplete (l : Launch) (D : va_G) (ty : Nat → ClassId) (sz : Nat) (h0 : Nat) (h1 : Nat) (h2 : Nat) (h3 : Nat) (h4 : Nat) (h5 : Nat) (h6 : Nat) (v0 : Value) (v1 : Value) (v2 : Value) (v3 : Value) (v4 : Value) (v5 : Value) (v6 : Value) (v7 : Value) (v8 : Value) (v9 : Value) (v10 : Value) (v11 : Value) (v12 : Value) (v13 : Value) (h7 : Nat) (h8 : Nat) (v14 : Value) (v15 : Value) (v16 : Value) (v17 : Value) (v18 : Value) (v19 : Value) (v20 : Value) (v21 : Value) (v22 : Value) (v23 : Value) (v24 : Value) (v25 : Value) (v26 : Value) (v27 : Value) (v28 : Value) (v29 : Value) (v30 : Value) (v31 : Value) (v32 : Value) (v33 : Value) (f0 : Nat → Int32) (f1 : Nat → Int32) : cQ l yX11_isComplete cX11_isComplete 2 (some .boolean) 3 72 [.ref h0, .int 0] D ty [(h0, .inr (11, [v0, v1, v2, .ref h1, v3, v4, .ref h4, v5, v6, v7, v8, v9, v10, v11, v12])), (h1, .inr (5, [.ref h3, .ref h2, v13])), (h2, .inl (ty 6, 2, .inr (.inr (.inr (.inr (wy2 h7 h8)))))), (h3, .inr (8, [v14, .int 2, .int 0, v15, v16, v17, v18, v19, v20, v21, v22, v23, v24, v25, v26, v27, v28, v29])), (h4, .inr (2, [v30, v31, v32, .ref h5, .ref h6, v33])), (h5, .inl (ty 1, 16, .inl f0)), (h6, .inl (ty 1, 16, .inl f1))] sz (qI (fun (r : Int32) (u : va_W) => 0 = r ∧ [(h0, .inr (11, [v0, v1, v2, .ref h1, v3, v4, .ref h4, v5, v6, v7, v8, v9, v10, v11, v12])), (h1, .inr (5, [.ref h3, .ref h2, v13])), (h2, .inl (ty 6, 2, .inr (.inr (.inr (.inr (wy2 h7 h8)))))), (h4, .inr (2, [v30, v31, v32, .ref h5, .ref h6, v33])), (h6, .inl (ty 1, 16, .inl (kf 0))), (h3, .inr (8, [v14, .int 2, .int 0, v15, v16, v17, v18, v19, v20, v21, v22, v23, v24, v25, v26, v27, v28, v29])), (h5, .inl (ty 1, 16, .inl (kf 0)))] = u)) 0 0 := by
  refine cQ.of (by decide) (Nat.le_of_ble_eq_true rfl) (fun p e s m below meth c A ls C hsz hP hK hD hA hl => ?_)
  obtain ⟨hx, hb, hml, hown, hB, hr, hlocks, hin⟩ := C
  have hown : s.vm.findClass RX11 = some m.cls := hown
  have hS : va_S A s.heap s.heap [] := va_S.rf
  have hl : lv_has ls 2 [(0, .ref h0), (1, .int 0)] := hl
  refine lv_aload_n hx hb dX11_isComplete_0 rfl (lv_at hl 0 rfl) ?_
  refine va_get (D := D) (ci := 11) (v := .ref h1) (C := RX11) (T := TX11) (N := 15) hx hb hB inB_X11 hown hK.1 hP 0 rfl rfl 3 (by decide) (hB _ mw_85) (fun _ h9 => h9) rfl dX11_isComplete_1 ?_
  refine lv_iload_n hx hb dX11_isComplete_4 rfl (lv_at hl 1 rfl) ?_
  refine kc_i (va_runV (As := [.int 0]) (rest := []) ⟨hx, hb, hml, hown, hB⟩ (c79_X5_openOnes l D ty s.heap.size h1 h2 h3 v13 h7 h8 v14 (.int 2) v15 v16 v17 v18 v19 v20 v21 v22 v23 v24 v25 v26 v27 v28 v29) (cwV 1 hB (bw_V mw_347 mw_348 mw_349 mw_76 mw_346) rfl rfl rfl (by decide +kernel) ⟨Nat.le_of_ble_eq_true rfl, Nat.le_of_ble_eq_true rfl⟩) (kp_V hK hP hD [1, 2, 3] (by decide) rfl 1 rfl rfl rfl) rfl rfl hl.1 rfl (lv_room (Nat.le_of_ble_eq_true rfl)) dX11_isComplete_5 ⟨Nat.le_of_ble_eq_true rfl, Nat.le_of_ble_eq_true rfl⟩) hP hD hS hA [1, 2, 3] [0, 4, 5, 6] (wr := [(h0, .inr (11, [v0, v1, v2, .ref h1, v3, v4, .ref h4, v5, v6, v7, v8, v9, v10, v11, v12])), (h4, .inr (2, [v30, v31, v32, .ref h5, .ref h6, v33])), (h5, .inl (ty 1, 16, .inl f0)), (h6, .inl (ty 1, 16, .inl f1))]) rfl rfl (by decide) (by decide) (fun r u H locs w1 hP hD hS => ?_)
  obtain ⟨rfl, rfl⟩ := w1
  have hP : va_P D vwCl [(h0, .inr (11, [v0, v1, v2, .ref h1, v3, v4, .ref h4, v5, v6, v7, v8, v9, v10, v11, v12])), (h4, .inr (2, [v30, v31, v32, .ref h5, .ref h6, v33])), (h5, .inl (ty 1, 16, .inl f0)), (h6, .inl (ty 1, 16, .inl f1)), (h1, .inr (5, [.ref h3, .ref h2, v13])), (h2, .inl (ty 6, 2, .inr (.inr (.inr (.inr (wy2 h7 h8)))))), (h3, .inr (8, [v14, .int 2, .int 0, v15, v16, v17, v18, v19, v20, v21, v22, v23, v24, v25, v26, v27, v28, v29]))] H := hP
  have hD : va_D A [(h0, .inr (11, [v0, v1, v2, .ref h1, v3, v4, .ref h4, v5, v6, v7, v8, v9, v10, v11, v12])), (h4, .inr (2, [v30, v31, v32, .ref h5, .ref h6, v33])), (h5, .inl (ty 1, 16, .inl f0)), (h6, .inl (ty 1, 16, .inl f1)), (h1, .inr (5, [.ref h3, .ref h2, v13])), (h2, .inl (ty 6, 2, .inr (.inr (.inr (.inr (wy2 h7 h8)))))), (h3, .inr (8, [v14, .int 2, .int 0, v15, v16, v17, v18, v19, v20, v21, v22, v23, v24, v25, v26, v27, v28, v29]))] := hD
  refine lv_if_ne (tgt := 41) hx hb dX11_isComplete_8 (by decide) (fun h9 => absurd (by decide) h9) (fun _ => ?_)
  refine lv_aload_n hx hb dX11_isComplete_11 rfl (lv_at hl 0 rfl) ?_
  refine va_get (D := D) (ci := 11) (v := .ref h4) (C := RX11) (T := TX11) (N := 15) hx hb hB inB_X11 hown hK.1 hP 0 rfl rfl 6 (by decide) (hB _ mw_102) (fun _ h9 => h9) rfl dX11_isComplete_12 ?_
  refine lv_aload_n hx hb dX11_isComplete_15 rfl (lv_at hl 0 rfl) ?_
  refine va_get (D := D) (ci := 11) (v := .ref h1) (C := RX11) (T := TX11) (N := 15) hx hb hB inB_X11 hown hK.1 hP 0 rfl rfl 3 (by decide) (hB _ mw_85) (fun _ h9 => h9) rfl dX11_isComplete_16 ?_
  refine va_get (D := D) (ci := 5) (v := .ref h3) (C := RX5) (T := TX5) (N := 3) hx hb hB inB_X5 hown hK.1 hP 4 rfl rfl 0 (by decide) (hB _ mw_150) (fun _ h9 => h9) rfl dX11_isComplete_19 ?_
  refine lv_aload_n hx hb dX11_isComplete_22 rfl (lv_at hl 0 rfl) ?_
  refine va_get (D := D) (ci := 11) (v := .ref h1) (C := RX11) (T := TX11) (N := 15) hx hb hB inB_X11 hown hK.1 hP 0 rfl rfl 3 (by decide) (hB _ mw_85) (fun _ h9 => h9) rfl dX11_isComplete_23 ?_
  refine va_get (D := D) (ci := 5) (v := .ref h2) (C := RX5) (T := TX5) (N := 3) hx hb hB inB_X5 hown hK.1 hP 4 rfl rfl 1 (by decide) (hB _ mw_267) (fun _ h9 => h9) rfl dX11_isComplete_26 ?_
  refine lv_iload_n hx hb dX11_isComplete_29 rfl (lv_at hl 1 rfl) ?_
  refine va_aldA hx hb hK.1 hP 5 6 rfl rfl (by unfold vp_in; decide) dX11_isComplete_30 ?_
  refine tp_v (v := .ref h7) rfl ?_
  refine kc_i (va_runV (As := [.ref h3, .ref h7]) (rest := []) ⟨hx, hb, hml, hown, hB⟩ (c47_X2_isWhole l D ty H.size h4 h5 h6 h3 h7 v30 v31 v32 v33 f0 f1 v14 v15 v16 v17 v18 v19 v20 v21 v22 v23 v24 v25 v26 v27 v28 v29) (cwV 2 hB (bw_V mw_281 mw_282 mw_283 mw_92 mw_280) rfl rfl rfl (by decide +kernel) ⟨Nat.le_of_ble_eq_true rfl, Nat.le_of_ble_eq_true rfl⟩) (kp_V hK hP hD [1, 2, 3, 6] (by decide) rfl 1 rfl rfl rfl) rfl rfl hl.1 rfl (lv_room (Nat.le_of_ble_eq_true rfl)) dX11_isComplete_31 ⟨Nat.le_of_ble_eq_true rfl, Nat.le_of_ble_eq_true rfl⟩) hP hD hS hA [1, 2, 3, 6] [0, 4, 5] (wr := [(h0, .inr (11, [v0, v1, v2, .ref h1, v3, v4, .ref h4, v5, v6, v7, v8, v9, v10, v11, v12])), (h1, .inr (5, [.ref h3, .ref h2, v13])), (h2, .inl (ty 6, 2, .inr (.inr (.inr (.inr (wy2 h7 h8))))))]) rfl rfl (by decide) (by decide) (fun r u H locs w2 hP hD hS => ?_)
  obtain ⟨rfl, rfl⟩ := w2
  have hP : va_P D vwCl [(h0, .inr (11, [v0, v1, v2, .ref h1, v3, v4, .ref h4, v5, v6, v7, v8, v9, v10, v11, v12])), (h1, .inr (5, [.ref h3, .ref h2, v13])), (h2, .inl (ty 6, 2, .inr (.inr (.inr (.inr (wy2 h7 h8)))))), (h4, .inr (2, [v30, v31, v32, .ref h5, .ref h6, v33])), (h6, .inl (ty 1, 16, .inl (kf 0))), (h3, .inr (8, [v14, .int 2, .int 0, v15, v16, v17, v18, v19, v20, v21, v22, v23, v24, v25, v26, v27, v28, v29])), (h5, .inl (ty 1, 16, .inl (kf 0)))] H := hP
  have hD : va_D A [(h0, .inr (11, [v0, v1, v2, .ref h1, v3, v4, .ref h4, v5, v6, v7, v8, v9, v10, v11, v12])), (h1, .inr (5, [.ref h3, .ref h2, v13])), (h2, .inl (ty 6, 2, .inr (.inr (.inr (.inr (wy2 h7 h8)))))), (h4, .inr (2, [v30, v31, v32, .ref h5, .ref h6, v33])), (h6, .inl (ty 1, 16, .inl (kf 0))), (h3, .inr (8, [v14, .int 2, .int 0, v15, v16, v17, v18, v19, v20, v21, v22, v23, v24, v25, v26, v27, v28, v29])), (h5, .inl (ty 1, 16, .inl (kf 0)))] := hD
  refine lv_if_eq (tgt := 41) hx hb dX11_isComplete_34 (by decide) (fun _ => ?_) (fun h9 => absurd (by decide) h9)
  refine lv_iconst (v := 0) hx hb dX11_isComplete_41 (by decide) ?_
  exact kr_z hx hb hr rfl hlocks hP hD hS [(h0, .inr (11, [v0, v1, v2, .ref h1, v3, v4, .ref h4, v5, v6, v7, v8, v9, v10, v11, v12])), (h1, .inr (5, [.ref h3, .ref h2, v13])), (h2, .inl (ty 6, 2, .inr (.inr (.inr (.inr (wy2 h7 h8)))))), (h4, .inr (2, [v30, v31, v32, .ref h5, .ref h6, v33])), (h6, .inl (ty 1, 16, .inl (kf 0))), (h3, .inr (8, [v14, .int 2, .int 0, v15, v16, v17, v18, v19, v20, v21, v22, v23, v24, v25, v26, v27, v28, v29])), (h5, .inl (ty 1, 16, .inl (kf 0)))] [0, 1, 2, 3, 4, 5, 6] (by decide) rfl ⟨rfl, rfl⟩ (by decide) (by decide) dX11_isComplete_42
set_option maxHeartbeats 4000000 in
set_option maxRecDepth 100000 in
theorem c88_X11_isComplete (l : Launch) (D : va_G) (ty : Nat → ClassId) (sz : Nat) (h0 : Nat) (h1 : Nat) (h2 : Nat) (h3 : Nat) (h4 : Nat) (h5 : Nat) (h6 : Nat) (v0 : Value) (v1 : Value) (v2 : Value) (v3 : Value) (v4 : Value) (v5 : Value) (v6 : Value) (v7 : Value) (v8 : Value) (v9 : Value) (v10 : Value) (v11 : Value) (v12 : Value) (v13 : Value) (h7 : Nat) (h8 : Nat) (v14 : Value) (v15 : Value) (v16 : Value) (v17 : Value) (v18 : Value) (v19 : Value) (v20 : Value) (v21 : Value) (v22 : Value) (v23 : Value) (v24 : Value) (v25 : Value) (v26 : Value) (v27 : Value) (v28 : Value) (v29 : Value) (v30 : Value) (v31 : Value) (v32 : Value) (v33 : Value) (f0 : Nat → Int32) (f1 : Nat → Int32) : cQ l yX11_isComplete cX11_isComplete 2 (some .boolean) 3 72 [.ref h0, .int 1] D ty [(h0, .inr (11, [v0, v1, v2, .ref h1, v3, v4, .ref h4, v5, v6, v7, v8, v9, v10, v11, v12])), (h1, .inr (5, [.ref h3, .ref h2, v13])), (h2, .inl (ty 6, 2, .inr (.inr (.inr (.inr (wy2 h7 h8)))))), (h3, .inr (8, [v14, .int 2, .int 0, v15, v16, v17, v18, v19, v20, v21, v22, v23, v24, v25, v26, v27, v28, v29])), (h4, .inr (2, [v30, v31, v32, .ref h5, .ref h6, v33])), (h5, .inl (ty 1, 16, .inl f0)), (h6, .inl (ty 1, 16, .inl f1))] sz (qI (fun (r : Int32) (u : va_W) => 0 = r ∧ [(h0, .inr (11, [v0, v1, v2, .ref h1, v3, v4, .ref h4, v5, v6, v7, v8, v9, v10, v11, v12])), (h1, .inr (5, [.ref h3, .ref h2, v13])), (h2, .inl (ty 6, 2, .inr (.inr (.inr (.inr (wy2 h7 h8)))))), (h4, .inr (2, [v30, v31, v32, .ref h5, .ref h6, v33])), (h6, .inl (ty 1, 16, .inl (kf 0))), (h3, .inr (8, [v14, .int 2, .int 0, v15, v16, v17, v18, v19, v20, v21, v22, v23, v24, v25, v26, v27, v28, v29])), (h5, .inl (ty 1, 16, .inl (kf 0)))] = u)) 0 0 := by
  refine cQ.of (by decide) (Nat.le_of_ble_eq_true rfl) (fun p e s m below meth c A ls C hsz hP hK hD hA hl => ?_)
  obtain ⟨hx, hb, hml, hown, hB, hr, hlocks, hin⟩ := C
  have hown : s.vm.findClass RX11 = some m.cls := hown
  have hS : va_S A s.heap s.heap [] := va_S.rf
  have hl : lv_has ls 2 [(0, .ref h0), (1, .int 1)] := hl
  refine lv_aload_n hx hb dX11_isComplete_0 rfl (lv_at hl 0 rfl) ?_
  refine va_get (D := D) (ci := 11) (v := .ref h1) (C := RX11) (T := TX11) (N := 15) hx hb hB inB_X11 hown hK.1 hP 0 rfl rfl 3 (by decide) (hB _ mw_85) (fun _ h9 => h9) rfl dX11_isComplete_1 ?_
  refine lv_iload_n hx hb dX11_isComplete_4 rfl (lv_at hl 1 rfl) ?_
  refine kc_i (va_runV (As := [.int 1]) (rest := []) ⟨hx, hb, hml, hown, hB⟩ (c85_X5_openOnes l D ty s.heap.size h1 h2 h3 v13 h7 h8 v14 (.int 2) v15 v16 v17 v18 v19 v20 v21 v22 v23 v24 v25 v26 v27 v28 v29) (cwV 1 hB (bw_V mw_347 mw_348 mw_349 mw_76 mw_346) rfl rfl rfl (by decide +kernel) ⟨Nat.le_of_ble_eq_true rfl, Nat.le_of_ble_eq_true rfl⟩) (kp_V hK hP hD [1, 2, 3] (by decide) rfl 1 rfl rfl rfl) rfl rfl hl.1 rfl (lv_room (Nat.le_of_ble_eq_true rfl)) dX11_isComplete_5 ⟨Nat.le_of_ble_eq_true rfl, Nat.le_of_ble_eq_true rfl⟩) hP hD hS hA [1, 2, 3] [0, 4, 5, 6] (wr := [(h0, .inr (11, [v0, v1, v2, .ref h1, v3, v4, .ref h4, v5, v6, v7, v8, v9, v10, v11, v12])), (h4, .inr (2, [v30, v31, v32, .ref h5, .ref h6, v33])), (h5, .inl (ty 1, 16, .inl f0)), (h6, .inl (ty 1, 16, .inl f1))]) rfl rfl (by decide) (by decide) (fun r u H locs w1 hP hD hS => ?_)
  obtain ⟨rfl, rfl⟩ := w1
  have hP : va_P D vwCl [(h0, .inr (11, [v0, v1, v2, .ref h1, v3, v4, .ref h4, v5, v6, v7, v8, v9, v10, v11, v12])), (h4, .inr (2, [v30, v31, v32, .ref h5, .ref h6, v33])), (h5, .inl (ty 1, 16, .inl f0)), (h6, .inl (ty 1, 16, .inl f1)), (h1, .inr (5, [.ref h3, .ref h2, v13])), (h2, .inl (ty 6, 2, .inr (.inr (.inr (.inr (wy2 h7 h8)))))), (h3, .inr (8, [v14, .int 2, .int 0, v15, v16, v17, v18, v19, v20, v21, v22, v23, v24, v25, v26, v27, v28, v29]))] H := hP
  have hD : va_D A [(h0, .inr (11, [v0, v1, v2, .ref h1, v3, v4, .ref h4, v5, v6, v7, v8, v9, v10, v11, v12])), (h4, .inr (2, [v30, v31, v32, .ref h5, .ref h6, v33])), (h5, .inl (ty 1, 16, .inl f0)), (h6, .inl (ty 1, 16, .inl f1)), (h1, .inr (5, [.ref h3, .ref h2, v13])), (h2, .inl (ty 6, 2, .inr (.inr (.inr (.inr (wy2 h7 h8)))))), (h3, .inr (8, [v14, .int 2, .int 0, v15, v16, v17, v18, v19, v20, v21, v22, v23, v24, v25, v26, v27, v28, v29]))] := hD
  refine lv_if_ne (tgt := 41) hx hb dX11_isComplete_8 (by decide) (fun h9 => absurd (by decide) h9) (fun _ => ?_)
  refine lv_aload_n hx hb dX11_isComplete_11 rfl (lv_at hl 0 rfl) ?_
  refine va_get (D := D) (ci := 11) (v := .ref h4) (C := RX11) (T := TX11) (N := 15) hx hb hB inB_X11 hown hK.1 hP 0 rfl rfl 6 (by decide) (hB _ mw_102) (fun _ h9 => h9) rfl dX11_isComplete_12 ?_
  refine lv_aload_n hx hb dX11_isComplete_15 rfl (lv_at hl 0 rfl) ?_
  refine va_get (D := D) (ci := 11) (v := .ref h1) (C := RX11) (T := TX11) (N := 15) hx hb hB inB_X11 hown hK.1 hP 0 rfl rfl 3 (by decide) (hB _ mw_85) (fun _ h9 => h9) rfl dX11_isComplete_16 ?_
  refine va_get (D := D) (ci := 5) (v := .ref h3) (C := RX5) (T := TX5) (N := 3) hx hb hB inB_X5 hown hK.1 hP 4 rfl rfl 0 (by decide) (hB _ mw_150) (fun _ h9 => h9) rfl dX11_isComplete_19 ?_
  refine lv_aload_n hx hb dX11_isComplete_22 rfl (lv_at hl 0 rfl) ?_
  refine va_get (D := D) (ci := 11) (v := .ref h1) (C := RX11) (T := TX11) (N := 15) hx hb hB inB_X11 hown hK.1 hP 0 rfl rfl 3 (by decide) (hB _ mw_85) (fun _ h9 => h9) rfl dX11_isComplete_23 ?_
  refine va_get (D := D) (ci := 5) (v := .ref h2) (C := RX5) (T := TX5) (N := 3) hx hb hB inB_X5 hown hK.1 hP 4 rfl rfl 1 (by decide) (hB _ mw_267) (fun _ h9 => h9) rfl dX11_isComplete_26 ?_
  refine lv_iload_n hx hb dX11_isComplete_29 rfl (lv_at hl 1 rfl) ?_
  refine va_aldA hx hb hK.1 hP 5 6 rfl rfl (by unfold vp_in; decide) dX11_isComplete_30 ?_
  refine tp_v (v := .ref h8) rfl ?_
  refine kc_i (va_runV (As := [.ref h3, .ref h8]) (rest := []) ⟨hx, hb, hml, hown, hB⟩ (c47_X2_isWhole l D ty H.size h4 h5 h6 h3 h8 v30 v31 v32 v33 f0 f1 v14 v15 v16 v17 v18 v19 v20 v21 v22 v23 v24 v25 v26 v27 v28 v29) (cwV 2 hB (bw_V mw_281 mw_282 mw_283 mw_92 mw_280) rfl rfl rfl (by decide +kernel) ⟨Nat.le_of_ble_eq_true rfl, Nat.le_of_ble_eq_true rfl⟩) (kp_V hK hP hD [1, 2, 3, 6] (by decide) rfl 1 rfl rfl rfl) rfl rfl hl.1 rfl (lv_room (Nat.le_of_ble_eq_true rfl)) dX11_isComplete_31 ⟨Nat.le_of_ble_eq_true rfl, Nat.le_of_ble_eq_true rfl⟩) hP hD hS hA [1, 2, 3, 6] [0, 4, 5] (wr := [(h0, .inr (11, [v0, v1, v2, .ref h1, v3, v4, .ref h4, v5, v6, v7, v8, v9, v10, v11, v12])), (h1, .inr (5, [.ref h3, .ref h2, v13])), (h2, .inl (ty 6, 2, .inr (.inr (.inr (.inr (wy2 h7 h8))))))]) rfl rfl (by decide) (by decide) (fun r u H locs w2 hP hD hS => ?_)
  obtain ⟨rfl, rfl⟩ := w2
  have hP : va_P D vwCl [(h0, .inr (11, [v0, v1, v2, .ref h1, v3, v4, .ref h4, v5, v6, v7, v8, v9, v10, v11, v12])), (h1, .inr (5, [.ref h3, .ref h2, v13])), (h2, .inl (ty 6, 2, .inr (.inr (.inr (.inr (wy2 h7 h8)))))), (h4, .inr (2, [v30, v31, v32, .ref h5, .ref h6, v33])), (h6, .inl (ty 1, 16, .inl (kf 0))), (h3, .inr (8, [v14, .int 2, .int 0, v15, v16, v17, v18, v19, v20, v21, v22, v23, v24, v25, v26, v27, v28, v29])), (h5, .inl (ty 1, 16, .inl (kf 0)))] H := hP
  have hD : va_D A [(h0, .inr (11, [v0, v1, v2, .ref h1, v3, v4, .ref h4, v5, v6, v7, v8, v9, v10, v11, v12])), (h1, .inr (5, [.ref h3, .ref h2, v13])), (h2, .inl (ty 6, 2, .inr (.inr (.inr (.inr (wy2 h7 h8)))))), (h4, .inr (2, [v30, v31, v32, .ref h5, .ref h6, v33])), (h6, .inl (ty 1, 16, .inl (kf 0))), (h3, .inr (8, [v14, .int 2, .int 0, v15, v16, v17, v18, v19, v20, v21, v22, v23, v24, v25, v26, v27, v28, v29])), (h5, .inl (ty 1, 16, .inl (kf 0)))] := hD
  refine lv_if_eq (tgt := 41) hx hb dX11_isComplete_34 (by decide) (fun _ => ?_) (fun h9 => absurd (by decide) h9)
  refine lv_iconst (v := 0) hx hb dX11_isComplete_41 (by decide) ?_
  exact kr_z hx hb hr rfl hlocks hP hD hS [(h0, .inr (11, [v0, v1, v2, .ref h1, v3, v4, .ref h4, v5, v6, v7, v8, v9, v10, v11, v12])), (h1, .inr (5, [.ref h3, .ref h2, v13])), (h2, .inl (ty 6, 2, .inr (.inr (.inr (.inr (wy2 h7 h8)))))), (h4, .inr (2, [v30, v31, v32, .ref h5, .ref h6, v33])), (h6, .inl (ty 1, 16, .inl (kf 0))), (h3, .inr (8, [v14, .int 2, .int 0, v15, v16, v17, v18, v19, v20, v21, v22, v23, v24, v25, v26, v27, v28, v29])), (h5, .inl (ty 1, 16, .inl (kf 0)))] [0, 1, 2, 3, 4, 5, 6] (by decide) rfl ⟨rfl, rfl⟩ (by decide) (by decide) dX11_isComplete_42
