set_option maxHeartbeats 4000000 in
set_option maxRecDepth 100000 in
theorem c103_X11_arrive (l : Launch) (D : va_G) (ty : Nat → ClassId) (sz : Nat) (h0 : Nat) (h1 : Nat) (h2 : Nat) (h3 : Nat) (p0 : Int32) (p1 : Int32) (p2 : Int32) (v0 : Value) (v1 : Value) (v2 : Value) (v3 : Value) (v4 : Value) (v5 : Value) (v6 : Value) (v7 : Value) (v8 : Value) (v9 : Value) (v10 : Value) (v11 : Value) (v12 : Value) (v13 : Value) (v14 : Value) (v15 : Value) (v16 : Value) (v17 : Value) (v18 : Value) (v19 : Value) (v20 : Value) (v21 : Value) (v22 : Value) (v23 : Value) (v24 : Value) (v25 : Value) (v26 : Value) (v27 : Value) (v28 : Value) (v29 : Value) (v30 : Value) (v31 : Value) (v32 : Value) (v33 : Value) (v34 : Value) (v35 : Value) : cQ l yX11_arrive cX11_arrive 10 (some .int) 1 21 [.ref h0, .int p0, .int p1, .int p2] D ty [(h0, .inr (11, [v0, v1, v2, .ref h1, v3, v4, v5, v6, v7, v8, v9, v10, v11, v12, v13])), (h1, .inr (5, [.ref h2, v14, v15])), (h2, .inr (8, [v16, v17, v18, v19, v20, v21, v22, v23, v24, v25, v26, v27, .ref h3, v28, v29, v30, v31, v32])), (h3, .inr (1, [.int 0, v33, v34, v35]))] sz (qI (fun (r : Int32) (u : va_W) => (-2) = r ∧ [] = u)) 0 0 := by
  refine cQ.of (by decide) (Nat.le_of_ble_eq_true rfl) (fun p e s m below meth c A ls C hsz hP hK hD hA hl => ?_)
  obtain ⟨hx, hb, hml, hown, hB, hr, hlocks, hin⟩ := C
  have hown : s.vm.findClass RX11 = some m.cls := hown
  have hS : va_S A s.heap s.heap [] := va_S.rf
  have hl : lv_has ls 10 [(0, .ref h0), (1, .int p0), (2, .int p1), (3, .int p2)] := hl
  refine lv_aload_n hx hb dX11_arrive_0 rfl (lv_at hl 0 rfl) ?_
  refine lv_iload_n hx hb dX11_arrive_1 rfl (lv_at hl 1 rfl) ?_
  refine kc_i (va_runV (As := [.int p0]) (rest := []) ⟨hx, hb, hml, hown, hB⟩ (c73_X11_isJourney l D ty s.heap.size h0 h1 h2 h3 p0 v0 v1 v2 v3 v4 v5 v6 v7 v8 v9 v10 v11 v12 v13 v14 v15 v16 v17 v18 v19 v20 v21 v22 v23 v24 v25 v26 v27 v28 v29 v30 v31 v32 v33 v34 v35) (cwV 1 hB (bw_V mw_324 mw_325 mw_326 mw_216 mw_323) rfl rfl rfl (by decide +kernel) ⟨Nat.le_of_ble_eq_true rfl, Nat.le_of_ble_eq_true rfl⟩) (kp_V hK hP hD [0, 1, 2, 3] (by decide) rfl 0 rfl rfl rfl) rfl rfl hl.1 rfl (lv_room (Nat.le_of_ble_eq_true rfl)) dX11_arrive_2 ⟨Nat.le_of_ble_eq_true rfl, Nat.le_of_ble_eq_true rfl⟩) hP hD hS hA [0, 1, 2, 3] [] (wr := []) rfl rfl (by decide) (by decide) (fun r u H locs w1 hP hD hS => ?_)
  obtain ⟨rfl, rfl⟩ := w1
  have hP : va_P D vwCl [(h0, .inr (11, [v0, v1, v2, .ref h1, v3, v4, v5, v6, v7, v8, v9, v10, v11, v12, v13])), (h1, .inr (5, [.ref h2, v14, v15])), (h2, .inr (8, [v16, v17, v18, v19, v20, v21, v22, v23, v24, v25, v26, v27, .ref h3, v28, v29, v30, v31, v32])), (h3, .inr (1, [.int 0, v33, v34, v35]))] H := hP
  have hD : va_D A [(h0, .inr (11, [v0, v1, v2, .ref h1, v3, v4, v5, v6, v7, v8, v9, v10, v11, v12, v13])), (h1, .inr (5, [.ref h2, v14, v15])), (h2, .inr (8, [v16, v17, v18, v19, v20, v21, v22, v23, v24, v25, v26, v27, .ref h3, v28, v29, v30, v31, v32])), (h3, .inr (1, [.int 0, v33, v34, v35]))] := hD
  refine lv_if_eq (tgt := 22) hx hb dX11_arrive_5 (by decide) (fun _ => ?_) (fun h9 => absurd (by decide) h9)
  refine lv_bipush (v := (-2)) hx hb dX11_arrive_22 (by decide) ?_
  exact kr_z hx hb hr rfl hlocks hP hD hS [] [] (by decide) rfl ⟨rfl, rfl⟩ (by decide) (by decide) dX11_arrive_24
set_option maxHeartbeats 4000000 in
set_option maxRecDepth 100000 in
theorem c104_X11_reach (l : Launch) (D : va_G) (ty : Nat → ClassId) (sz : Nat) (h0 : Nat) (h1 : Nat) (h2 : Nat) (p0 : Int32) (p1 : Int32) (v0 : Value) (v1 : Value) (v2 : Value) (v3 : Value) (v4 : Value) (v5 : Value) (v6 : Value) (v7 : Value) (v8 : Value) (v9 : Value) (v10 : Value) (v11 : Value) (v12 : Value) (v13 : Value) (v14 : Value) (v15 : Value) (v16 : Value) (v17 : Value) (v18 : Value) (v19 : Value) (v20 : Value) (v21 : Value) (v22 : Value) (v23 : Value) (v24 : Value) (v25 : Value) (v26 : Value) (v27 : Value) (v28 : Value) (v29 : Value) (v30 : Value) (v31 : Value) (v32 : Value) : cQ l yX11_reach cX11_reach 5 (some .int) 1 20 [.ref h0, .int p0, .int p1] D ty [(h0, .inr (11, [v0, v1, v2, .ref h1, v3, v4, v5, v6, v7, v8, v9, v10, v11, v12, v13])), (h1, .inr (5, [.ref h2, v14, v15])), (h2, .inr (8, [v16, v17, v18, .int (-1), v19, v20, v21, v22, v23, v24, v25, v26, v27, v28, v29, v30, v31, v32]))] sz (qI (fun (r : Int32) (u : va_W) => ((((((p0 < 0)) ∨ ((¬ (p0 < 0)) ∧ (2 ≤ p0)))) ∨ (((¬ (p0 < 0)) ∧ (¬ (2 ≤ p0))) ∧ (p1 < 0)) ∨ (((¬ (p0 < 0)) ∧ (¬ (2 ≤ p0))) ∧ (¬ (p1 < 0)) ∧ (¬ (p1 ≤ 9999)))) ∧ (-2) = r ∧ [] = u) ∨ ((((¬ (p0 < 0)) ∧ (¬ (2 ≤ p0))) ∧ (¬ (p1 < 0)) ∧ (p1 ≤ 9999)) ∧ (-6) = r ∧ [] = u))) 0 0 := by
  refine cQ.of (by decide) (Nat.le_of_ble_eq_true rfl) (fun p e s m below meth c A ls C hsz hP hK hD hA hl => ?_)
  obtain ⟨hx, hb, hml, hown, hB, hr, hlocks, hin⟩ := C
  have hown : s.vm.findClass RX11 = some m.cls := hown
  have hS : va_S A s.heap s.heap [] := va_S.rf
  have hl : lv_has ls 5 [(0, .ref h0), (1, .int p0), (2, .int p1)] := hl
  refine lv_iload_n hx hb dX11_reach_0 rfl (lv_at hl 1 rfl) ?_
  refine kc_i (va_runS (As := [.int p0]) (rest := []) ⟨hx, hb, hml, hown, hB⟩ (c38_X11_isGiving l D ty s.heap.size p0) (va_cwS 1 hB (bw_S mw_253 mw_254 mw_216 mw_252) rfl rfl rfl (by decide +kernel) ⟨Nat.le_of_ble_eq_true rfl, Nat.le_of_ble_eq_true rfl⟩) (kp_S hK hP hD [] (by decide) rfl) rfl rfl hl.1 rfl (lv_room (Nat.le_of_ble_eq_true rfl)) dX11_reach_1 ⟨Nat.le_of_ble_eq_true rfl, Nat.le_of_ble_eq_true rfl⟩) hP hD hS hA [] [0, 1, 2] (wr := [(h0, .inr (11, [v0, v1, v2, .ref h1, v3, v4, v5, v6, v7, v8, v9, v10, v11, v12, v13])), (h1, .inr (5, [.ref h2, v14, v15])), (h2, .inr (8, [v16, v17, v18, .int (-1), v19, v20, v21, v22, v23, v24, v25, v26, v27, v28, v29, v30, v31, v32]))]) rfl rfl (by decide) (by decide) (fun r u H locs w1 hP hD hS => ?_)
  rcases w1 with ⟨c2, rfl, rfl⟩ | ⟨c3, rfl, rfl⟩
  · have hP : va_P D vwCl [(h0, .inr (11, [v0, v1, v2, .ref h1, v3, v4, v5, v6, v7, v8, v9, v10, v11, v12, v13])), (h1, .inr (5, [.ref h2, v14, v15])), (h2, .inr (8, [v16, v17, v18, .int (-1), v19, v20, v21, v22, v23, v24, v25, v26, v27, v28, v29, v30, v31, v32]))] H := hP
    have hD : va_D A [(h0, .inr (11, [v0, v1, v2, .ref h1, v3, v4, v5, v6, v7, v8, v9, v10, v11, v12, v13])), (h1, .inr (5, [.ref h2, v14, v15])), (h2, .inr (8, [v16, v17, v18, .int (-1), v19, v20, v21, v22, v23, v24, v25, v26, v27, v28, v29, v30, v31, v32]))] := hD
    refine lv_if_eq (tgt := 18) hx hb dX11_reach_4 (by decide) (fun _ => ?_) (fun h9 => absurd (by decide) h9)
    refine lv_bipush (v := (-2)) hx hb dX11_reach_18 (by decide) ?_
    exact kr_z hx hb hr rfl hlocks hP hD hS [] [] (by decide) rfl (Or.inl ⟨(Or.inl c2), rfl, rfl⟩) (by decide) (by decide) dX11_reach_20
  · have hP : va_P D vwCl [(h0, .inr (11, [v0, v1, v2, .ref h1, v3, v4, v5, v6, v7, v8, v9, v10, v11, v12, v13])), (h1, .inr (5, [.ref h2, v14, v15])), (h2, .inr (8, [v16, v17, v18, .int (-1), v19, v20, v21, v22, v23, v24, v25, v26, v27, v28, v29, v30, v31, v32]))] H := hP
    have hD : va_D A [(h0, .inr (11, [v0, v1, v2, .ref h1, v3, v4, v5, v6, v7, v8, v9, v10, v11, v12, v13])), (h1, .inr (5, [.ref h2, v14, v15])), (h2, .inr (8, [v16, v17, v18, .int (-1), v19, v20, v21, v22, v23, v24, v25, v26, v27, v28, v29, v30, v31, v32]))] := hD
    refine lv_if_eq (tgt := 18) hx hb dX11_reach_4 (by decide) (fun h9 => absurd h9 (by decide)) (fun _ => ?_)
    refine lv_iload_n hx hb dX11_reach_7 rfl (lv_at hl 2 rfl) ?_
    refine lv_if_lt (tgt := 18) hx hb dX11_reach_8 (by decide) (fun c4 => ?_) (fun c4 => ?_)
    · refine lv_bipush (v := (-2)) hx hb dX11_reach_18 (by decide) ?_
      exact kr_z hx hb hr rfl hlocks hP hD hS [] [] (by decide) rfl (Or.inl ⟨(Or.inr (Or.inl ⟨c3, c4⟩)), rfl, rfl⟩) (by decide) (by decide) dX11_reach_20
    · refine lv_iload_n hx hb dX11_reach_11 rfl (lv_at hl 2 rfl) ?_
      refine lv_sipush (v := 9999) hx hb dX11_reach_12 (by decide) ?_
      refine lv_icmp_le (tgt := 21) hx hb dX11_reach_15 (by decide) (fun c5 => ?_) (fun c5 => ?_)
      · refine lv_aload_n hx hb dX11_reach_21 rfl (lv_at hl 0 rfl) ?_
        refine va_get (D := D) (ci := 11) (v := .ref h1) (C := RX11) (T := TX11) (N := 15) hx hb hB inB_X11 hown hK.1 hP 0 rfl rfl 3 (by decide) (hB _ mw_85) (fun _ h9 => h9) rfl dX11_reach_22 ?_
        refine va_get (D := D) (ci := 5) (v := .ref h2) (C := RX5) (T := TX5) (N := 3) hx hb hB inB_X5 hown hK.1 hP 1 rfl rfl 0 (by decide) (hB _ mw_150) (fun _ h9 => h9) rfl dX11_reach_25 ?_
        refine va_get (D := D) (ci := 8) (v := .int (-1)) (C := RX8) (T := TX8) (N := 18) hx hb hB inB_X8 hown hK.1 hP 2 rfl rfl 3 (by decide) (hB _ mw_378) (fun _ h9 => h9) rfl dX11_reach_28 ?_
        refine lv_iconst (v := (-1)) hx hb dX11_reach_31 (by decide) ?_
        refine lv_icmp_ne (tgt := 38) hx hb dX11_reach_32 (by decide) (fun h9 => absurd (by decide) h9) (fun _ => ?_)
        refine lv_bipush (v := (-6)) hx hb dX11_reach_35 (by decide) ?_
        exact kr_z hx hb hr rfl hlocks hP hD hS [] [] (by decide) rfl (Or.inr ⟨⟨c3, c4, c5⟩, rfl, rfl⟩) (by decide) (by decide) dX11_reach_37
      · refine lv_bipush (v := (-2)) hx hb dX11_reach_18 (by decide) ?_
        exact kr_z hx hb hr rfl hlocks hP hD hS [] [] (by decide) rfl (Or.inl ⟨(Or.inr (Or.inr ⟨c3, c4, c5⟩)), rfl, rfl⟩) (by decide) (by decide) dX11_reach_20
set_option maxHeartbeats 4000000 in
set_option maxRecDepth 100000 in
theorem c105_X11_afternoon (l : Launch) (D : va_G) (ty : Nat → ClassId) (sz : Nat) (h0 : Nat) (h1 : Nat) (h2 : Nat) (h3 : Nat) (h4 : Nat) (h5 : Nat) (h6 : Nat) (p0 : Int32) (v0 : Value) (v1 : Value) (v2 : Value) (v3 : Value) (v4 : Value) (v5 : Value) (v6 : Value) (v7 : Value) (v8 : Value) (v9 : Value) (v10 : Value) (v11 : Value) (v12 : Value) (v13 : Value) (h7 : Nat) (h8 : Nat) (v14 : Value) (v15 : Value) (v16 : Value) (v17 : Value) (v18 : Value) (v19 : Value) (v20 : Value) (v21 : Value) (v22 : Value) (v23 : Value) (v24 : Value) (v25 : Value) (v26 : Value) (v27 : Value) (v28 : Value) (v29 : Value) (v30 : Value) (v31 : Value) (v32 : Value) (v33 : Value) (f0 : Nat → Int32) (f1 : Nat → Int32) : cQ l yX11_afternoon cX11_afternoon 3 (some .int) 4 93 [.ref h0, .int p0] D ty [(h0, .inr (11, [v0, v1, v2, .ref h1, v3, v4, .ref h4, v5, v6, v7, v8, v9, v10, v11, v12])), (h1, .inr (5, [.ref h3, .ref h2, v13])), (h2, .inl (ty 6, 2, .inr (.inr (.inr (.inr (wy2 h7 h8)))))), (h3, .inr (8, [v14, .int 2, .int 0, v15, v16, v17, v18, v19, v20, v21, v22, v23, v24, v25, v26, v27, v28, v29])), (h4, .inr (2, [v30, v31, v32, .ref h5, .ref h6, v33])), (h5, .inl (ty 1, 16, .inl f0)), (h6, .inl (ty 1, 16, .inl f1))] sz (qI (fun (r : Int32) (u : va_W) => ((((p0 < 0)) ∨ ((¬ (p0 < 0)) ∧ (¬ (p0 ≤ 2)))) ∧ (-2) = r ∧ [] = u) ∨ (((¬ (p0 < 0)) ∧ (p0 ≤ 2)) ∧ (-5) = r ∧ [] = u))) 0 0 := by
  refine cQ.of (by decide) (Nat.le_of_ble_eq_true rfl) (fun p e s m below meth c A ls C hsz hP hK hD hA hl => ?_)
  obtain ⟨hx, hb, hml, hown, hB, hr, hlocks, hin⟩ := C
  have hown : s.vm.findClass RX11 = some m.cls := hown
  have hS : va_S A s.heap s.heap [] := va_S.rf
  have hl : lv_has ls 3 [(0, .ref h0), (1, .int p0)] := hl
  refine lv_iload_n hx hb dX11_afternoon_0 rfl (lv_at hl 1 rfl) ?_
  refine lv_if_lt (tgt := 9) hx hb dX11_afternoon_1 (by decide) (fun c1 => ?_) (fun c1 => ?_)
  · refine lv_bipush (v := (-2)) hx hb dX11_afternoon_9 (by decide) ?_
    exact kr_z hx hb hr rfl hlocks hP hD hS [] [] (by decide) rfl (Or.inl ⟨(Or.inl c1), rfl, rfl⟩) (by decide) (by decide) dX11_afternoon_11
  · refine lv_iload_n hx hb dX11_afternoon_4 rfl (lv_at hl 1 rfl) ?_
    refine lv_iconst (v := 2) hx hb dX11_afternoon_5 (by decide) ?_
    refine lv_icmp_le (tgt := 12) hx hb dX11_afternoon_6 (by decide) (fun c2 => ?_) (fun c2 => ?_)
    · refine lv_aload_n hx hb dX11_afternoon_12 rfl (lv_at hl 0 rfl) ?_
      refine lv_iconst (v := 0) hx hb dX11_afternoon_13 (by decide) ?_
      refine kc_i (va_runV (As := [.int 0]) (rest := []) ⟨hx, hb, hml, hown, hB⟩ (c87_X11_isComplete l D ty s.heap.size h0 h1 h2 h3 h4 h5 h6 v0 v1 v2 v3 v4 v5 v6 v7 v8 v9 v10 v11 v12 v13 h7 h8 v14 v15 v16 v17 v18 v19 v20 v21 v22 v23 v24 v25 v26 v27 v28 v29 v30 v31 v32 v33 f0 f1) (cwV 1 hB (bw_V mw_365 mw_366 mw_367 mw_216 mw_364) rfl rfl rfl (by decide +kernel) ⟨Nat.le_of_ble_eq_true rfl, Nat.le_of_ble_eq_true rfl⟩) (kp_V hK hP hD [0, 1, 2, 3, 4, 5, 6] (by decide) rfl 0 rfl rfl rfl) rfl rfl hl.1 rfl (lv_room (Nat.le_of_ble_eq_true rfl)) dX11_afternoon_14 ⟨Nat.le_of_ble_eq_true rfl, Nat.le_of_ble_eq_true rfl⟩) hP hD hS hA [0, 1, 2, 3, 4, 5, 6] [] (wr := []) rfl rfl (by decide) (by decide) (fun r u H locs w3 hP hD hS => ?_)
      obtain ⟨rfl, rfl⟩ := w3
      have hP : va_P D vwCl [(h0, .inr (11, [v0, v1, v2, .ref h1, v3, v4, .ref h4, v5, v6, v7, v8, v9, v10, v11, v12])), (h1, .inr (5, [.ref h3, .ref h2, v13])), (h2, .inl (ty 6, 2, .inr (.inr (.inr (.inr (wy2 h7 h8)))))), (h4, .inr (2, [v30, v31, v32, .ref h5, .ref h6, v33])), (h6, .inl (ty 1, 16, .inl (kf 0))), (h3, .inr (8, [v14, .int 2, .int 0, v15, v16, v17, v18, v19, v20, v21, v22, v23, v24, v25, v26, v27, v28, v29])), (h5, .inl (ty 1, 16, .inl (kf 0)))] H := hP
      have hD : va_D A [(h0, .inr (11, [v0, v1, v2, .ref h1, v3, v4, .ref h4, v5, v6, v7, v8, v9, v10, v11, v12])), (h1, .inr (5, [.ref h3, .ref h2, v13])), (h2, .inl (ty 6, 2, .inr (.inr (.inr (.inr (wy2 h7 h8)))))), (h4, .inr (2, [v30, v31, v32, .ref h5, .ref h6, v33])), (h6, .inl (ty 1, 16, .inl (kf 0))), (h3, .inr (8, [v14, .int 2, .int 0, v15, v16, v17, v18, v19, v20, v21, v22, v23, v24, v25, v26, v27, v28, v29])), (h5, .inl (ty 1, 16, .inl (kf 0)))] := hD
      refine lv_if_eq (tgt := 50) hx hb dX11_afternoon_17 (by decide) (fun _ => ?_) (fun h9 => absurd (by decide) h9)
      refine lv_bipush (v := (-5)) hx hb dX11_afternoon_50 (by decide) ?_
      exact kr_z hx hb hr rfl hlocks hP hD hS [] [] (by decide) rfl (Or.inr ⟨⟨c1, c2⟩, rfl, rfl⟩) (by decide) (by decide) dX11_afternoon_52
    · refine lv_bipush (v := (-2)) hx hb dX11_afternoon_9 (by decide) ?_
      exact kr_z hx hb hr rfl hlocks hP hD hS [] [] (by decide) rfl (Or.inl ⟨(Or.inr ⟨c1, c2⟩), rfl, rfl⟩) (by decide) (by decide) dX11_afternoon_11
set_option maxHeartbeats 4000000 in
set_option maxRecDepth 100000 in
theorem c107_X2_sumOf (l : Launch) (D : va_G) (ty : Nat → ClassId) (sz : Nat) (h0 : Nat) (h1 : Nat) (h2 : Nat) (h3 : Nat) (v0 : Value) (v1 : Value) (v2 : Value) (v3 : Value) (v4 : Value) (v5 : Value) (v6 : Value) (v7 : Value) (v8 : Value) (v9 : Value) (v10 : Value) (v11 : Value) (v12 : Value) (v13 : Value) (v14 : Value) (v15 : Value) (v16 : Value) (v17 : Value) (v18 : Value) (v19 : Value) : cQ l yX2_sumOf cX2_sumOf 10 (some .int) 0 0 [.ref h2, .ref h0, .ref h3, .int 1, .int 1000000000] D ty [(h0, .inr (8, [v0, v1, v2, v3, v4, v5, v6, v7, v8, v9, v10, v11, .ref h1, v12, v13, v14, v15, v16])), (h1, .inr (1, [.int 0, v17, v18, v19]))] sz (qI (fun (r : Int32) (u : va_W) => 0 = r ∧ [(h0, .inr (8, [v0, v1, v2, v3, v4, v5, v6, v7, v8, v9, v10, v11, .ref h1, v12, v13, v14, v15, v16])), (h1, .inr (1, [.int 0, v17, v18, v19]))] = u)) 0 0 := by
  refine cQ.of (by decide) (Nat.le_of_ble_eq_true rfl) (fun p e s m below meth c A ls C hsz hP hK hD hA hl => ?_)
  obtain ⟨hx, hb, hml, hown, hB, hr, hlocks, hin⟩ := C
  have hown : s.vm.findClass RX2 = some m.cls := hown
  have hS : va_S A s.heap s.heap [] := va_S.rf
  have hl : lv_has ls 10 [(0, .ref h2), (1, .ref h0), (2, .ref h3), (3, .int 1), (4, .int 1000000000)] := hl
  refine lv_iconst (v := 0) hx hb dX2_sumOf_0 (by decide) ?_
  refine lv_istore (lv' := [(5, .int 0), (0, .ref h2), (1, .ref h0), (2, .ref h3), (3, .int 1), (4, .int 1000000000)]) hx hb dX2_sumOf_1 hl (by decide) rfl (fun ls hl => ?_)
  refine lv_iconst (v := 0) hx hb dX2_sumOf_3 (by decide) ?_
  refine lv_istore (lv' := [(6, .int 0), (5, .int 0), (0, .ref h2), (1, .ref h0), (2, .ref h3), (3, .int 1), (4, .int 1000000000)]) hx hb dX2_sumOf_4 hl (by decide) rfl (fun ls hl => ?_)
  refine lv_iload hx hb dX2_sumOf_6 (lv_at hl 0 rfl) ?_
  refine lv_aload_n hx hb dX2_sumOf_8 rfl (lv_at hl 3 rfl) ?_
  refine va_get (D := D) (ci := 8) (v := .ref h1) (C := RX8) (T := TX8) (N := 18) hx hb hB inB_X8 hown hK.1 hP 0 rfl rfl 12 (by decide) (hB _ mw_328) (fun _ h9 => h9) rfl dX2_sumOf_9 ?_
  refine va_get (D := D) (ci := 1) (v := .int 0) (C := RX1) (T := TX1) (N := 4) hx hb hB inB_X1 hown hK.1 hP 1 rfl rfl 0 (by decide) (hB _ mw_329) (fun _ h9 => h9) rfl dX2_sumOf_12 ?_
  refine lv_icmp_ge (tgt := 135) hx hb dX2_sumOf_15 (by decide) (fun _ => ?_) (fun h9 => absurd (by decide) h9)
  refine lv_iload hx hb dX2_sumOf_135 (lv_at hl 1 rfl) ?_
  exact kr_z hx hb hr rfl hlocks hP hD hS [(h0, .inr (8, [v0, v1, v2, v3, v4, v5, v6, v7, v8, v9, v10, v11, .ref h1, v12, v13, v14, v15, v16])), (h1, .inr (1, [.int 0, v17, v18, v19]))] [0, 1] (by decide) rfl ⟨rfl, rfl⟩ (by decide) (by decide) dX2_sumOf_137
set_option maxHeartbeats 4000000 in
set_option maxRecDepth 100000 in
theorem c106_X11_sumBack (l : Launch) (D : va_G) (ty : Nat → ClassId) (sz : Nat) (h0 : Nat) (h1 : Nat) (h2 : Nat) (h3 : Nat) (h4 : Nat) (h5 : Nat) (p0 : Int32) (v0 : Value) (v1 : Value) (v2 : Value) (v3 : Value) (v4 : Value) (v5 : Value) (v6 : Value) (v7 : Value) (v8 : Value) (v9 : Value) (v10 : Value) (v11 : Value) (v12 : Value) (v13 : Value) (h6 : Nat) (h7 : Nat) (v14 : Value) (v15 : Value) (v16 : Value) (v17 : Value) (v18 : Value) (v19 : Value) (v20 : Value) (v21 : Value) (v22 : Value) (v23 : Value) (v24 : Value) (v25 : Value) (v26 : Value) (v27 : Value) (v28 : Value) (v29 : Value) (v30 : Value) (v31 : Value) (v32 : Value) (v33 : Value) (v34 : Value) (v35 : Value) (v36 : Value) (v37 : Value) (v38 : Value) (v39 : Value) : cQ l yX11_sumBack cX11_sumBack 2 (some .int) 1 29 [.ref h0, .int p0] D ty [(h0, .inr (11, [v0, v1, v2, .ref h1, v3, v4, .ref h3, v5, v6, v7, v8, v9, v10, v11, v12])), (h1, .inr (5, [.ref h4, .ref h2, v13])), (h2, .inl (ty 6, 2, .inr (.inr (.inr (.inr (wy2 h6 h7)))))), (h3, .inr (2, [v14, v15, v16, v17, v18, v19])), (h4, .inr (8, [v20, v21, v22, v23, v24, v25, v26, v27, v28, v29, v30, v31, .ref h5, v32, v33, v34, v35, v36])), (h5, .inr (1, [.int 0, v37, v38, v39]))] sz (qI (fun (r : Int32) (u : va_W) => (((((p0 < 0)) ∨ ((¬ (p0 < 0)) ∧ (2 ≤ p0)))) ∧ (-2) = r ∧ [] = u) ∨ (((((¬ (p0 < 0)) ∧ (¬ (2 ≤ p0))) ∧ (p0 = 0)) ∨ (((¬ (p0 < 0)) ∧ (¬ (2 ≤ p0))) ∧ (p0 = 1))) ∧ 0 = r ∧ [] = u))) 0 0 := by
  refine cQ.of (by decide) (Nat.le_of_ble_eq_true rfl) (fun p e s m below meth c A ls C hsz hP hK hD hA hl => ?_)
  obtain ⟨hx, hb, hml, hown, hB, hr, hlocks, hin⟩ := C
  have hown : s.vm.findClass RX11 = some m.cls := hown
  have hS : va_S A s.heap s.heap [] := va_S.rf
  have hl : lv_has ls 2 [(0, .ref h0), (1, .int p0)] := hl
  refine lv_iload_n hx hb dX11_sumBack_0 rfl (lv_at hl 1 rfl) ?_
  refine kc_i (va_runS (As := [.int p0]) (rest := []) ⟨hx, hb, hml, hown, hB⟩ (c38_X11_isGiving l D ty s.heap.size p0) (va_cwS 1 hB (bw_S mw_253 mw_254 mw_216 mw_252) rfl rfl rfl (by decide +kernel) ⟨Nat.le_of_ble_eq_true rfl, Nat.le_of_ble_eq_true rfl⟩) (kp_S hK hP hD [] (by decide) rfl) rfl rfl hl.1 rfl (lv_room (Nat.le_of_ble_eq_true rfl)) dX11_sumBack_1 ⟨Nat.le_of_ble_eq_true rfl, Nat.le_of_ble_eq_true rfl⟩) hP hD hS hA [] [0, 1, 2, 3, 4, 5] (wr := [(h0, .inr (11, [v0, v1, v2, .ref h1, v3, v4, .ref h3, v5, v6, v7, v8, v9, v10, v11, v12])), (h1, .inr (5, [.ref h4, .ref h2, v13])), (h2, .inl (ty 6, 2, .inr (.inr (.inr (.inr (wy2 h6 h7)))))), (h3, .inr (2, [v14, v15, v16, v17, v18, v19])), (h4, .inr (8, [v20, v21, v22, v23, v24, v25, v26, v27, v28, v29, v30, v31, .ref h5, v32, v33, v34, v35, v36])), (h5, .inr (1, [.int 0, v37, v38, v39]))]) rfl rfl (by decide) (by decide) (fun r u H locs w1 hP hD hS => ?_)
  rcases w1 with ⟨c2, rfl, rfl⟩ | ⟨c3, rfl, rfl⟩
  · have hP : va_P D vwCl [(h0, .inr (11, [v0, v1, v2, .ref h1, v3, v4, .ref h3, v5, v6, v7, v8, v9, v10, v11, v12])), (h1, .inr (5, [.ref h4, .ref h2, v13])), (h2, .inl (ty 6, 2, .inr (.inr (.inr (.inr (wy2 h6 h7)))))), (h3, .inr (2, [v14, v15, v16, v17, v18, v19])), (h4, .inr (8, [v20, v21, v22, v23, v24, v25, v26, v27, v28, v29, v30, v31, .ref h5, v32, v33, v34, v35, v36])), (h5, .inr (1, [.int 0, v37, v38, v39]))] H := hP
    have hD : va_D A [(h0, .inr (11, [v0, v1, v2, .ref h1, v3, v4, .ref h3, v5, v6, v7, v8, v9, v10, v11, v12])), (h1, .inr (5, [.ref h4, .ref h2, v13])), (h2, .inl (ty 6, 2, .inr (.inr (.inr (.inr (wy2 h6 h7)))))), (h3, .inr (2, [v14, v15, v16, v17, v18, v19])), (h4, .inr (8, [v20, v21, v22, v23, v24, v25, v26, v27, v28, v29, v30, v31, .ref h5, v32, v33, v34, v35, v36])), (h5, .inr (1, [.int 0, v37, v38, v39]))] := hD
    refine lv_if_eq (tgt := 36) hx hb dX11_sumBack_4 (by decide) (fun _ => ?_) (fun h9 => absurd (by decide) h9)
    refine lv_bipush (v := (-2)) hx hb dX11_sumBack_36 (by decide) ?_
    exact kr_z hx hb hr rfl hlocks hP hD hS [] [] (by decide) rfl (Or.inl ⟨c2, rfl, rfl⟩) (by decide) (by decide) dX11_sumBack_38
  · have hP : va_P D vwCl [(h0, .inr (11, [v0, v1, v2, .ref h1, v3, v4, .ref h3, v5, v6, v7, v8, v9, v10, v11, v12])), (h1, .inr (5, [.ref h4, .ref h2, v13])), (h2, .inl (ty 6, 2, .inr (.inr (.inr (.inr (wy2 h6 h7)))))), (h3, .inr (2, [v14, v15, v16, v17, v18, v19])), (h4, .inr (8, [v20, v21, v22, v23, v24, v25, v26, v27, v28, v29, v30, v31, .ref h5, v32, v33, v34, v35, v36])), (h5, .inr (1, [.int 0, v37, v38, v39]))] H := hP
    have hD : va_D A [(h0, .inr (11, [v0, v1, v2, .ref h1, v3, v4, .ref h3, v5, v6, v7, v8, v9, v10, v11, v12])), (h1, .inr (5, [.ref h4, .ref h2, v13])), (h2, .inl (ty 6, 2, .inr (.inr (.inr (.inr (wy2 h6 h7)))))), (h3, .inr (2, [v14, v15, v16, v17, v18, v19])), (h4, .inr (8, [v20, v21, v22, v23, v24, v25, v26, v27, v28, v29, v30, v31, .ref h5, v32, v33, v34, v35, v36])), (h5, .inr (1, [.int 0, v37, v38, v39]))] := hD
    refine lv_if_eq (tgt := 36) hx hb dX11_sumBack_4 (by decide) (fun h9 => absurd h9 (by decide)) (fun _ => ?_)
    refine lv_aload_n hx hb dX11_sumBack_7 rfl (lv_at hl 0 rfl) ?_
    refine va_get (D := D) (ci := 11) (v := .ref h3) (C := RX11) (T := TX11) (N := 15) hx hb hB inB_X11 hown hK.1 hP 0 rfl rfl 6 (by decide) (hB _ mw_102) (fun _ h9 => h9) rfl dX11_sumBack_8 ?_
    refine lv_aload_n hx hb dX11_sumBack_11 rfl (lv_at hl 0 rfl) ?_
    refine va_get (D := D) (ci := 11) (v := .ref h1) (C := RX11) (T := TX11) (N := 15) hx hb hB inB_X11 hown hK.1 hP 0 rfl rfl 3 (by decide) (hB _ mw_85) (fun _ h9 => h9) rfl dX11_sumBack_12 ?_
    refine va_get (D := D) (ci := 5) (v := .ref h4) (C := RX5) (T := TX5) (N := 3) hx hb hB inB_X5 hown hK.1 hP 1 rfl rfl 0 (by decide) (hB _ mw_150) (fun _ h9 => h9) rfl dX11_sumBack_15 ?_
    refine lv_aload_n hx hb dX11_sumBack_18 rfl (lv_at hl 0 rfl) ?_
    refine va_get (D := D) (ci := 11) (v := .ref h1) (C := RX11) (T := TX11) (N := 15) hx hb hB inB_X11 hown hK.1 hP 0 rfl rfl 3 (by decide) (hB _ mw_85) (fun _ h9 => h9) rfl dX11_sumBack_19 ?_
    refine va_get (D := D) (ci := 5) (v := .ref h2) (C := RX5) (T := TX5) (N := 3) hx hb hB inB_X5 hown hK.1 hP 1 rfl rfl 1 (by decide) (hB _ mw_267) (fun _ h9 => h9) rfl dX11_sumBack_22 ?_
    refine lv_iload_n hx hb dX11_sumBack_25 rfl (lv_at hl 1 rfl) ?_
    rcases ps_2 p0 c3 with rfl | rfl
    · refine va_aldA hx hb hK.1 hP 2 6 rfl rfl (by unfold vp_in; decide) dX11_sumBack_26 ?_
      refine tp_v (v := .ref h6) rfl ?_
      refine lv_iconst (v := 1) hx hb dX11_sumBack_27 (by decide) ?_
      refine lv_ldc hx hb hown (hB _ mw_327) dX11_sumBack_28 ?_
      refine kc_i (va_runV (As := [.ref h4, .ref h6, .int 1, .int 1000000000]) (rest := []) ⟨hx, hb, hml, hown, hB⟩ (c107_X2_sumOf l D ty H.size h4 h5 h3 h6 v20 v21 v22 v23 v24 v25 v26 v27 v28 v29 v30 v31 v32 v33 v34 v35 v36 v37 v38 v39) (cwV 4 hB (bw_V mw_331 mw_332 mw_333 mw_92 mw_330) rfl rfl rfl (by decide +kernel) ⟨Nat.le_of_ble_eq_true rfl, Nat.le_of_ble_eq_true rfl⟩) (kp_V hK hP hD [4, 5] (by decide) rfl 3 rfl rfl rfl) rfl rfl hl.1 rfl (lv_room (Nat.le_of_ble_eq_true rfl)) dX11_sumBack_30 ⟨Nat.le_of_ble_eq_true rfl, Nat.le_of_ble_eq_true rfl⟩) hP hD hS hA [4, 5] [0, 1, 2, 3] (wr := [(h0, .inr (11, [v0, v1, v2, .ref h1, v3, v4, .ref h3, v5, v6, v7, v8, v9, v10, v11, v12])), (h1, .inr (5, [.ref h4, .ref h2, v13])), (h2, .inl (ty 6, 2, .inr (.inr (.inr (.inr (wy2 h6 h7)))))), (h3, .inr (2, [v14, v15, v16, v17, v18, v19]))]) rfl rfl (by decide) (by decide) (fun r u H locs w4 hP hD hS => ?_)
      obtain ⟨rfl, rfl⟩ := w4
      have hP : va_P D vwCl [(h0, .inr (11, [v0, v1, v2, .ref h1, v3, v4, .ref h3, v5, v6, v7, v8, v9, v10, v11, v12])), (h1, .inr (5, [.ref h4, .ref h2, v13])), (h2, .inl (ty 6, 2, .inr (.inr (.inr (.inr (wy2 h6 h7)))))), (h3, .inr (2, [v14, v15, v16, v17, v18, v19])), (h4, .inr (8, [v20, v21, v22, v23, v24, v25, v26, v27, v28, v29, v30, v31, .ref h5, v32, v33, v34, v35, v36])), (h5, .inr (1, [.int 0, v37, v38, v39]))] H := hP
      have hD : va_D A [(h0, .inr (11, [v0, v1, v2, .ref h1, v3, v4, .ref h3, v5, v6, v7, v8, v9, v10, v11, v12])), (h1, .inr (5, [.ref h4, .ref h2, v13])), (h2, .inl (ty 6, 2, .inr (.inr (.inr (.inr (wy2 h6 h7)))))), (h3, .inr (2, [v14, v15, v16, v17, v18, v19])), (h4, .inr (8, [v20, v21, v22, v23, v24, v25, v26, v27, v28, v29, v30, v31, .ref h5, v32, v33, v34, v35, v36])), (h5, .inr (1, [.int 0, v37, v38, v39]))] := hD
      refine lv_goto (tgt := 38) hx hb dX11_sumBack_33 (by decide) ?_
      exact kr_z hx hb hr rfl hlocks hP hD hS [] [] (by decide) rfl (Or.inr ⟨(Or.inl ⟨c3, rfl⟩), rfl, rfl⟩) (by decide) (by decide) dX11_sumBack_38
    · refine va_aldA hx hb hK.1 hP 2 6 rfl rfl (by unfold vp_in; decide) dX11_sumBack_26 ?_
      refine tp_v (v := .ref h7) rfl ?_
      refine lv_iconst (v := 1) hx hb dX11_sumBack_27 (by decide) ?_
      refine lv_ldc hx hb hown (hB _ mw_327) dX11_sumBack_28 ?_
      refine kc_i (va_runV (As := [.ref h4, .ref h7, .int 1, .int 1000000000]) (rest := []) ⟨hx, hb, hml, hown, hB⟩ (c107_X2_sumOf l D ty H.size h4 h5 h3 h7 v20 v21 v22 v23 v24 v25 v26 v27 v28 v29 v30 v31 v32 v33 v34 v35 v36 v37 v38 v39) (cwV 4 hB (bw_V mw_331 mw_332 mw_333 mw_92 mw_330) rfl rfl rfl (by decide +kernel) ⟨Nat.le_of_ble_eq_true rfl, Nat.le_of_ble_eq_true rfl⟩) (kp_V hK hP hD [4, 5] (by decide) rfl 3 rfl rfl rfl) rfl rfl hl.1 rfl (lv_room (Nat.le_of_ble_eq_true rfl)) dX11_sumBack_30 ⟨Nat.le_of_ble_eq_true rfl, Nat.le_of_ble_eq_true rfl⟩) hP hD hS hA [4, 5] [0, 1, 2, 3] (wr := [(h0, .inr (11, [v0, v1, v2, .ref h1, v3, v4, .ref h3, v5, v6, v7, v8, v9, v10, v11, v12])), (h1, .inr (5, [.ref h4, .ref h2, v13])), (h2, .inl (ty 6, 2, .inr (.inr (.inr (.inr (wy2 h6 h7)))))), (h3, .inr (2, [v14, v15, v16, v17, v18, v19]))]) rfl rfl (by decide) (by decide) (fun r u H locs w5 hP hD hS => ?_)
      obtain ⟨rfl, rfl⟩ := w5
      have hP : va_P D vwCl [(h0, .inr (11, [v0, v1, v2, .ref h1, v3, v4, .ref h3, v5, v6, v7, v8, v9, v10, v11, v12])), (h1, .inr (5, [.ref h4, .ref h2, v13])), (h2, .inl (ty 6, 2, .inr (.inr (.inr (.inr (wy2 h6 h7)))))), (h3, .inr (2, [v14, v15, v16, v17, v18, v19])), (h4, .inr (8, [v20, v21, v22, v23, v24, v25, v26, v27, v28, v29, v30, v31, .ref h5, v32, v33, v34, v35, v36])), (h5, .inr (1, [.int 0, v37, v38, v39]))] H := hP
      have hD : va_D A [(h0, .inr (11, [v0, v1, v2, .ref h1, v3, v4, .ref h3, v5, v6, v7, v8, v9, v10, v11, v12])), (h1, .inr (5, [.ref h4, .ref h2, v13])), (h2, .inl (ty 6, 2, .inr (.inr (.inr (.inr (wy2 h6 h7)))))), (h3, .inr (2, [v14, v15, v16, v17, v18, v19])), (h4, .inr (8, [v20, v21, v22, v23, v24, v25, v26, v27, v28, v29, v30, v31, .ref h5, v32, v33, v34, v35, v36])), (h5, .inr (1, [.int 0, v37, v38, v39]))] := hD
      refine lv_goto (tgt := 38) hx hb dX11_sumBack_33 (by decide) ?_
      exact kr_z hx hb hr rfl hlocks hP hD hS [] [] (by decide) rfl (Or.inr ⟨(Or.inr ⟨c3, rfl⟩), rfl, rfl⟩) (by decide) (by decide) dX11_sumBack_38
set_option maxHeartbeats 4000000 in
set_option maxRecDepth 100000 in
theorem c109_X2_strollFrom (l : Launch) (D : va_G) (ty : Nat → ClassId) (sz : Nat) (h0 : Nat) (h1 : Nat) (h2 : Nat) (h3 : Nat) (v0 : Value) (v1 : Value) (v2 : Value) (v3 : Value) (v4 : Value) (v5 : Value) (v6 : Value) (v7 : Value) (v8 : Value) (v9 : Value) (v10 : Value) (v11 : Value) (v12 : Value) (v13 : Value) (v14 : Value) (v15 : Value) (v16 : Value) : cQ l yX2_strollFrom cX2_strollFrom 8 (some .int) 0 0 [.ref h2, .ref h0, .ref h3, .int 0, .int (-1)] D ty [(h0, .inr (8, [v0, v1, v2, v3, v4, v5, v6, v7, v8, v9, v10, v11, v12, v13, .ref h1, v14, v15, v16])), (h1, .inl (ty 1, 17, .inl (upd (upd (upd (kf 0) 0 0) 1 0) 2 0)))] sz (qI (fun (r : Int32) (u : va_W) => (-1) = r ∧ [(h0, .inr (8, [v0, v1, v2, v3, v4, v5, v6, v7, v8, v9, v10, v11, v12, v13, .ref h1, v14, v15, v16])), (h1, .inl (ty 1, 17, .inl (upd (upd (upd (kf 0) 0 0) 1 0) 2 0)))] = u)) 0 0 := by
  refine cQ.of (by decide) (Nat.le_of_ble_eq_true rfl) (fun p e s m below meth c A ls C hsz hP hK hD hA hl => ?_)
  obtain ⟨hx, hb, hml, hown, hB, hr, hlocks, hin⟩ := C
  have hown : s.vm.findClass RX2 = some m.cls := hown
  have hS : va_S A s.heap s.heap [] := va_S.rf
  have hl : lv_has ls 8 [(0, .ref h2), (1, .ref h0), (2, .ref h3), (3, .int 0), (4, .int (-1))] := hl
  refine lv_iconst (v := (-1)) hx hb dX2_strollFrom_0 (by decide) ?_
  refine lv_istore (lv' := [(5, .int (-1)), (0, .ref h2), (1, .ref h0), (2, .ref h3), (3, .int 0), (4, .int (-1))]) hx hb dX2_strollFrom_1 hl (by decide) rfl (fun ls hl => ?_)
  refine lv_aload_n hx hb dX2_strollFrom_3 rfl (lv_at hl 2 rfl) ?_
  refine va_get (D := D) (ci := 8) (v := .ref h1) (C := RX8) (T := TX8) (N := 18) hx hb hB inB_X8 hown hK.1 hP 0 rfl rfl 14 (by decide) (hB _ mw_166) (fun _ h9 => h9) rfl dX2_strollFrom_4 ?_
  refine lv_iload_n hx hb dX2_strollFrom_7 rfl (lv_at hl 4 rfl) ?_
  refine va_iald hx hb hK.1 hP 1 1 rfl rfl (by unfold vp_in; decide) dX2_strollFrom_8 ?_
  refine tp_i (v := 0) rfl ?_
  refine lv_istore (lv' := [(6, .int 0), (5, .int (-1)), (0, .ref h2), (1, .ref h0), (2, .ref h3), (3, .int 0), (4, .int (-1))]) hx hb dX2_strollFrom_9 hl (by decide) rfl (fun ls hl => ?_)
  refine lv_iload hx hb dX2_strollFrom_11 (lv_at hl 0 rfl) ?_
  refine lv_aload_n hx hb dX2_strollFrom_13 rfl (lv_at hl 3 rfl) ?_
  refine va_get (D := D) (ci := 8) (v := .ref h1) (C := RX8) (T := TX8) (N := 18) hx hb hB inB_X8 hown hK.1 hP 0 rfl rfl 14 (by decide) (hB _ mw_166) (fun _ h9 => h9) rfl dX2_strollFrom_14 ?_
  refine lv_iload_n hx hb dX2_strollFrom_17 rfl (lv_at hl 5 rfl) ?_
  refine lv_iconst (v := 1) hx hb dX2_strollFrom_18 (by decide) ?_
  refine lv_iadd hx hb dX2_strollFrom_19 ?_
  refine tp_i (v := 1) (by decide) ?_
  refine va_iald hx hb hK.1 hP 1 1 rfl rfl (by unfold vp_in; decide) dX2_strollFrom_20 ?_
  refine tp_i (v := 0) rfl ?_
  refine lv_icmp_ge (tgt := 64) hx hb dX2_strollFrom_21 (by decide) (fun _ => ?_) (fun h9 => absurd (by decide) h9)
  refine lv_iload hx hb dX2_strollFrom_64 (lv_at hl 1 rfl) ?_
  exact kr_z hx hb hr rfl hlocks hP hD hS [(h0, .inr (8, [v0, v1, v2, v3, v4, v5, v6, v7, v8, v9, v10, v11, v12, v13, .ref h1, v14, v15, v16])), (h1, .inl (ty 1, 17, .inl (upd (upd (upd (kf 0) 0 0) 1 0) 2 0)))] [0, 1] (by decide) rfl ⟨rfl, rfl⟩ (by decide) (by decide) dX2_strollFrom_66
set_option maxHeartbeats 4000000 in
set_option maxRecDepth 100000 in
theorem c110_X2_strollFrom (l : Launch) (D : va_G) (ty : Nat → ClassId) (sz : Nat) (h0 : Nat) (h1 : Nat) (h2 : Nat) (h3 : Nat) (v0 : Value) (v1 : Value) (v2 : Value) (v3 : Value) (v4 : Value) (v5 : Value) (v6 : Value) (v7 : Value) (v8 : Value) (v9 : Value) (v10 : Value) (v11 : Value) (v12 : Value) (v13 : Value) (v14 : Value) (v15 : Value) (v16 : Value) : cQ l yX2_strollFrom cX2_strollFrom 8 (some .int) 0 0 [.ref h2, .ref h0, .ref h3, .int 1, .int (-1)] D ty [(h0, .inr (8, [v0, v1, v2, v3, v4, v5, v6, v7, v8, v9, v10, v11, v12, v13, .ref h1, v14, v15, v16])), (h1, .inl (ty 1, 17, .inl (upd (upd (upd (kf 0) 0 0) 1 0) 2 0)))] sz (qI (fun (r : Int32) (u : va_W) => (-1) = r ∧ [(h0, .inr (8, [v0, v1, v2, v3, v4, v5, v6, v7, v8, v9, v10, v11, v12, v13, .ref h1, v14, v15, v16])), (h1, .inl (ty 1, 17, .inl (upd (upd (upd (kf 0) 0 0) 1 0) 2 0)))] = u)) 0 0 := by
  refine cQ.of (by decide) (Nat.le_of_ble_eq_true rfl) (fun p e s m below meth c A ls C hsz hP hK hD hA hl => ?_)
  obtain ⟨hx, hb, hml, hown, hB, hr, hlocks, hin⟩ := C
  have hown : s.vm.findClass RX2 = some m.cls := hown
  have hS : va_S A s.heap s.heap [] := va_S.rf
  have hl : lv_has ls 8 [(0, .ref h2), (1, .ref h0), (2, .ref h3), (3, .int 1), (4, .int (-1))] := hl
  refine lv_iconst (v := (-1)) hx hb dX2_strollFrom_0 (by decide) ?_
  refine lv_istore (lv' := [(5, .int (-1)), (0, .ref h2), (1, .ref h0), (2, .ref h3), (3, .int 1), (4, .int (-1))]) hx hb dX2_strollFrom_1 hl (by decide) rfl (fun ls hl => ?_)
  refine lv_aload_n hx hb dX2_strollFrom_3 rfl (lv_at hl 2 rfl) ?_
  refine va_get (D := D) (ci := 8) (v := .ref h1) (C := RX8) (T := TX8) (N := 18) hx hb hB inB_X8 hown hK.1 hP 0 rfl rfl 14 (by decide) (hB _ mw_166) (fun _ h9 => h9) rfl dX2_strollFrom_4 ?_
  refine lv_iload_n hx hb dX2_strollFrom_7 rfl (lv_at hl 4 rfl) ?_
  refine va_iald hx hb hK.1 hP 1 1 rfl rfl (by unfold vp_in; decide) dX2_strollFrom_8 ?_
  refine tp_i (v := 0) rfl ?_
  refine lv_istore (lv' := [(6, .int 0), (5, .int (-1)), (0, .ref h2), (1, .ref h0), (2, .ref h3), (3, .int 1), (4, .int (-1))]) hx hb dX2_strollFrom_9 hl (by decide) rfl (fun ls hl => ?_)
  refine lv_iload hx hb dX2_strollFrom_11 (lv_at hl 0 rfl) ?_
  refine lv_aload_n hx hb dX2_strollFrom_13 rfl (lv_at hl 3 rfl) ?_
  refine va_get (D := D) (ci := 8) (v := .ref h1) (C := RX8) (T := TX8) (N := 18) hx hb hB inB_X8 hown hK.1 hP 0 rfl rfl 14 (by decide) (hB _ mw_166) (fun _ h9 => h9) rfl dX2_strollFrom_14 ?_
  refine lv_iload_n hx hb dX2_strollFrom_17 rfl (lv_at hl 5 rfl) ?_
  refine lv_iconst (v := 1) hx hb dX2_strollFrom_18 (by decide) ?_
  refine lv_iadd hx hb dX2_strollFrom_19 ?_
  refine tp_i (v := 2) (by decide) ?_
  refine va_iald hx hb hK.1 hP 1 1 rfl rfl (by unfold vp_in; decide) dX2_strollFrom_20 ?_
  refine tp_i (v := 0) rfl ?_
  refine lv_icmp_ge (tgt := 64) hx hb dX2_strollFrom_21 (by decide) (fun _ => ?_) (fun h9 => absurd (by decide) h9)
  refine lv_iload hx hb dX2_strollFrom_64 (lv_at hl 1 rfl) ?_
  exact kr_z hx hb hr rfl hlocks hP hD hS [(h0, .inr (8, [v0, v1, v2, v3, v4, v5, v6, v7, v8, v9, v10, v11, v12, v13, .ref h1, v14, v15, v16])), (h1, .inl (ty 1, 17, .inl (upd (upd (upd (kf 0) 0 0) 1 0) 2 0)))] [0, 1] (by decide) rfl ⟨rfl, rfl⟩ (by decide) (by decide) dX2_strollFrom_66
set_option maxHeartbeats 4000000 in
set_option maxRecDepth 100000 in
theorem c108_X11_walk (l : Launch) (D : va_G) (ty : Nat → ClassId) (sz : Nat) (h0 : Nat) (h1 : Nat) (h2 : Nat) (h3 : Nat) (h4 : Nat) (h5 : Nat) (p0 : Int32) (p1 : Int32) (p2 : Int32) (v0 : Value) (v1 : Value) (v2 : Value) (v3 : Value) (v4 : Value) (v5 : Value) (v6 : Value) (v7 : Value) (v8 : Value) (v9 : Value) (v10 : Value) (v11 : Value) (v12 : Value) (v13 : Value) (v14 : Value) (v15 : Value) (v16 : Value) (v17 : Value) (v18 : Value) (v19 : Value) (v20 : Value) (v21 : Value) (v22 : Value) (v23 : Value) (v24 : Value) (v25 : Value) (v26 : Value) (v27 : Value) (v28 : Value) (v29 : Value) (h6 : Nat) (h7 : Nat) (v30 : Value) (v31 : Value) (v32 : Value) (v33 : Value) (v34 : Value) (v35 : Value) : cQ l yX11_walk cX11_walk 8 (some .int) 1 27 [.ref h0, .int p0, .int p1, .int p2] D ty [(h0, .inr (11, [v0, v1, v2, .ref h1, v3, v4, .ref h4, v5, v6, v7, v8, v9, v10, v11, v12])), (h1, .inr (5, [.ref h2, .ref h3, v13])), (h2, .inr (8, [v14, .int 2, v15, v16, v17, v18, v19, v20, v21, v22, v23, v24, v25, v26, .ref h5, v27, v28, v29])), (h3, .inl (ty 6, 2, .inr (.inr (.inr (.inr (wy2 h6 h7)))))), (h4, .inr (2, [v30, v31, v32, v33, v34, v35])), (h5, .inl (ty 1, 17, .inl (upd (upd (upd (kf 0) 0 0) 1 0) 2 0)))] sz (qI (fun (r : Int32) (u : va_W) => ((((((p0 < 0)) ∨ ((¬ (p0 < 0)) ∧ (2 ≤ p0)))) ∨ (((¬ (p0 < 0)) ∧ (¬ (2 ≤ p0))) ∧ (((p1 < 0)) ∨ ((¬ (p1 < 0)) ∧ (2 ≤ p1)))) ∨ (((¬ (p0 < 0)) ∧ (¬ (2 ≤ p0))) ∧ ((¬ (p1 < 0)) ∧ (¬ (2 ≤ p1))) ∧ (p2 < 0)) ∨ (((¬ (p0 < 0)) ∧ (¬ (2 ≤ p0))) ∧ ((¬ (p1 < 0)) ∧ (¬ (2 ≤ p1))) ∧ (¬ (p2 < 0)) ∧ (¬ (p2 ≤ 100)))) ∧ (-2) = r ∧ [] = u) ∨ ((((¬ (p0 < 0)) ∧ (¬ (2 ≤ p0))) ∧ ((¬ (p1 < 0)) ∧ (¬ (2 ≤ p1))) ∧ (¬ (p2 < 0)) ∧ (p2 ≤ 100) ∧ (p2 ≤ 0)) ∧ p1 = r ∧ [] = u) ∨ (((((¬ (p0 < 0)) ∧ (¬ (2 ≤ p0))) ∧ ((¬ (p1 < 0)) ∧ (¬ (2 ≤ p1))) ∧ (¬ (p2 < 0)) ∧ (p2 ≤ 100) ∧ (¬ (p2 ≤ 0)) ∧ (p0 = 0) ∧ (p1 = 0)) ∨ (((¬ (p0 < 0)) ∧ (¬ (2 ≤ p0))) ∧ ((¬ (p1 < 0)) ∧ (¬ (2 ≤ p1))) ∧ (¬ (p2 < 0)) ∧ (p2 ≤ 100) ∧ (¬ (p2 ≤ 0)) ∧ (p0 = 1) ∧ (p1 = 0))) ∧ 0 = r ∧ [] = u) ∨ (((((¬ (p0 < 0)) ∧ (¬ (2 ≤ p0))) ∧ ((¬ (p1 < 0)) ∧ (¬ (2 ≤ p1))) ∧ (¬ (p2 < 0)) ∧ (p2 ≤ 100) ∧ (¬ (p2 ≤ 0)) ∧ (p0 = 0) ∧ (p1 = 1)) ∨ (((¬ (p0 < 0)) ∧ (¬ (2 ≤ p0))) ∧ ((¬ (p1 < 0)) ∧ (¬ (2 ≤ p1))) ∧ (¬ (p2 < 0)) ∧ (p2 ≤ 100) ∧ (¬ (p2 ≤ 0)) ∧ (p0 = 1) ∧ (p1 = 1))) ∧ 1 = r ∧ [] = u))) 0 0 := by
  refine cQ.of (by decide) (Nat.le_of_ble_eq_true rfl) (fun p e s m below meth c A ls C hsz hP hK hD hA hl => ?_)
  obtain ⟨hx, hb, hml, hown, hB, hr, hlocks, hin⟩ := C
  have hown : s.vm.findClass RX11 = some m.cls := hown
  have hS : va_S A s.heap s.heap [] := va_S.rf
  have hl : lv_has ls 8 [(0, .ref h0), (1, .int p0), (2, .int p1), (3, .int p2)] := hl
  refine lv_iload_n hx hb dX11_walk_0 rfl (lv_at hl 1 rfl) ?_
  refine kc_i (va_runS (As := [.int p0]) (rest := []) ⟨hx, hb, hml, hown, hB⟩ (c38_X11_isGiving l D ty s.heap.size p0) (va_cwS 1 hB (bw_S mw_253 mw_254 mw_216 mw_252) rfl rfl rfl (by decide +kernel) ⟨Nat.le_of_ble_eq_true rfl, Nat.le_of_ble_eq_true rfl⟩) (kp_S hK hP hD [] (by decide) rfl) rfl rfl hl.1 rfl (lv_room (Nat.le_of_ble_eq_true rfl)) dX11_walk_1 ⟨Nat.le_of_ble_eq_true rfl, Nat.le_of_ble_eq_true rfl⟩) hP hD hS hA [] [0, 1, 2, 3, 4, 5] (wr := [(h0, .inr (11, [v0, v1, v2, .ref h1, v3, v4, .ref h4, v5, v6, v7, v8, v9, v10, v11, v12])), (h1, .inr (5, [.ref h2, .ref h3, v13])), (h2, .inr (8, [v14, .int 2, v15, v16, v17, v18, v19, v20, v21, v22, v23, v24, v25, v26, .ref h5, v27, v28, v29])), (h3, .inl (ty 6, 2, .inr (.inr (.inr (.inr (wy2 h6 h7)))))), (h4, .inr (2, [v30, v31, v32, v33, v34, v35])), (h5, .inl (ty 1, 17, .inl (upd (upd (upd (kf 0) 0 0) 1 0) 2 0)))]) rfl rfl (by decide) (by decide) (fun r u H locs w1 hP hD hS => ?_)
  rcases w1 with ⟨c2, rfl, rfl⟩ | ⟨c3, rfl, rfl⟩
  · have hP : va_P D vwCl [(h0, .inr (11, [v0, v1, v2, .ref h1, v3, v4, .ref h4, v5, v6, v7, v8, v9, v10, v11, v12])), (h1, .inr (5, [.ref h2, .ref h3, v13])), (h2, .inr (8, [v14, .int 2, v15, v16, v17, v18, v19, v20, v21, v22, v23, v24, v25, v26, .ref h5, v27, v28, v29])), (h3, .inl (ty 6, 2, .inr (.inr (.inr (.inr (wy2 h6 h7)))))), (h4, .inr (2, [v30, v31, v32, v33, v34, v35])), (h5, .inl (ty 1, 17, .inl (upd (upd (upd (kf 0) 0 0) 1 0) 2 0)))] H := hP
    have hD : va_D A [(h0, .inr (11, [v0, v1, v2, .ref h1, v3, v4, .ref h4, v5, v6, v7, v8, v9, v10, v11, v12])), (h1, .inr (5, [.ref h2, .ref h3, v13])), (h2, .inr (8, [v14, .int 2, v15, v16, v17, v18, v19, v20, v21, v22, v23, v24, v25, v26, .ref h5, v27, v28, v29])), (h3, .inl (ty 6, 2, .inr (.inr (.inr (.inr (wy2 h6 h7)))))), (h4, .inr (2, [v30, v31, v32, v33, v34, v35])), (h5, .inl (ty 1, 17, .inl (upd (upd (upd (kf 0) 0 0) 1 0) 2 0)))] := hD
    refine lv_if_eq (tgt := 25) hx hb dX11_walk_4 (by decide) (fun _ => ?_) (fun h9 => absurd (by decide) h9)
    refine lv_bipush (v := (-2)) hx hb dX11_walk_25 (by decide) ?_
    exact kr_z hx hb hr rfl hlocks hP hD hS [] [] (by decide) rfl (Or.inl ⟨(Or.inl c2), rfl, rfl⟩) (by decide) (by decide) dX11_walk_27
  · have hP : va_P D vwCl [(h0, .inr (11, [v0, v1, v2, .ref h1, v3, v4, .ref h4, v5, v6, v7, v8, v9, v10, v11, v12])), (h1, .inr (5, [.ref h2, .ref h3, v13])), (h2, .inr (8, [v14, .int 2, v15, v16, v17, v18, v19, v20, v21, v22, v23, v24, v25, v26, .ref h5, v27, v28, v29])), (h3, .inl (ty 6, 2, .inr (.inr (.inr (.inr (wy2 h6 h7)))))), (h4, .inr (2, [v30, v31, v32, v33, v34, v35])), (h5, .inl (ty 1, 17, .inl (upd (upd (upd (kf 0) 0 0) 1 0) 2 0)))] H := hP
    have hD : va_D A [(h0, .inr (11, [v0, v1, v2, .ref h1, v3, v4, .ref h4, v5, v6, v7, v8, v9, v10, v11, v12])), (h1, .inr (5, [.ref h2, .ref h3, v13])), (h2, .inr (8, [v14, .int 2, v15, v16, v17, v18, v19, v20, v21, v22, v23, v24, v25, v26, .ref h5, v27, v28, v29])), (h3, .inl (ty 6, 2, .inr (.inr (.inr (.inr (wy2 h6 h7)))))), (h4, .inr (2, [v30, v31, v32, v33, v34, v35])), (h5, .inl (ty 1, 17, .inl (upd (upd (upd (kf 0) 0 0) 1 0) 2 0)))] := hD
    refine lv_if_eq (tgt := 25) hx hb dX11_walk_4 (by decide) (fun h9 => absurd h9 (by decide)) (fun _ => ?_)
    refine lv_aload_n hx hb dX11_walk_7 rfl (lv_at hl 0 rfl) ?_
    refine lv_iload_n hx hb dX11_walk_8 rfl (lv_at hl 2 rfl) ?_
    refine kc_i (va_runV (As := [.int p1]) (rest := []) ⟨hx, hb, hml, hown, hB⟩ (c63_X11_isCorner l D ty H.size h0 h1 h2 p1 v0 v1 v2 v3 v4 (.ref h4) v5 v6 v7 v8 v9 v10 v11 v12 (.ref h3) v13 v14 v15 v16 v17 v18 v19 v20 v21 v22 v23 v24 v25 v26 (.ref h5) v27 v28 v29) (cwV 1 hB (bw_V mw_310 mw_311 mw_312 mw_216 mw_309) rfl rfl rfl (by decide +kernel) ⟨Nat.le_of_ble_eq_true rfl, Nat.le_of_ble_eq_true rfl⟩) (kp_V hK hP hD [0, 1, 2] (by decide) rfl 0 rfl rfl rfl) rfl rfl hl.1 rfl (lv_room (Nat.le_of_ble_eq_true rfl)) dX11_walk_9 ⟨Nat.le_of_ble_eq_true rfl, Nat.le_of_ble_eq_true rfl⟩) hP hD hS hA [0, 1, 2] [3, 4, 5] (wr := [(h3, .inl (ty 6, 2, .inr (.inr (.inr (.inr (wy2 h6 h7)))))), (h4, .inr (2, [v30, v31, v32, v33, v34, v35])), (h5, .inl (ty 1, 17, .inl (upd (upd (upd (kf 0) 0 0) 1 0) 2 0)))]) rfl rfl (by decide) (by decide) (fun r u H locs w4 hP hD hS => ?_)
    rcases w4 with ⟨c5, rfl, rfl⟩ | ⟨c6, rfl, rfl⟩
    · have hP : va_P D vwCl [(h3, .inl (ty 6, 2, .inr (.inr (.inr (.inr (wy2 h6 h7)))))), (h4, .inr (2, [v30, v31, v32, v33, v34, v35])), (h5, .inl (ty 1, 17, .inl (upd (upd (upd (kf 0) 0 0) 1 0) 2 0))), (h0, .inr (11, [v0, v1, v2, .ref h1, v3, v4, .ref h4, v5, v6, v7, v8, v9, v10, v11, v12])), (h1, .inr (5, [.ref h2, .ref h3, v13])), (h2, .inr (8, [v14, .int 2, v15, v16, v17, v18, v19, v20, v21, v22, v23, v24, v25, v26, .ref h5, v27, v28, v29]))] H := hP
      have hD : va_D A [(h3, .inl (ty 6, 2, .inr (.inr (.inr (.inr (wy2 h6 h7)))))), (h4, .inr (2, [v30, v31, v32, v33, v34, v35])), (h5, .inl (ty 1, 17, .inl (upd (upd (upd (kf 0) 0 0) 1 0) 2 0))), (h0, .inr (11, [v0, v1, v2, .ref h1, v3, v4, .ref h4, v5, v6, v7, v8, v9, v10, v11, v12])), (h1, .inr (5, [.ref h2, .ref h3, v13])), (h2, .inr (8, [v14, .int 2, v15, v16, v17, v18, v19, v20, v21, v22, v23, v24, v25, v26, .ref h5, v27, v28, v29]))] := hD
      refine lv_if_eq (tgt := 25) hx hb dX11_walk_12 (by decide) (fun _ => ?_) (fun h9 => absurd (by decide) h9)
      refine lv_bipush (v := (-2)) hx hb dX11_walk_25 (by decide) ?_
      exact kr_z hx hb hr rfl hlocks hP hD hS [] [] (by decide) rfl (Or.inl ⟨(Or.inr (Or.inl ⟨c3, c5⟩)), rfl, rfl⟩) (by decide) (by decide) dX11_walk_27
    · have hP : va_P D vwCl [(h3, .inl (ty 6, 2, .inr (.inr (.inr (.inr (wy2 h6 h7)))))), (h4, .inr (2, [v30, v31, v32, v33, v34, v35])), (h5, .inl (ty 1, 17, .inl (upd (upd (upd (kf 0) 0 0) 1 0) 2 0))), (h0, .inr (11, [v0, v1, v2, .ref h1, v3, v4, .ref h4, v5, v6, v7, v8, v9, v10, v11, v12])), (h1, .inr (5, [.ref h2, .ref h3, v13])), (h2, .inr (8, [v14, .int 2, v15, v16, v17, v18, v19, v20, v21, v22, v23, v24, v25, v26, .ref h5, v27, v28, v29]))] H := hP
      have hD : va_D A [(h3, .inl (ty 6, 2, .inr (.inr (.inr (.inr (wy2 h6 h7)))))), (h4, .inr (2, [v30, v31, v32, v33, v34, v35])), (h5, .inl (ty 1, 17, .inl (upd (upd (upd (kf 0) 0 0) 1 0) 2 0))), (h0, .inr (11, [v0, v1, v2, .ref h1, v3, v4, .ref h4, v5, v6, v7, v8, v9, v10, v11, v12])), (h1, .inr (5, [.ref h2, .ref h3, v13])), (h2, .inr (8, [v14, .int 2, v15, v16, v17, v18, v19, v20, v21, v22, v23, v24, v25, v26, .ref h5, v27, v28, v29]))] := hD
      refine lv_if_eq (tgt := 25) hx hb dX11_walk_12 (by decide) (fun h9 => absurd h9 (by decide)) (fun _ => ?_)
      refine lv_iload_n hx hb dX11_walk_15 rfl (lv_at hl 3 rfl) ?_
      refine lv_if_lt (tgt := 25) hx hb dX11_walk_16 (by decide) (fun c7 => ?_) (fun c7 => ?_)
      · refine lv_bipush (v := (-2)) hx hb dX11_walk_25 (by decide) ?_
        exact kr_z hx hb hr rfl hlocks hP hD hS [] [] (by decide) rfl (Or.inl ⟨(Or.inr (Or.inr (Or.inl ⟨c3, c6, c7⟩))), rfl, rfl⟩) (by decide) (by decide) dX11_walk_27
      · refine lv_iload_n hx hb dX11_walk_19 rfl (lv_at hl 3 rfl) ?_
        refine lv_bipush (v := 100) hx hb dX11_walk_20 (by decide) ?_
        refine lv_icmp_le (tgt := 28) hx hb dX11_walk_22 (by decide) (fun c8 => ?_) (fun c8 => ?_)
        · refine lv_iload_n hx hb dX11_walk_28 rfl (lv_at hl 2 rfl) ?_
          refine lv_istore (lv' := [(4, .int p1), (0, .ref h0), (1, .int p0), (2, .int p1), (3, .int p2)]) hx hb dX11_walk_29 hl (by decide) rfl (fun ls hl => ?_)
          refine lv_iconst (v := (-1)) hx hb dX11_walk_31 (by decide) ?_
          refine lv_istore (lv' := [(5, .int (-1)), (4, .int p1), (0, .ref h0), (1, .int p0), (2, .int p1), (3, .int p2)]) hx hb dX11_walk_32 hl (by decide) rfl (fun ls hl => ?_)
          refine lv_iconst (v := 0) hx hb dX11_walk_34 (by decide) ?_
          refine lv_istore (lv' := [(6, .int 0), (5, .int (-1)), (4, .int p1), (0, .ref h0), (1, .int p0), (2, .int p1), (3, .int p2)]) hx hb dX11_walk_35 hl (by decide) rfl (fun ls hl => ?_)
          refine lv_iload hx hb dX11_walk_37 (lv_at hl 0 rfl) ?_
          refine lv_iload_n hx hb dX11_walk_39 rfl (lv_at hl 6 rfl) ?_
          refine lv_icmp_ge (tgt := 107) hx hb dX11_walk_40 (by decide) (fun c9 => ?_) (fun c9 => ?_)
          · refine lv_iload hx hb dX11_walk_107 (lv_at hl 2 rfl) ?_
            exact kr_z hx hb hr rfl hlocks hP hD hS [] [] (by decide) rfl (Or.inr (Or.inl ⟨⟨c3, c6, c7, c8, c9⟩, rfl, rfl⟩)) (by decide) (by decide) dX11_walk_109
          · refine lv_aload_n hx hb dX11_walk_43 rfl (lv_at hl 3 rfl) ?_
            refine va_get (D := D) (ci := 11) (v := .ref h4) (C := RX11) (T := TX11) (N := 15) hx hb hB inB_X11 hown hK.1 hP 3 rfl rfl 6 (by decide) (hB _ mw_102) (fun _ h9 => h9) rfl dX11_walk_44 ?_
            refine lv_aload_n hx hb dX11_walk_47 rfl (lv_at hl 3 rfl) ?_
            refine va_get (D := D) (ci := 11) (v := .ref h1) (C := RX11) (T := TX11) (N := 15) hx hb hB inB_X11 hown hK.1 hP 3 rfl rfl 3 (by decide) (hB _ mw_85) (fun _ h9 => h9) rfl dX11_walk_48 ?_
            refine va_get (D := D) (ci := 5) (v := .ref h2) (C := RX5) (T := TX5) (N := 3) hx hb hB inB_X5 hown hK.1 hP 4 rfl rfl 0 (by decide) (hB _ mw_150) (fun _ h9 => h9) rfl dX11_walk_51 ?_
            refine lv_aload_n hx hb dX11_walk_54 rfl (lv_at hl 3 rfl) ?_
            refine va_get (D := D) (ci := 11) (v := .ref h1) (C := RX11) (T := TX11) (N := 15) hx hb hB inB_X11 hown hK.1 hP 3 rfl rfl 3 (by decide) (hB _ mw_85) (fun _ h9 => h9) rfl dX11_walk_55 ?_
            refine va_get (D := D) (ci := 5) (v := .ref h3) (C := RX5) (T := TX5) (N := 3) hx hb hB inB_X5 hown hK.1 hP 4 rfl rfl 1 (by decide) (hB _ mw_267) (fun _ h9 => h9) rfl dX11_walk_58 ?_
            refine lv_iload_n hx hb dX11_walk_61 rfl (lv_at hl 4 rfl) ?_
            rcases ps_2 p0 c3 with rfl | rfl
            · refine va_aldA hx hb hK.1 hP 0 6 rfl rfl (by unfold vp_in; decide) dX11_walk_62 ?_
              refine tp_v (v := .ref h6) rfl ?_
              refine lv_iload hx hb dX11_walk_63 (lv_at hl 2 rfl) ?_
              refine lv_iload hx hb dX11_walk_65 (lv_at hl 1 rfl) ?_
              rcases ps_2 p1 c6 with rfl | rfl
              · refine kc_i (va_runV (As := [.ref h2, .ref h6, .int 0, .int (-1)]) (rest := []) ⟨hx, hb, hml, hown, hB⟩ (c109_X2_strollFrom l D ty H.size h2 h5 h4 h6 v14 (.int 2) v15 v16 v17 v18 v19 v20 v21 v22 v23 v24 v25 v26 v27 v28 v29) (cwV 4 hB (bw_V mw_380 mw_381 mw_382 mw_92 mw_379) rfl rfl rfl (by decide +kernel) ⟨Nat.le_of_ble_eq_true rfl, Nat.le_of_ble_eq_true rfl⟩) (kp_V hK hP hD [5, 2] (by decide) rfl 1 rfl rfl rfl) rfl rfl hl.1 rfl (lv_room (Nat.le_of_ble_eq_true rfl)) dX11_walk_67 ⟨Nat.le_of_ble_eq_true rfl, Nat.le_of_ble_eq_true rfl⟩) hP hD hS hA [5, 2] [0, 1, 3, 4] (wr := [(h3, .inl (ty 6, 2, .inr (.inr (.inr (.inr (wy2 h6 h7)))))), (h4, .inr (2, [v30, v31, v32, v33, v34, v35])), (h0, .inr (11, [v0, v1, v2, .ref h1, v3, v4, .ref h4, v5, v6, v7, v8, v9, v10, v11, v12])), (h1, .inr (5, [.ref h2, .ref h3, v13]))]) rfl rfl (by decide) (by decide) (fun r u H locs w10 hP hD hS => ?_)
                obtain ⟨rfl, rfl⟩ := w10
                have hP : va_P D vwCl [(h3, .inl (ty 6, 2, .inr (.inr (.inr (.inr (wy2 h6 h7)))))), (h4, .inr (2, [v30, v31, v32, v33, v34, v35])), (h0, .inr (11, [v0, v1, v2, .ref h1, v3, v4, .ref h4, v5, v6, v7, v8, v9, v10, v11, v12])), (h1, .inr (5, [.ref h2, .ref h3, v13])), (h2, .inr (8, [v14, .int 2, v15, v16, v17, v18, v19, v20, v21, v22, v23, v24, v25, v26, .ref h5, v27, v28, v29])), (h5, .inl (ty 1, 17, .inl (upd (upd (upd (kf 0) 0 0) 1 0) 2 0)))] H := hP
                have hD : va_D A [(h3, .inl (ty 6, 2, .inr (.inr (.inr (.inr (wy2 h6 h7)))))), (h4, .inr (2, [v30, v31, v32, v33, v34, v35])), (h0, .inr (11, [v0, v1, v2, .ref h1, v3, v4, .ref h4, v5, v6, v7, v8, v9, v10, v11, v12])), (h1, .inr (5, [.ref h2, .ref h3, v13])), (h2, .inr (8, [v14, .int 2, v15, v16, v17, v18, v19, v20, v21, v22, v23, v24, v25, v26, .ref h5, v27, v28, v29])), (h5, .inl (ty 1, 17, .inl (upd (upd (upd (kf 0) 0 0) 1 0) 2 0)))] := hD
                refine lv_istore (lv' := [(7, .int (-1)), (6, .int 0), (5, .int (-1)), (4, .int 0), (0, .ref h0), (1, .int 0), (2, .int 0), (3, .int p2)]) hx hb dX11_walk_70 hl (by decide) rfl (fun ls hl => ?_)
                refine lv_iload hx hb dX11_walk_72 (lv_at hl 0 rfl) ?_
                refine lv_iconst (v := (-1)) hx hb dX11_walk_74 (by decide) ?_
                refine lv_icmp_ne (tgt := 81) hx hb dX11_walk_75 (by decide) (fun h9 => absurd (by decide) h9) (fun _ => ?_)
                refine lv_iload hx hb dX11_walk_78 (lv_at hl 3 rfl) ?_
                exact kr_z hx hb hr rfl hlocks hP hD hS [] [] (by decide) rfl (Or.inr (Or.inr (Or.inl ⟨(Or.inl ⟨c3, c6, c7, c8, c9, rfl, rfl⟩), rfl, rfl⟩))) (by decide) (by decide) dX11_walk_80
              · refine kc_i (va_runV (As := [.ref h2, .ref h6, .int 1, .int (-1)]) (rest := []) ⟨hx, hb, hml, hown, hB⟩ (c110_X2_strollFrom l D ty H.size h2 h5 h4 h6 v14 (.int 2) v15 v16 v17 v18 v19 v20 v21 v22 v23 v24 v25 v26 v27 v28 v29) (cwV 4 hB (bw_V mw_380 mw_381 mw_382 mw_92 mw_379) rfl rfl rfl (by decide +kernel) ⟨Nat.le_of_ble_eq_true rfl, Nat.le_of_ble_eq_true rfl⟩) (kp_V hK hP hD [5, 2] (by decide) rfl 1 rfl rfl rfl) rfl rfl hl.1 rfl (lv_room (Nat.le_of_ble_eq_true rfl)) dX11_walk_67 ⟨Nat.le_of_ble_eq_true rfl, Nat.le_of_ble_eq_true rfl⟩) hP hD hS hA [5, 2] [0, 1, 3, 4] (wr := [(h3, .inl (ty 6, 2, .inr (.inr (.inr (.inr (wy2 h6 h7)))))), (h4, .inr (2, [v30, v31, v32, v33, v34, v35])), (h0, .inr (11, [v0, v1, v2, .ref h1, v3, v4, .ref h4, v5, v6, v7, v8, v9, v10, v11, v12])), (h1, .inr (5, [.ref h2, .ref h3, v13]))]) rfl rfl (by decide) (by decide) (fun r u H locs w11 hP hD hS => ?_)
                obtain ⟨rfl, rfl⟩ := w11
                have hP : va_P D vwCl [(h3, .inl (ty 6, 2, .inr (.inr (.inr (.inr (wy2 h6 h7)))))), (h4, .inr (2, [v30, v31, v32, v33, v34, v35])), (h0, .inr (11, [v0, v1, v2, .ref h1, v3, v4, .ref h4, v5, v6, v7, v8, v9, v10, v11, v12])), (h1, .inr (5, [.ref h2, .ref h3, v13])), (h2, .inr (8, [v14, .int 2, v15, v16, v17, v18, v19, v20, v21, v22, v23, v24, v25, v26, .ref h5, v27, v28, v29])), (h5, .inl (ty 1, 17, .inl (upd (upd (upd (kf 0) 0 0) 1 0) 2 0)))] H := hP
                have hD : va_D A [(h3, .inl (ty 6, 2, .inr (.inr (.inr (.inr (wy2 h6 h7)))))), (h4, .inr (2, [v30, v31, v32, v33, v34, v35])), (h0, .inr (11, [v0, v1, v2, .ref h1, v3, v4, .ref h4, v5, v6, v7, v8, v9, v10, v11, v12])), (h1, .inr (5, [.ref h2, .ref h3, v13])), (h2, .inr (8, [v14, .int 2, v15, v16, v17, v18, v19, v20, v21, v22, v23, v24, v25, v26, .ref h5, v27, v28, v29])), (h5, .inl (ty 1, 17, .inl (upd (upd (upd (kf 0) 0 0) 1 0) 2 0)))] := hD
                refine lv_istore (lv' := [(7, .int (-1)), (6, .int 0), (5, .int (-1)), (4, .int 1), (0, .ref h0), (1, .int 0), (2, .int 1), (3, .int p2)]) hx hb dX11_walk_70 hl (by decide) rfl (fun ls hl => ?_)
                refine lv_iload hx hb dX11_walk_72 (lv_at hl 0 rfl) ?_
                refine lv_iconst (v := (-1)) hx hb dX11_walk_74 (by decide) ?_
                refine lv_icmp_ne (tgt := 81) hx hb dX11_walk_75 (by decide) (fun h9 => absurd (by decide) h9) (fun _ => ?_)
                refine lv_iload hx hb dX11_walk_78 (lv_at hl 3 rfl) ?_
                exact kr_z hx hb hr rfl hlocks hP hD hS [] [] (by decide) rfl (Or.inr (Or.inr (Or.inr ⟨(Or.inl ⟨c3, c6, c7, c8, c9, rfl, rfl⟩), rfl, rfl⟩))) (by decide) (by decide) dX11_walk_80
            · refine va_aldA hx hb hK.1 hP 0 6 rfl rfl (by unfold vp_in; decide) dX11_walk_62 ?_
              refine tp_v (v := .ref h7) rfl ?_
              refine lv_iload hx hb dX11_walk_63 (lv_at hl 2 rfl) ?_
              refine lv_iload hx hb dX11_walk_65 (lv_at hl 1 rfl) ?_
              rcases ps_2 p1 c6 with rfl | rfl
              · refine kc_i (va_runV (As := [.ref h2, .ref h7, .int 0, .int (-1)]) (rest := []) ⟨hx, hb, hml, hown, hB⟩ (c109_X2_strollFrom l D ty H.size h2 h5 h4 h7 v14 (.int 2) v15 v16 v17 v18 v19 v20 v21 v22 v23 v24 v25 v26 v27 v28 v29) (cwV 4 hB (bw_V mw_380 mw_381 mw_382 mw_92 mw_379) rfl rfl rfl (by decide +kernel) ⟨Nat.le_of_ble_eq_true rfl, Nat.le_of_ble_eq_true rfl⟩) (kp_V hK hP hD [5, 2] (by decide) rfl 1 rfl rfl rfl) rfl rfl hl.1 rfl (lv_room (Nat.le_of_ble_eq_true rfl)) dX11_walk_67 ⟨Nat.le_of_ble_eq_true rfl, Nat.le_of_ble_eq_true rfl⟩) hP hD hS hA [5, 2] [0, 1, 3, 4] (wr := [(h3, .inl (ty 6, 2, .inr (.inr (.inr (.inr (wy2 h6 h7)))))), (h4, .inr (2, [v30, v31, v32, v33, v34, v35])), (h0, .inr (11, [v0, v1, v2, .ref h1, v3, v4, .ref h4, v5, v6, v7, v8, v9, v10, v11, v12])), (h1, .inr (5, [.ref h2, .ref h3, v13]))]) rfl rfl (by decide) (by decide) (fun r u H locs w12 hP hD hS => ?_)
                obtain ⟨rfl, rfl⟩ := w12
                have hP : va_P D vwCl [(h3, .inl (ty 6, 2, .inr (.inr (.inr (.inr (wy2 h6 h7)))))), (h4, .inr (2, [v30, v31, v32, v33, v34, v35])), (h0, .inr (11, [v0, v1, v2, .ref h1, v3, v4, .ref h4, v5, v6, v7, v8, v9, v10, v11, v12])), (h1, .inr (5, [.ref h2, .ref h3, v13])), (h2, .inr (8, [v14, .int 2, v15, v16, v17, v18, v19, v20, v21, v22, v23, v24, v25, v26, .ref h5, v27, v28, v29])), (h5, .inl (ty 1, 17, .inl (upd (upd (upd (kf 0) 0 0) 1 0) 2 0)))] H := hP
                have hD : va_D A [(h3, .inl (ty 6, 2, .inr (.inr (.inr (.inr (wy2 h6 h7)))))), (h4, .inr (2, [v30, v31, v32, v33, v34, v35])), (h0, .inr (11, [v0, v1, v2, .ref h1, v3, v4, .ref h4, v5, v6, v7, v8, v9, v10, v11, v12])), (h1, .inr (5, [.ref h2, .ref h3, v13])), (h2, .inr (8, [v14, .int 2, v15, v16, v17, v18, v19, v20, v21, v22, v23, v24, v25, v26, .ref h5, v27, v28, v29])), (h5, .inl (ty 1, 17, .inl (upd (upd (upd (kf 0) 0 0) 1 0) 2 0)))] := hD
                refine lv_istore (lv' := [(7, .int (-1)), (6, .int 0), (5, .int (-1)), (4, .int 0), (0, .ref h0), (1, .int 1), (2, .int 0), (3, .int p2)]) hx hb dX11_walk_70 hl (by decide) rfl (fun ls hl => ?_)
                refine lv_iload hx hb dX11_walk_72 (lv_at hl 0 rfl) ?_
                refine lv_iconst (v := (-1)) hx hb dX11_walk_74 (by decide) ?_
                refine lv_icmp_ne (tgt := 81) hx hb dX11_walk_75 (by decide) (fun h9 => absurd (by decide) h9) (fun _ => ?_)
                refine lv_iload hx hb dX11_walk_78 (lv_at hl 3 rfl) ?_
                exact kr_z hx hb hr rfl hlocks hP hD hS [] [] (by decide) rfl (Or.inr (Or.inr (Or.inl ⟨(Or.inr ⟨c3, c6, c7, c8, c9, rfl, rfl⟩), rfl, rfl⟩))) (by decide) (by decide) dX11_walk_80
              · refine kc_i (va_runV (As := [.ref h2, .ref h7, .int 1, .int (-1)]) (rest := []) ⟨hx, hb, hml, hown, hB⟩ (c110_X2_strollFrom l D ty H.size h2 h5 h4 h7 v14 (.int 2) v15 v16 v17 v18 v19 v20 v21 v22 v23 v24 v25 v26 v27 v28 v29) (cwV 4 hB (bw_V mw_380 mw_381 mw_382 mw_92 mw_379) rfl rfl rfl (by decide +kernel) ⟨Nat.le_of_ble_eq_true rfl, Nat.le_of_ble_eq_true rfl⟩) (kp_V hK hP hD [5, 2] (by decide) rfl 1 rfl rfl rfl) rfl rfl hl.1 rfl (lv_room (Nat.le_of_ble_eq_true rfl)) dX11_walk_67 ⟨Nat.le_of_ble_eq_true rfl, Nat.le_of_ble_eq_true rfl⟩) hP hD hS hA [5, 2] [0, 1, 3, 4] (wr := [(h3, .inl (ty 6, 2, .inr (.inr (.inr (.inr (wy2 h6 h7)))))), (h4, .inr (2, [v30, v31, v32, v33, v34, v35])), (h0, .inr (11, [v0, v1, v2, .ref h1, v3, v4, .ref h4, v5, v6, v7, v8, v9, v10, v11, v12])), (h1, .inr (5, [.ref h2, .ref h3, v13]))]) rfl rfl (by decide) (by decide) (fun r u H locs w13 hP hD hS => ?_)
                obtain ⟨rfl, rfl⟩ := w13
                have hP : va_P D vwCl [(h3, .inl (ty 6, 2, .inr (.inr (.inr (.inr (wy2 h6 h7)))))), (h4, .inr (2, [v30, v31, v32, v33, v34, v35])), (h0, .inr (11, [v0, v1, v2, .ref h1, v3, v4, .ref h4, v5, v6, v7, v8, v9, v10, v11, v12])), (h1, .inr (5, [.ref h2, .ref h3, v13])), (h2, .inr (8, [v14, .int 2, v15, v16, v17, v18, v19, v20, v21, v22, v23, v24, v25, v26, .ref h5, v27, v28, v29])), (h5, .inl (ty 1, 17, .inl (upd (upd (upd (kf 0) 0 0) 1 0) 2 0)))] H := hP
                have hD : va_D A [(h3, .inl (ty 6, 2, .inr (.inr (.inr (.inr (wy2 h6 h7)))))), (h4, .inr (2, [v30, v31, v32, v33, v34, v35])), (h0, .inr (11, [v0, v1, v2, .ref h1, v3, v4, .ref h4, v5, v6, v7, v8, v9, v10, v11, v12])), (h1, .inr (5, [.ref h2, .ref h3, v13])), (h2, .inr (8, [v14, .int 2, v15, v16, v17, v18, v19, v20, v21, v22, v23, v24, v25, v26, .ref h5, v27, v28, v29])), (h5, .inl (ty 1, 17, .inl (upd (upd (upd (kf 0) 0 0) 1 0) 2 0)))] := hD
                refine lv_istore (lv' := [(7, .int (-1)), (6, .int 0), (5, .int (-1)), (4, .int 1), (0, .ref h0), (1, .int 1), (2, .int 1), (3, .int p2)]) hx hb dX11_walk_70 hl (by decide) rfl (fun ls hl => ?_)
                refine lv_iload hx hb dX11_walk_72 (lv_at hl 0 rfl) ?_
                refine lv_iconst (v := (-1)) hx hb dX11_walk_74 (by decide) ?_
                refine lv_icmp_ne (tgt := 81) hx hb dX11_walk_75 (by decide) (fun h9 => absurd (by decide) h9) (fun _ => ?_)
                refine lv_iload hx hb dX11_walk_78 (lv_at hl 3 rfl) ?_
                exact kr_z hx hb hr rfl hlocks hP hD hS [] [] (by decide) rfl (Or.inr (Or.inr (Or.inr ⟨(Or.inr ⟨c3, c6, c7, c8, c9, rfl, rfl⟩), rfl, rfl⟩))) (by decide) (by decide) dX11_walk_80
        · refine lv_bipush (v := (-2)) hx hb dX11_walk_25 (by decide) ?_
          exact kr_z hx hb hr rfl hlocks hP hD hS [] [] (by decide) rfl (Or.inl ⟨(Or.inr (Or.inr (Or.inr ⟨c3, c6, c7, c8⟩))), rfl, rfl⟩) (by decide) (by decide) dX11_walk_27
set_option maxHeartbeats 4000000 in
set_option maxRecDepth 100000 in
theorem c112_X11_differing (l : Launch) (D : va_G) (ty : Nat → ClassId) (sz : Nat) (h0 : Nat) (h1 : Nat) (h2 : Nat) (h3 : Nat) (h4 : Nat) (v0 : Value) (v1 : Value) (v2 : Value) (v3 : Value) (v4 : Value) (v5 : Value) (v6 : Value) (v7 : Value) (v8 : Value) (v9 : Value) (v10 : Value) (v11 : Value) (v12 : Value) (v13 : Value) (v14 : Value) (v15 : Value) (v16 : Value) (v17 : Value) (v18 : Value) (v19 : Value) (v20 : Value) (v21 : Value) (v22 : Value) (v23 : Value) (v24 : Value) (v25 : Value) (v26 : Value) (v27 : Value) (v28 : Value) (v29 : Value) (v30 : Value) (v31 : Value) (v32 : Value) : cQ l yX11_differing cX11_differing 5 (some .int) 0 0 [.ref h0, .ref h3, .ref h4] D ty [(h0, .inr (11, [v0, v1, v2, .ref h1, v3, v4, v5, v6, v7, v8, v9, v10, v11, v12, v13])), (h1, .inr (5, [.ref h2, v14, v15])), (h2, .inr (8, [v16, v17, .int 0, v18, v19, v20, v21, v22, v23, v24, v25, v26, v27, v28, v29, v30, v31, v32]))] sz (qI (fun (r : Int32) (u : va_W) => 0 = r ∧ [(h0, .inr (11, [v0, v1, v2, .ref h1, v3, v4, v5, v6, v7, v8, v9, v10, v11, v12, v13])), (h1, .inr (5, [.ref h2, v14, v15])), (h2, .inr (8, [v16, v17, .int 0, v18, v19, v20, v21, v22, v23, v24, v25, v26, v27, v28, v29, v30, v31, v32]))] = u)) 0 0 := by
  refine cQ.of (by decide) (Nat.le_of_ble_eq_true rfl) (fun p e s m below meth c A ls C hsz hP hK hD hA hl => ?_)
  obtain ⟨hx, hb, hml, hown, hB, hr, hlocks, hin⟩ := C
  have hown : s.vm.findClass RX11 = some m.cls := hown
  have hS : va_S A s.heap s.heap [] := va_S.rf
  have hl : lv_has ls 5 [(0, .ref h0), (1, .ref h3), (2, .ref h4)] := hl
  refine lv_iconst (v := 0) hx hb dX11_differing_0 (by decide) ?_
  refine lv_istore_n (lv' := [(3, .int 0), (0, .ref h0), (1, .ref h3), (2, .ref h4)]) hx hb dX11_differing_1 rfl hl (by decide) rfl (fun ls hl => ?_)
  refine lv_iconst (v := 0) hx hb dX11_differing_2 (by decide) ?_
  refine lv_istore (lv' := [(4, .int 0), (3, .int 0), (0, .ref h0), (1, .ref h3), (2, .ref h4)]) hx hb dX11_differing_3 hl (by decide) rfl (fun ls hl => ?_)
  refine lv_iload hx hb dX11_differing_5 (lv_at hl 0 rfl) ?_
  refine lv_aload_n hx hb dX11_differing_7 rfl (lv_at hl 2 rfl) ?_
  refine va_get (D := D) (ci := 11) (v := .ref h1) (C := RX11) (T := TX11) (N := 15) hx hb hB inB_X11 hown hK.1 hP 0 rfl rfl 3 (by decide) (hB _ mw_85) (fun _ h9 => h9) rfl dX11_differing_8 ?_
  refine va_get (D := D) (ci := 5) (v := .ref h2) (C := RX5) (T := TX5) (N := 3) hx hb hB inB_X5 hown hK.1 hP 1 rfl rfl 0 (by decide) (hB _ mw_150) (fun _ h9 => h9) rfl dX11_differing_11 ?_
  refine va_get (D := D) (ci := 8) (v := .int 0) (C := RX8) (T := TX8) (N := 18) hx hb hB inB_X8 hown hK.1 hP 2 rfl rfl 2 (by decide) (hB _ mw_255) (fun _ h9 => h9) rfl dX11_differing_14 ?_
  refine lv_icmp_ge (tgt := 40) hx hb dX11_differing_17 (by decide) (fun _ => ?_) (fun h9 => absurd (by decide) h9)
  refine lv_iload_n hx hb dX11_differing_40 rfl (lv_at hl 1 rfl) ?_
  exact kr_z hx hb hr rfl hlocks hP hD hS [(h0, .inr (11, [v0, v1, v2, .ref h1, v3, v4, v5, v6, v7, v8, v9, v10, v11, v12, v13])), (h1, .inr (5, [.ref h2, v14, v15])), (h2, .inr (8, [v16, v17, .int 0, v18, v19, v20, v21, v22, v23, v24, v25, v26, v27, v28, v29, v30, v31, v32]))] [0, 1, 2] (by decide) rfl ⟨rfl, rfl⟩ (by decide) (by decide) dX11_differing_41
set_option maxHeartbeats 4000000 in
set_option maxRecDepth 100000 in
theorem c111_X11_change (l : Launch) (D : va_G) (ty : Nat → ClassId) (sz : Nat) (h0 : Nat) (h1 : Nat) (h2 : Nat) (h3 : Nat) (v0 : Value) (v1 : Value) (v2 : Value) (v3 : Value) (v4 : Value) (v5 : Value) (v6 : Value) (v7 : Value) (v8 : Value) (v9 : Value) (v10 : Value) (v11 : Value) (v12 : Value) (v13 : Value) (v14 : Value) (h4 : Nat) (h5 : Nat) (v15 : Value) (v16 : Value) (v17 : Value) (v18 : Value) (v19 : Value) (v20 : Value) (v21 : Value) (v22 : Value) (v23 : Value) (v24 : Value) (v25 : Value) (v26 : Value) (v27 : Value) (v28 : Value) (v29 : Value) (v30 : Value) (v31 : Value) : cQ l yX11_change cX11_change 1 (some .int) 1 24 [.ref h0] D ty [(h0, .inr (11, [v0, v1, v2, .ref h1, v3, v4, v5, v6, v7, v8, v9, v10, v11, v12, v13])), (h1, .inr (5, [.ref h3, .ref h2, v14])), (h2, .inl (ty 6, 2, .inr (.inr (.inr (.inr (wy2 h4 h5)))))), (h3, .inr (8, [v15, v16, .int 0, v17, v18, v19, v20, v21, v22, v23, v24, v25, v26, v27, v28, v29, v30, v31]))] sz (qI (fun (r : Int32) (u : va_W) => 0 = r ∧ [] = u)) 0 0 := by
  refine cQ.of (by decide) (Nat.le_of_ble_eq_true rfl) (fun p e s m below meth c A ls C hsz hP hK hD hA hl => ?_)
  obtain ⟨hx, hb, hml, hown, hB, hr, hlocks, hin⟩ := C
  have hown : s.vm.findClass RX11 = some m.cls := hown
  have hS : va_S A s.heap s.heap [] := va_S.rf
  have hl : lv_has ls 1 [(0, .ref h0)] := hl
  refine lv_aload_n hx hb dX11_change_0 rfl (lv_at hl 0 rfl) ?_
  refine lv_aload_n hx hb dX11_change_1 rfl (lv_at hl 0 rfl) ?_
  refine va_get (D := D) (ci := 11) (v := .ref h1) (C := RX11) (T := TX11) (N := 15) hx hb hB inB_X11 hown hK.1 hP 0 rfl rfl 3 (by decide) (hB _ mw_85) (fun _ h9 => h9) rfl dX11_change_2 ?_
  refine va_get (D := D) (ci := 5) (v := .ref h2) (C := RX5) (T := TX5) (N := 3) hx hb hB inB_X5 hown hK.1 hP 1 rfl rfl 1 (by decide) (hB _ mw_267) (fun _ h9 => h9) rfl dX11_change_5 ?_
  refine lv_iconst (v := 0) hx hb dX11_change_8 (by decide) ?_
  refine va_aldA hx hb hK.1 hP 2 6 rfl rfl (by unfold vp_in; decide) dX11_change_9 ?_
  refine tp_v (v := .ref h4) rfl ?_
  refine lv_aload_n hx hb dX11_change_10 rfl (lv_at hl 0 rfl) ?_
  refine va_get (D := D) (ci := 11) (v := .ref h1) (C := RX11) (T := TX11) (N := 15) hx hb hB inB_X11 hown hK.1 hP 0 rfl rfl 3 (by decide) (hB _ mw_85) (fun _ h9 => h9) rfl dX11_change_11 ?_
  refine va_get (D := D) (ci := 5) (v := .ref h2) (C := RX5) (T := TX5) (N := 3) hx hb hB inB_X5 hown hK.1 hP 1 rfl rfl 1 (by decide) (hB _ mw_267) (fun _ h9 => h9) rfl dX11_change_14 ?_
  refine lv_iconst (v := 1) hx hb dX11_change_17 (by decide) ?_
  refine va_aldA hx hb hK.1 hP 2 6 rfl rfl (by unfold vp_in; decide) dX11_change_18 ?_
  refine tp_v (v := .ref h5) rfl ?_
  refine kc_i (va_runV (As := [.ref h4, .ref h5]) (rest := []) ⟨hx, hb, hml, hown, hB⟩ (c112_X11_differing l D ty s.heap.size h0 h1 h3 h4 h5 v0 v1 v2 v3 v4 v5 v6 v7 v8 v9 v10 v11 v12 v13 (.ref h2) v14 v15 v16 v17 v18 v19 v20 v21 v22 v23 v24 v25 v26 v27 v28 v29 v30 v31) (cwV 2 hB (bw_V mw_384 mw_385 mw_386 mw_216 mw_383) rfl rfl rfl (by decide +kernel) ⟨Nat.le_of_ble_eq_true rfl, Nat.le_of_ble_eq_true rfl⟩) (kp_V hK hP hD [0, 1, 3] (by decide) rfl 0 rfl rfl rfl) rfl rfl hl.1 rfl (lv_room (Nat.le_of_ble_eq_true rfl)) dX11_change_19 ⟨Nat.le_of_ble_eq_true rfl, Nat.le_of_ble_eq_true rfl⟩) hP hD hS hA [0, 1, 3] [2] (wr := [(h2, .inl (ty 6, 2, .inr (.inr (.inr (.inr (wy2 h4 h5))))))]) rfl rfl (by decide) (by decide) (fun r u H locs w1 hP hD hS => ?_)
  obtain ⟨rfl, rfl⟩ := w1
  have hP : va_P D vwCl [(h2, .inl (ty 6, 2, .inr (.inr (.inr (.inr (wy2 h4 h5)))))), (h0, .inr (11, [v0, v1, v2, .ref h1, v3, v4, v5, v6, v7, v8, v9, v10, v11, v12, v13])), (h1, .inr (5, [.ref h3, .ref h2, v14])), (h3, .inr (8, [v15, v16, .int 0, v17, v18, v19, v20, v21, v22, v23, v24, v25, v26, v27, v28, v29, v30, v31]))] H := hP
  have hD : va_D A [(h2, .inl (ty 6, 2, .inr (.inr (.inr (.inr (wy2 h4 h5)))))), (h0, .inr (11, [v0, v1, v2, .ref h1, v3, v4, v5, v6, v7, v8, v9, v10, v11, v12, v13])), (h1, .inr (5, [.ref h3, .ref h2, v14])), (h3, .inr (8, [v15, v16, .int 0, v17, v18, v19, v20, v21, v22, v23, v24, v25, v26, v27, v28, v29, v30, v31]))] := hD
  exact kr_z hx hb hr rfl hlocks hP hD hS [] [] (by decide) rfl ⟨rfl, rfl⟩ (by decide) (by decide) dX11_change_22
set_option maxHeartbeats 4000000 in
set_option maxRecDepth 100000 in
theorem c114_X8_signsFor (l : Launch) (D : va_G) (ty : Nat → ClassId) (sz : Nat) (h0 : Nat) (h1 : Nat) (h2 : Nat) (v0 : Value) (v1 : Value) (v2 : Value) (v3 : Value) (v4 : Value) (v5 : Value) (v6 : Value) (v7 : Value) (v8 : Value) (v9 : Value) (v10 : Value) (v11 : Value) (v12 : Value) (v13 : Value) (v14 : Value) (v15 : Value) : cQ l yX8_signsFor cX8_signsFor 7 (some .int) 0 0 [.ref h0, .ref h2] D ty [(h0, .inr (8, [v0, .int 2, v1, v2, v3, v4, v5, v6, v7, v8, v9, v10, v11, v12, .ref h1, v13, v14, v15])), (h1, .inl (ty 1, 17, .inl (upd (upd (upd (kf 0) 0 0) 1 0) 2 0)))] sz (qI (fun (r : Int32) (u : va_W) => 0 = r ∧ [(h0, .inr (8, [v0, .int 2, v1, v2, v3, v4, v5, v6, v7, v8, v9, v10, v11, v12, .ref h1, v13, v14, v15])), (h1, .inl (ty 1, 17, .inl (upd (upd (upd (kf 0) 0 0) 1 0) 2 0)))] = u)) 0 0 := by
  refine cQ.of (by decide) (Nat.le_of_ble_eq_true rfl) (fun p e s m below meth c A ls C hsz hP hK hD hA hl => ?_)
  obtain ⟨hx, hb, hml, hown, hB, hr, hlocks, hin⟩ := C
  have hown : s.vm.findClass RX8 = some m.cls := hown
  have hS : va_S A s.heap s.heap [] := va_S.rf
  have hl : lv_has ls 7 [(0, .ref h0), (1, .ref h2)] := hl
  refine lv_iconst (v := 0) hx hb dX8_signsFor_0 (by decide) ?_
  refine lv_istore_n (lv' := [(2, .int 0), (0, .ref h0), (1, .ref h2)]) hx hb dX8_signsFor_1 rfl hl (by decide) rfl (fun ls hl => ?_)
  refine lv_iconst (v := 0) hx hb dX8_signsFor_2 (by decide) ?_
  refine lv_istore_n (lv' := [(3, .int 0), (2, .int 0), (0, .ref h0), (1, .ref h2)]) hx hb dX8_signsFor_3 rfl hl (by decide) rfl (fun ls hl => ?_)
  refine lv_iload_n hx hb dX8_signsFor_4 rfl (lv_at hl 0 rfl) ?_
  refine lv_aload_n hx hb dX8_signsFor_5 rfl (lv_at hl 2 rfl) ?_
  refine va_get (D := D) (ci := 8) (v := .int 2) (C := RX8) (T := TX8) (N := 18) hx hb hB inB_X8 hown hK.1 hP 0 rfl rfl 1 (by decide) (hB _ mw_28) (fun _ h9 => h9) rfl dX8_signsFor_6 ?_
  refine lv_icmp_ge (tgt := 107) hx hb dX8_signsFor_9 (by decide) (fun h9 => absurd h9 (by decide)) (fun _ => ?_)
  refine lv_aload_n hx hb dX8_signsFor_12 rfl (lv_at hl 2 rfl) ?_
  refine va_get (D := D) (ci := 8) (v := .ref h1) (C := RX8) (T := TX8) (N := 18) hx hb hB inB_X8 hown hK.1 hP 0 rfl rfl 14 (by decide) (hB _ mw_62) (fun _ h9 => h9) rfl dX8_signsFor_13 ?_
  refine lv_iload_n hx hb dX8_signsFor_16 rfl (lv_at hl 0 rfl) ?_
  refine lv_iconst (v := 1) hx hb dX8_signsFor_17 (by decide) ?_
  refine lv_iadd hx hb dX8_signsFor_18 ?_
  refine tp_i (v := 1) (by decide) ?_
  refine va_iald hx hb hK.1 hP 1 1 rfl rfl (by unfold vp_in; decide) dX8_signsFor_19 ?_
  refine tp_i (v := 0) rfl ?_
  refine lv_aload_n hx hb dX8_signsFor_20 rfl (lv_at hl 2 rfl) ?_
  refine va_get (D := D) (ci := 8) (v := .ref h1) (C := RX8) (T := TX8) (N := 18) hx hb hB inB_X8 hown hK.1 hP 0 rfl rfl 14 (by decide) (hB _ mw_62) (fun _ h9 => h9) rfl dX8_signsFor_21 ?_
  refine lv_iload_n hx hb dX8_signsFor_24 rfl (lv_at hl 0 rfl) ?_
  refine va_iald hx hb hK.1 hP 1 1 rfl rfl (by unfold vp_in; decide) dX8_signsFor_25 ?_
  refine tp_i (v := 0) rfl ?_
  refine lv_isub hx hb dX8_signsFor_26 ?_
  refine tp_i (v := 0) (by decide) ?_
  refine lv_istore (lv' := [(4, .int 0), (3, .int 0), (2, .int 0), (0, .ref h0), (1, .ref h2)]) hx hb dX8_signsFor_27 hl (by decide) rfl (fun ls hl => ?_)
  refine lv_iconst (v := 0) hx hb dX8_signsFor_29 (by decide) ?_
  refine lv_istore (lv' := [(5, .int 0), (4, .int 0), (3, .int 0), (2, .int 0), (0, .ref h0), (1, .ref h2)]) hx hb dX8_signsFor_30 hl (by decide) rfl (fun ls hl => ?_)
  refine lv_aload_n hx hb dX8_signsFor_32 rfl (lv_at hl 4 rfl) ?_
  refine va_get (D := D) (ci := 8) (v := .ref h1) (C := RX8) (T := TX8) (N := 18) hx hb hB inB_X8 hown hK.1 hP 0 rfl rfl 14 (by decide) (hB _ mw_62) (fun _ h9 => h9) rfl dX8_signsFor_33 ?_
  refine lv_iload_n hx hb dX8_signsFor_36 rfl (lv_at hl 2 rfl) ?_
  refine va_iald hx hb hK.1 hP 1 1 rfl rfl (by unfold vp_in; decide) dX8_signsFor_37 ?_
  refine tp_i (v := 0) rfl ?_
  refine lv_istore (lv' := [(6, .int 0), (5, .int 0), (4, .int 0), (3, .int 0), (2, .int 0), (0, .ref h0), (1, .ref h2)]) hx hb dX8_signsFor_38 hl (by decide) rfl (fun ls hl => ?_)
  refine lv_iload hx hb dX8_signsFor_40 (lv_at hl 0 rfl) ?_
  refine lv_aload_n hx hb dX8_signsFor_42 rfl (lv_at hl 5 rfl) ?_
  refine va_get (D := D) (ci := 8) (v := .ref h1) (C := RX8) (T := TX8) (N := 18) hx hb hB inB_X8 hown hK.1 hP 0 rfl rfl 14 (by decide) (hB _ mw_62) (fun _ h9 => h9) rfl dX8_signsFor_43 ?_
  refine lv_iload_n hx hb dX8_signsFor_46 rfl (lv_at hl 3 rfl) ?_
  refine lv_iconst (v := 1) hx hb dX8_signsFor_47 (by decide) ?_
  refine lv_iadd hx hb dX8_signsFor_48 ?_
  refine tp_i (v := 1) (by decide) ?_
  refine va_iald hx hb hK.1 hP 1 1 rfl rfl (by unfold vp_in; decide) dX8_signsFor_49 ?_
  refine tp_i (v := 0) rfl ?_
  refine lv_icmp_ge (tgt := 78) hx hb dX8_signsFor_50 (by decide) (fun _ => ?_) (fun h9 => absurd (by decide) h9)
  refine lv_iload_n hx hb dX8_signsFor_78 rfl (lv_at hl 4 rfl) ?_
  refine lv_iload hx hb dX8_signsFor_79 (lv_at hl 1 rfl) ?_
  refine lv_if_le (tgt := 97) hx hb dX8_signsFor_81 (by decide) (fun _ => ?_) (fun h9 => absurd (by decide) h9)
  refine lv_iload hx hb dX8_signsFor_97 (lv_at hl 1 rfl) ?_
  refine lv_iadd hx hb dX8_signsFor_99 ?_
  refine tp_i (v := 0) (by decide) ?_
  refine lv_istore_n (lv' := [(2, .int 0), (6, .int 0), (5, .int 0), (4, .int 0), (3, .int 0), (0, .ref h0), (1, .ref h2)]) hx hb dX8_signsFor_100 rfl hl (by decide) rfl (fun ls hl => ?_)
  refine lv_iinc (v := 1) (lv' := [(3, .int 1), (2, .int 0), (6, .int 0), (5, .int 0), (4, .int 0), (0, .ref h0), (1, .ref h2)]) hx hb dX8_signsFor_101 hl (k := 4) rfl (by decide) (by decide) rfl (fun ls hl => ?_)
  refine lv_goto (tgt := 4) hx hb dX8_signsFor_104 (by decide) ?_
  refine lv_iload_n hx hb dX8_signsFor_4 rfl (lv_at hl 0 rfl) ?_
  refine lv_aload_n hx hb dX8_signsFor_5 rfl (lv_at hl 5 rfl) ?_
  refine va_get (D := D) (ci := 8) (v := .int 2) (C := RX8) (T := TX8) (N := 18) hx hb hB inB_X8 hown hK.1 hP 0 rfl rfl 1 (by decide) (hB _ mw_28) (fun _ h9 => h9) rfl dX8_signsFor_6 ?_
  refine lv_icmp_ge (tgt := 107) hx hb dX8_signsFor_9 (by decide) (fun h9 => absurd h9 (by decide)) (fun _ => ?_)
  refine lv_aload_n hx hb dX8_signsFor_12 rfl (lv_at hl 5 rfl) ?_
  refine va_get (D := D) (ci := 8) (v := .ref h1) (C := RX8) (T := TX8) (N := 18) hx hb hB inB_X8 hown hK.1 hP 0 rfl rfl 14 (by decide) (hB _ mw_62) (fun _ h9 => h9) rfl dX8_signsFor_13 ?_
  refine lv_iload_n hx hb dX8_signsFor_16 rfl (lv_at hl 0 rfl) ?_
  refine lv_iconst (v := 1) hx hb dX8_signsFor_17 (by decide) ?_
  refine lv_iadd hx hb dX8_signsFor_18 ?_
  refine tp_i (v := 2) (by decide) ?_
  refine va_iald hx hb hK.1 hP 1 1 rfl rfl (by unfold vp_in; decide) dX8_signsFor_19 ?_
  refine tp_i (v := 0) rfl ?_
  refine lv_aload_n hx hb dX8_signsFor_20 rfl (lv_at hl 5 rfl) ?_
  refine va_get (D := D) (ci := 8) (v := .ref h1) (C := RX8) (T := TX8) (N := 18) hx hb hB inB_X8 hown hK.1 hP 0 rfl rfl 14 (by decide) (hB _ mw_62) (fun _ h9 => h9) rfl dX8_signsFor_21 ?_
  refine lv_iload_n hx hb dX8_signsFor_24 rfl (lv_at hl 0 rfl) ?_
  refine va_iald hx hb hK.1 hP 1 1 rfl rfl (by unfold vp_in; decide) dX8_signsFor_25 ?_
  refine tp_i (v := 0) rfl ?_
  refine lv_isub hx hb dX8_signsFor_26 ?_
  refine tp_i (v := 0) (by decide) ?_
  refine lv_istore (lv' := [(4, .int 0), (3, .int 1), (2, .int 0), (6, .int 0), (5, .int 0), (0, .ref h0), (1, .ref h2)]) hx hb dX8_signsFor_27 hl (by decide) rfl (fun ls hl => ?_)
  refine lv_iconst (v := 0) hx hb dX8_signsFor_29 (by decide) ?_
  refine lv_istore (lv' := [(5, .int 0), (4, .int 0), (3, .int 1), (2, .int 0), (6, .int 0), (0, .ref h0), (1, .ref h2)]) hx hb dX8_signsFor_30 hl (by decide) rfl (fun ls hl => ?_)
  refine lv_aload_n hx hb dX8_signsFor_32 rfl (lv_at hl 5 rfl) ?_
  refine va_get (D := D) (ci := 8) (v := .ref h1) (C := RX8) (T := TX8) (N := 18) hx hb hB inB_X8 hown hK.1 hP 0 rfl rfl 14 (by decide) (hB _ mw_62) (fun _ h9 => h9) rfl dX8_signsFor_33 ?_
  refine lv_iload_n hx hb dX8_signsFor_36 rfl (lv_at hl 2 rfl) ?_
  refine va_iald hx hb hK.1 hP 1 1 rfl rfl (by unfold vp_in; decide) dX8_signsFor_37 ?_
  refine tp_i (v := 0) rfl ?_
  refine lv_istore (lv' := [(6, .int 0), (5, .int 0), (4, .int 0), (3, .int 1), (2, .int 0), (0, .ref h0), (1, .ref h2)]) hx hb dX8_signsFor_38 hl (by decide) rfl (fun ls hl => ?_)
  refine lv_iload hx hb dX8_signsFor_40 (lv_at hl 0 rfl) ?_
  refine lv_aload_n hx hb dX8_signsFor_42 rfl (lv_at hl 5 rfl) ?_
  refine va_get (D := D) (ci := 8) (v := .ref h1) (C := RX8) (T := TX8) (N := 18) hx hb hB inB_X8 hown hK.1 hP 0 rfl rfl 14 (by decide) (hB _ mw_62) (fun _ h9 => h9) rfl dX8_signsFor_43 ?_
  refine lv_iload_n hx hb dX8_signsFor_46 rfl (lv_at hl 3 rfl) ?_
  refine lv_iconst (v := 1) hx hb dX8_signsFor_47 (by decide) ?_
  refine lv_iadd hx hb dX8_signsFor_48 ?_
  refine tp_i (v := 2) (by decide) ?_
  refine va_iald hx hb hK.1 hP 1 1 rfl rfl (by unfold vp_in; decide) dX8_signsFor_49 ?_
  refine tp_i (v := 0) rfl ?_
  refine lv_icmp_ge (tgt := 78) hx hb dX8_signsFor_50 (by decide) (fun _ => ?_) (fun h9 => absurd (by decide) h9)
  refine lv_iload_n hx hb dX8_signsFor_78 rfl (lv_at hl 4 rfl) ?_
  refine lv_iload hx hb dX8_signsFor_79 (lv_at hl 1 rfl) ?_
  refine lv_if_le (tgt := 97) hx hb dX8_signsFor_81 (by decide) (fun _ => ?_) (fun h9 => absurd (by decide) h9)
  refine lv_iload hx hb dX8_signsFor_97 (lv_at hl 1 rfl) ?_
  refine lv_iadd hx hb dX8_signsFor_99 ?_
  refine tp_i (v := 0) (by decide) ?_
  refine lv_istore_n (lv' := [(2, .int 0), (6, .int 0), (5, .int 0), (4, .int 0), (3, .int 1), (0, .ref h0), (1, .ref h2)]) hx hb dX8_signsFor_100 rfl hl (by decide) rfl (fun ls hl => ?_)
  refine lv_iinc (v := 2) (lv' := [(3, .int 2), (2, .int 0), (6, .int 0), (5, .int 0), (4, .int 0), (0, .ref h0), (1, .ref h2)]) hx hb dX8_signsFor_101 hl (k := 4) rfl (by decide) (by decide) rfl (fun ls hl => ?_)
  refine lv_goto (tgt := 4) hx hb dX8_signsFor_104 (by decide) ?_
  refine lv_iload_n hx hb dX8_signsFor_4 rfl (lv_at hl 0 rfl) ?_
  refine lv_aload_n hx hb dX8_signsFor_5 rfl (lv_at hl 5 rfl) ?_
  refine va_get (D := D) (ci := 8) (v := .int 2) (C := RX8) (T := TX8) (N := 18) hx hb hB inB_X8 hown hK.1 hP 0 rfl rfl 1 (by decide) (hB _ mw_28) (fun _ h9 => h9) rfl dX8_signsFor_6 ?_
  refine lv_icmp_ge (tgt := 107) hx hb dX8_signsFor_9 (by decide) (fun _ => ?_) (fun h9 => absurd (by decide) h9)
  refine lv_iload_n hx hb dX8_signsFor_107 rfl (lv_at hl 1 rfl) ?_
  exact kr_z hx hb hr rfl hlocks hP hD hS [(h0, .inr (8, [v0, .int 2, v1, v2, v3, v4, v5, v6, v7, v8, v9, v10, v11, v12, .ref h1, v13, v14, v15])), (h1, .inl (ty 1, 17, .inl (upd (upd (upd (kf 0) 0 0) 1 0) 2 0)))] [0, 1] (by decide) rfl ⟨rfl, rfl⟩ (by decide) (by decide) dX8_signsFor_108
set_option maxHeartbeats 4000000 in
set_option maxRecDepth 100000 in
theorem c113_X11_signs (l : Launch) (D : va_G) (ty : Nat → ClassId) (sz : Nat) (h0 : Nat) (h1 : Nat) (h2 : Nat) (h3 : Nat) (h4 : Nat) (p0 : Int32) (v0 : Value) (v1 : Value) (v2 : Value) (v3 : Value) (v4 : Value) (v5 : Value) (v6 : Value) (v7 : Value) (v8 : Value) (v9 : Value) (v10 : Value) (v11 : Value) (v12 : Value) (v13 : Value) (v14 : Value) (h5 : Nat) (h6 : Nat) (v15 : Value) (v16 : Value) (v17 : Value) (v18 : Value) (v19 : Value) (v20 : Value) (v21 : Value) (v22 : Value) (v23 : Value) (v24 : Value) (v25 : Value) (v26 : Value) (v27 : Value) (v28 : Value) (v29 : Value) (v30 : Value) : cQ l yX11_signs cX11_signs 2 (some .int) 1 26 [.ref h0, .int p0] D ty [(h0, .inr (11, [v0, v1, v2, .ref h1, v3, v4, v5, v6, v7, v8, v9, v10, v11, v12, v13])), (h1, .inr (5, [.ref h3, .ref h2, v14])), (h2, .inl (ty 6, 2, .inr (.inr (.inr (.inr (wy2 h5 h6)))))), (h3, .inr (8, [v15, .int 2, v16, v17, v18, v19, v20, v21, v22, v23, v24, v25, v26, v27, .ref h4, v28, v29, v30])), (h4, .inl (ty 1, 17, .inl (upd (upd (upd (kf 0) 0 0) 1 0) 2 0)))] sz (qI (fun (r : Int32) (u : va_W) => (((((p0 < 0)) ∨ ((¬ (p0 < 0)) ∧ (2 ≤ p0)))) ∧ (-2) = r ∧ [] = u) ∨ (((((¬ (p0 < 0)) ∧ (¬ (2 ≤ p0))) ∧ (p0 = 0)) ∨ (((¬ (p0 < 0)) ∧ (¬ (2 ≤ p0))) ∧ (p0 = 1))) ∧ 0 = r ∧ [] = u))) 0 0 := by
  refine cQ.of (by decide) (Nat.le_of_ble_eq_true rfl) (fun p e s m below meth c A ls C hsz hP hK hD hA hl => ?_)
  obtain ⟨hx, hb, hml, hown, hB, hr, hlocks, hin⟩ := C
  have hown : s.vm.findClass RX11 = some m.cls := hown
  have hS : va_S A s.heap s.heap [] := va_S.rf
  have hl : lv_has ls 2 [(0, .ref h0), (1, .int p0)] := hl
  refine lv_iload_n hx hb dX11_signs_0 rfl (lv_at hl 1 rfl) ?_
  refine kc_i (va_runS (As := [.int p0]) (rest := []) ⟨hx, hb, hml, hown, hB⟩ (c38_X11_isGiving l D ty s.heap.size p0) (va_cwS 1 hB (bw_S mw_253 mw_254 mw_216 mw_252) rfl rfl rfl (by decide +kernel) ⟨Nat.le_of_ble_eq_true rfl, Nat.le_of_ble_eq_true rfl⟩) (kp_S hK hP hD [] (by decide) rfl) rfl rfl hl.1 rfl (lv_room (Nat.le_of_ble_eq_true rfl)) dX11_signs_1 ⟨Nat.le_of_ble_eq_true rfl, Nat.le_of_ble_eq_true rfl⟩) hP hD hS hA [] [0, 1, 2, 3, 4] (wr := [(h0, .inr (11, [v0, v1, v2, .ref h1, v3, v4, v5, v6, v7, v8, v9, v10, v11, v12, v13])), (h1, .inr (5, [.ref h3, .ref h2, v14])), (h2, .inl (ty 6, 2, .inr (.inr (.inr (.inr (wy2 h5 h6)))))), (h3, .inr (8, [v15, .int 2, v16, v17, v18, v19, v20, v21, v22, v23, v24, v25, v26, v27, .ref h4, v28, v29, v30])), (h4, .inl (ty 1, 17, .inl (upd (upd (upd (kf 0) 0 0) 1 0) 2 0)))]) rfl rfl (by decide) (by decide) (fun r u H locs w1 hP hD hS => ?_)
  rcases w1 with ⟨c2, rfl, rfl⟩ | ⟨c3, rfl, rfl⟩
  · have hP : va_P D vwCl [(h0, .inr (11, [v0, v1, v2, .ref h1, v3, v4, v5, v6, v7, v8, v9, v10, v11, v12, v13])), (h1, .inr (5, [.ref h3, .ref h2, v14])), (h2, .inl (ty 6, 2, .inr (.inr (.inr (.inr (wy2 h5 h6)))))), (h3, .inr (8, [v15, .int 2, v16, v17, v18, v19, v20, v21, v22, v23, v24, v25, v26, v27, .ref h4, v28, v29, v30])), (h4, .inl (ty 1, 17, .inl (upd (upd (upd (kf 0) 0 0) 1 0) 2 0)))] H := hP
    have hD : va_D A [(h0, .inr (11, [v0, v1, v2, .ref h1, v3, v4, v5, v6, v7, v8, v9, v10, v11, v12, v13])), (h1, .inr (5, [.ref h3, .ref h2, v14])), (h2, .inl (ty 6, 2, .inr (.inr (.inr (.inr (wy2 h5 h6)))))), (h3, .inr (8, [v15, .int 2, v16, v17, v18, v19, v20, v21, v22, v23, v24, v25, v26, v27, .ref h4, v28, v29, v30])), (h4, .inl (ty 1, 17, .inl (upd (upd (upd (kf 0) 0 0) 1 0) 2 0)))] := hD
    refine lv_if_eq (tgt := 29) hx hb dX11_signs_4 (by decide) (fun _ => ?_) (fun h9 => absurd (by decide) h9)
    refine lv_bipush (v := (-2)) hx hb dX11_signs_29 (by decide) ?_
    exact kr_z hx hb hr rfl hlocks hP hD hS [] [] (by decide) rfl (Or.inl ⟨c2, rfl, rfl⟩) (by decide) (by decide) dX11_signs_31
  · have hP : va_P D vwCl [(h0, .inr (11, [v0, v1, v2, .ref h1, v3, v4, v5, v6, v7, v8, v9, v10, v11, v12, v13])), (h1, .inr (5, [.ref h3, .ref h2, v14])), (h2, .inl (ty 6, 2, .inr (.inr (.inr (.inr (wy2 h5 h6)))))), (h3, .inr (8, [v15, .int 2, v16, v17, v18, v19, v20, v21, v22, v23, v24, v25, v26, v27, .ref h4, v28, v29, v30])), (h4, .inl (ty 1, 17, .inl (upd (upd (upd (kf 0) 0 0) 1 0) 2 0)))] H := hP
    have hD : va_D A [(h0, .inr (11, [v0, v1, v2, .ref h1, v3, v4, v5, v6, v7, v8, v9, v10, v11, v12, v13])), (h1, .inr (5, [.ref h3, .ref h2, v14])), (h2, .inl (ty 6, 2, .inr (.inr (.inr (.inr (wy2 h5 h6)))))), (h3, .inr (8, [v15, .int 2, v16, v17, v18, v19, v20, v21, v22, v23, v24, v25, v26, v27, .ref h4, v28, v29, v30])), (h4, .inl (ty 1, 17, .inl (upd (upd (upd (kf 0) 0 0) 1 0) 2 0)))] := hD
    refine lv_if_eq (tgt := 29) hx hb dX11_signs_4 (by decide) (fun h9 => absurd h9 (by decide)) (fun _ => ?_)
    refine lv_aload_n hx hb dX11_signs_7 rfl (lv_at hl 0 rfl) ?_
    refine va_get (D := D) (ci := 11) (v := .ref h1) (C := RX11) (T := TX11) (N := 15) hx hb hB inB_X11 hown hK.1 hP 0 rfl rfl 3 (by decide) (hB _ mw_85) (fun _ h9 => h9) rfl dX11_signs_8 ?_
    refine va_get (D := D) (ci := 5) (v := .ref h3) (C := RX5) (T := TX5) (N := 3) hx hb hB inB_X5 hown hK.1 hP 1 rfl rfl 0 (by decide) (hB _ mw_150) (fun _ h9 => h9) rfl dX11_signs_11 ?_
    refine lv_aload_n hx hb dX11_signs_14 rfl (lv_at hl 0 rfl) ?_
    refine va_get (D := D) (ci := 11) (v := .ref h1) (C := RX11) (T := TX11) (N := 15) hx hb hB inB_X11 hown hK.1 hP 0 rfl rfl 3 (by decide) (hB _ mw_85) (fun _ h9 => h9) rfl dX11_signs_15 ?_
    refine va_get (D := D) (ci := 5) (v := .ref h2) (C := RX5) (T := TX5) (N := 3) hx hb hB inB_X5 hown hK.1 hP 1 rfl rfl 1 (by decide) (hB _ mw_267) (fun _ h9 => h9) rfl dX11_signs_18 ?_
    refine lv_iload_n hx hb dX11_signs_21 rfl (lv_at hl 1 rfl) ?_
    rcases ps_2 p0 c3 with rfl | rfl
    · refine va_aldA hx hb hK.1 hP 2 6 rfl rfl (by unfold vp_in; decide) dX11_signs_22 ?_
      refine tp_v (v := .ref h5) rfl ?_
      refine kc_i (va_runV (As := [.ref h5]) (rest := []) ⟨hx, hb, hml, hown, hB⟩ (c114_X8_signsFor l D ty H.size h3 h4 h5 v15 v16 v17 v18 v19 v20 v21 v22 v23 v24 v25 v26 v27 v28 v29 v30) (cwV 1 hB (bw_V mw_388 mw_389 mw_390 mw_25 mw_387) rfl rfl rfl (by decide +kernel) ⟨Nat.le_of_ble_eq_true rfl, Nat.le_of_ble_eq_true rfl⟩) (kp_V hK hP hD [3, 4] (by decide) rfl 3 rfl rfl rfl) rfl rfl hl.1 rfl (lv_room (Nat.le_of_ble_eq_true rfl)) dX11_signs_23 ⟨Nat.le_of_ble_eq_true rfl, Nat.le_of_ble_eq_true rfl⟩) hP hD hS hA [3, 4] [0, 1, 2] (wr := [(h0, .inr (11, [v0, v1, v2, .ref h1, v3, v4, v5, v6, v7, v8, v9, v10, v11, v12, v13])), (h1, .inr (5, [.ref h3, .ref h2, v14])), (h2, .inl (ty 6, 2, .inr (.inr (.inr (.inr (wy2 h5 h6))))))]) rfl rfl (by decide) (by decide) (fun r u H locs w4 hP hD hS => ?_)
      obtain ⟨rfl, rfl⟩ := w4
      have hP : va_P D vwCl [(h0, .inr (11, [v0, v1, v2, .ref h1, v3, v4, v5, v6, v7, v8, v9, v10, v11, v12, v13])), (h1, .inr (5, [.ref h3, .ref h2, v14])), (h2, .inl (ty 6, 2, .inr (.inr (.inr (.inr (wy2 h5 h6)))))), (h3, .inr (8, [v15, .int 2, v16, v17, v18, v19, v20, v21, v22, v23, v24, v25, v26, v27, .ref h4, v28, v29, v30])), (h4, .inl (ty 1, 17, .inl (upd (upd (upd (kf 0) 0 0) 1 0) 2 0)))] H := hP
      have hD : va_D A [(h0, .inr (11, [v0, v1, v2, .ref h1, v3, v4, v5, v6, v7, v8, v9, v10, v11, v12, v13])), (h1, .inr (5, [.ref h3, .ref h2, v14])), (h2, .inl (ty 6, 2, .inr (.inr (.inr (.inr (wy2 h5 h6)))))), (h3, .inr (8, [v15, .int 2, v16, v17, v18, v19, v20, v21, v22, v23, v24, v25, v26, v27, .ref h4, v28, v29, v30])), (h4, .inl (ty 1, 17, .inl (upd (upd (upd (kf 0) 0 0) 1 0) 2 0)))] := hD
      refine lv_goto (tgt := 31) hx hb dX11_signs_26 (by decide) ?_
      exact kr_z hx hb hr rfl hlocks hP hD hS [] [] (by decide) rfl (Or.inr ⟨(Or.inl ⟨c3, rfl⟩), rfl, rfl⟩) (by decide) (by decide) dX11_signs_31
    · refine va_aldA hx hb hK.1 hP 2 6 rfl rfl (by unfold vp_in; decide) dX11_signs_22 ?_
      refine tp_v (v := .ref h6) rfl ?_
      refine kc_i (va_runV (As := [.ref h6]) (rest := []) ⟨hx, hb, hml, hown, hB⟩ (c114_X8_signsFor l D ty H.size h3 h4 h6 v15 v16 v17 v18 v19 v20 v21 v22 v23 v24 v25 v26 v27 v28 v29 v30) (cwV 1 hB (bw_V mw_388 mw_389 mw_390 mw_25 mw_387) rfl rfl rfl (by decide +kernel) ⟨Nat.le_of_ble_eq_true rfl, Nat.le_of_ble_eq_true rfl⟩) (kp_V hK hP hD [3, 4] (by decide) rfl 3 rfl rfl rfl) rfl rfl hl.1 rfl (lv_room (Nat.le_of_ble_eq_true rfl)) dX11_signs_23 ⟨Nat.le_of_ble_eq_true rfl, Nat.le_of_ble_eq_true rfl⟩) hP hD hS hA [3, 4] [0, 1, 2] (wr := [(h0, .inr (11, [v0, v1, v2, .ref h1, v3, v4, v5, v6, v7, v8, v9, v10, v11, v12, v13])), (h1, .inr (5, [.ref h3, .ref h2, v14])), (h2, .inl (ty 6, 2, .inr (.inr (.inr (.inr (wy2 h5 h6))))))]) rfl rfl (by decide) (by decide) (fun r u H locs w5 hP hD hS => ?_)
      obtain ⟨rfl, rfl⟩ := w5
      have hP : va_P D vwCl [(h0, .inr (11, [v0, v1, v2, .ref h1, v3, v4, v5, v6, v7, v8, v9, v10, v11, v12, v13])), (h1, .inr (5, [.ref h3, .ref h2, v14])), (h2, .inl (ty 6, 2, .inr (.inr (.inr (.inr (wy2 h5 h6)))))), (h3, .inr (8, [v15, .int 2, v16, v17, v18, v19, v20, v21, v22, v23, v24, v25, v26, v27, .ref h4, v28, v29, v30])), (h4, .inl (ty 1, 17, .inl (upd (upd (upd (kf 0) 0 0) 1 0) 2 0)))] H := hP
      have hD : va_D A [(h0, .inr (11, [v0, v1, v2, .ref h1, v3, v4, v5, v6, v7, v8, v9, v10, v11, v12, v13])), (h1, .inr (5, [.ref h3, .ref h2, v14])), (h2, .inl (ty 6, 2, .inr (.inr (.inr (.inr (wy2 h5 h6)))))), (h3, .inr (8, [v15, .int 2, v16, v17, v18, v19, v20, v21, v22, v23, v24, v25, v26, v27, .ref h4, v28, v29, v30])), (h4, .inl (ty 1, 17, .inl (upd (upd (upd (kf 0) 0 0) 1 0) 2 0)))] := hD
      refine lv_goto (tgt := 31) hx hb dX11_signs_26 (by decide) ?_
      exact kr_z hx hb hr rfl hlocks hP hD hS [] [] (by decide) rfl (Or.inr ⟨(Or.inr ⟨c3, rfl⟩), rfl, rfl⟩) (by decide) (by decide) dX11_signs_31
set_option maxHeartbeats 4000000 in
set_option maxRecDepth 100000 in
theorem c115_X11_gone (l : Launch) (D : va_G) (ty : Nat → ClassId) (sz : Nat) (h0 : Nat) (h1 : Nat) (h2 : Nat) (h3 : Nat) (p0 : Int32) (p1 : Int32) (p2 : Int32) (v0 : Value) (v1 : Value) (v2 : Value) (v3 : Value) (v4 : Value) (v5 : Value) (v6 : Value) (v7 : Value) (v8 : Value) (v9 : Value) (v10 : Value) (v11 : Value) (v12 : Value) (v13 : Value) (v14 : Value) (v15 : Value) (v16 : Value) (v17 : Value) (v18 : Value) (v19 : Value) (v20 : Value) (v21 : Value) (v22 : Value) (v23 : Value) (v24 : Value) (v25 : Value) (v26 : Value) (v27 : Value) (v28 : Value) (v29 : Value) (v30 : Value) (v31 : Value) (v32 : Value) (v33 : Value) (v34 : Value) (v35 : Value) : cQ l yX11_gone cX11_gone 4 (some .int) 1 21 [.ref h0, .int p0, .int p1, .int p2] D ty [(h0, .inr (11, [v0, v1, v2, .ref h1, v3, v4, v5, v6, v7, v8, v9, v10, v11, v12, v13])), (h1, .inr (5, [.ref h2, v14, v15])), (h2, .inr (8, [v16, v17, v18, v19, v20, v21, v22, v23, v24, v25, v26, v27, .ref h3, v28, v29, v30, v31, v32])), (h3, .inr (1, [.int 0, v33, v34, v35]))] sz (qI (fun (r : Int32) (u : va_W) => (-2) = r ∧ [] = u)) 0 0 := by
  refine cQ.of (by decide) (Nat.le_of_ble_eq_true rfl) (fun p e s m below meth c A ls C hsz hP hK hD hA hl => ?_)
  obtain ⟨hx, hb, hml, hown, hB, hr, hlocks, hin⟩ := C
  have hown : s.vm.findClass RX11 = some m.cls := hown
  have hS : va_S A s.heap s.heap [] := va_S.rf
  have hl : lv_has ls 4 [(0, .ref h0), (1, .int p0), (2, .int p1), (3, .int p2)] := hl
  refine lv_iload_n hx hb dX11_gone_0 rfl (lv_at hl 1 rfl) ?_
  refine kc_i (va_runS (As := [.int p0]) (rest := []) ⟨hx, hb, hml, hown, hB⟩ (c38_X11_isGiving l D ty s.heap.size p0) (va_cwS 1 hB (bw_S mw_253 mw_254 mw_216 mw_252) rfl rfl rfl (by decide +kernel) ⟨Nat.le_of_ble_eq_true rfl, Nat.le_of_ble_eq_true rfl⟩) (kp_S hK hP hD [] (by decide) rfl) rfl rfl hl.1 rfl (lv_room (Nat.le_of_ble_eq_true rfl)) dX11_gone_1 ⟨Nat.le_of_ble_eq_true rfl, Nat.le_of_ble_eq_true rfl⟩) hP hD hS hA [] [0, 1, 2, 3] (wr := [(h0, .inr (11, [v0, v1, v2, .ref h1, v3, v4, v5, v6, v7, v8, v9, v10, v11, v12, v13])), (h1, .inr (5, [.ref h2, v14, v15])), (h2, .inr (8, [v16, v17, v18, v19, v20, v21, v22, v23, v24, v25, v26, v27, .ref h3, v28, v29, v30, v31, v32])), (h3, .inr (1, [.int 0, v33, v34, v35]))]) rfl rfl (by decide) (by decide) (fun r u H locs w1 hP hD hS => ?_)
  rcases w1 with ⟨c2, rfl, rfl⟩ | ⟨c3, rfl, rfl⟩
  · have hP : va_P D vwCl [(h0, .inr (11, [v0, v1, v2, .ref h1, v3, v4, v5, v6, v7, v8, v9, v10, v11, v12, v13])), (h1, .inr (5, [.ref h2, v14, v15])), (h2, .inr (8, [v16, v17, v18, v19, v20, v21, v22, v23, v24, v25, v26, v27, .ref h3, v28, v29, v30, v31, v32])), (h3, .inr (1, [.int 0, v33, v34, v35]))] H := hP
    have hD : va_D A [(h0, .inr (11, [v0, v1, v2, .ref h1, v3, v4, v5, v6, v7, v8, v9, v10, v11, v12, v13])), (h1, .inr (5, [.ref h2, v14, v15])), (h2, .inr (8, [v16, v17, v18, v19, v20, v21, v22, v23, v24, v25, v26, v27, .ref h3, v28, v29, v30, v31, v32])), (h3, .inr (1, [.int 0, v33, v34, v35]))] := hD
    refine lv_if_eq (tgt := 15) hx hb dX11_gone_4 (by decide) (fun _ => ?_) (fun h9 => absurd (by decide) h9)
    refine lv_bipush (v := (-2)) hx hb dX11_gone_15 (by decide) ?_
    exact kr_z hx hb hr rfl hlocks hP hD hS [] [] (by decide) rfl ⟨rfl, rfl⟩ (by decide) (by decide) dX11_gone_17
  · have hP : va_P D vwCl [(h0, .inr (11, [v0, v1, v2, .ref h1, v3, v4, v5, v6, v7, v8, v9, v10, v11, v12, v13])), (h1, .inr (5, [.ref h2, v14, v15])), (h2, .inr (8, [v16, v17, v18, v19, v20, v21, v22, v23, v24, v25, v26, v27, .ref h3, v28, v29, v30, v31, v32])), (h3, .inr (1, [.int 0, v33, v34, v35]))] H := hP
    have hD : va_D A [(h0, .inr (11, [v0, v1, v2, .ref h1, v3, v4, v5, v6, v7, v8, v9, v10, v11, v12, v13])), (h1, .inr (5, [.ref h2, v14, v15])), (h2, .inr (8, [v16, v17, v18, v19, v20, v21, v22, v23, v24, v25, v26, v27, .ref h3, v28, v29, v30, v31, v32])), (h3, .inr (1, [.int 0, v33, v34, v35]))] := hD
    refine lv_if_eq (tgt := 15) hx hb dX11_gone_4 (by decide) (fun h9 => absurd h9 (by decide)) (fun _ => ?_)
    refine lv_aload_n hx hb dX11_gone_7 rfl (lv_at hl 0 rfl) ?_
    refine lv_iload_n hx hb dX11_gone_8 rfl (lv_at hl 2 rfl) ?_
    refine kc_i (va_runV (As := [.int p1]) (rest := []) ⟨hx, hb, hml, hown, hB⟩ (c73_X11_isJourney l D ty H.size h0 h1 h2 h3 p1 v0 v1 v2 v3 v4 v5 v6 v7 v8 v9 v10 v11 v12 v13 v14 v15 v16 v17 v18 v19 v20 v21 v22 v23 v24 v25 v26 v27 v28 v29 v30 v31 v32 v33 v34 v35) (cwV 1 hB (bw_V mw_324 mw_325 mw_326 mw_216 mw_323) rfl rfl rfl (by decide +kernel) ⟨Nat.le_of_ble_eq_true rfl, Nat.le_of_ble_eq_true rfl⟩) (kp_V hK hP hD [0, 1, 2, 3] (by decide) rfl 0 rfl rfl rfl) rfl rfl hl.1 rfl (lv_room (Nat.le_of_ble_eq_true rfl)) dX11_gone_9 ⟨Nat.le_of_ble_eq_true rfl, Nat.le_of_ble_eq_true rfl⟩) hP hD hS hA [0, 1, 2, 3] [] (wr := []) rfl rfl (by decide) (by decide) (fun r u H locs w4 hP hD hS => ?_)
    obtain ⟨rfl, rfl⟩ := w4
    have hP : va_P D vwCl [(h0, .inr (11, [v0, v1, v2, .ref h1, v3, v4, v5, v6, v7, v8, v9, v10, v11, v12, v13])), (h1, .inr (5, [.ref h2, v14, v15])), (h2, .inr (8, [v16, v17, v18, v19, v20, v21, v22, v23, v24, v25, v26, v27, .ref h3, v28, v29, v30, v31, v32])), (h3, .inr (1, [.int 0, v33, v34, v35]))] H := hP
    have hD : va_D A [(h0, .inr (11, [v0, v1, v2, .ref h1, v3, v4, v5, v6, v7, v8, v9, v10, v11, v12, v13])), (h1, .inr (5, [.ref h2, v14, v15])), (h2, .inr (8, [v16, v17, v18, v19, v20, v21, v22, v23, v24, v25, v26, v27, .ref h3, v28, v29, v30, v31, v32])), (h3, .inr (1, [.int 0, v33, v34, v35]))] := hD
    refine lv_if_ne (tgt := 18) hx hb dX11_gone_12 (by decide) (fun h9 => absurd (by decide) h9) (fun _ => ?_)
    refine lv_bipush (v := (-2)) hx hb dX11_gone_15 (by decide) ?_
    exact kr_z hx hb hr rfl hlocks hP hD hS [] [] (by decide) rfl ⟨rfl, rfl⟩ (by decide) (by decide) dX11_gone_17
set_option maxHeartbeats 4000000 in
set_option maxRecDepth 100000 in
theorem c116_X11_load (l : Launch) (D : va_G) (ty : Nat → ClassId) (sz : Nat) (h0 : Nat) (h1 : Nat) (h2 : Nat) (p0 : Int32) (p1 : Int32) (v0 : Value) (v1 : Value) (v2 : Value) (v3 : Value) (v4 : Value) (v5 : Value) (v6 : Value) (v7 : Value) (v8 : Value) (v9 : Value) (v10 : Value) (v11 : Value) (v12 : Value) (v13 : Value) (v14 : Value) (v15 : Value) (v16 : Value) (v17 : Value) (v18 : Value) (v19 : Value) (v20 : Value) (v21 : Value) (v22 : Value) (v23 : Value) (v24 : Value) (v25 : Value) (v26 : Value) (v27 : Value) (v28 : Value) (v29 : Value) (v30 : Value) (v31 : Value) (v32 : Value) : cQ l yX11_load cX11_load 3 (some .int) 1 21 [.ref h0, .int p0, .int p1] D ty [(h0, .inr (11, [v0, v1, v2, .ref h1, v3, v4, v5, v6, v7, v8, v9, v10, v11, v12, v13])), (h1, .inr (5, [.ref h2, v14, v15])), (h2, .inr (8, [v16, v17, .int 0, v18, v19, v20, v21, v22, v23, v24, v25, v26, v27, v28, v29, v30, v31, v32]))] sz (qI (fun (r : Int32) (u : va_W) => (-2) = r ∧ [] = u)) 0 0 := by
  refine cQ.of (by decide) (Nat.le_of_ble_eq_true rfl) (fun p e s m below meth c A ls C hsz hP hK hD hA hl => ?_)
  obtain ⟨hx, hb, hml, hown, hB, hr, hlocks, hin⟩ := C
  have hown : s.vm.findClass RX11 = some m.cls := hown
  have hS : va_S A s.heap s.heap [] := va_S.rf
  have hl : lv_has ls 3 [(0, .ref h0), (1, .int p0), (2, .int p1)] := hl
  refine lv_iload_n hx hb dX11_load_0 rfl (lv_at hl 1 rfl) ?_
  refine kc_i (va_runS (As := [.int p0]) (rest := []) ⟨hx, hb, hml, hown, hB⟩ (c38_X11_isGiving l D ty s.heap.size p0) (va_cwS 1 hB (bw_S mw_253 mw_254 mw_216 mw_252) rfl rfl rfl (by decide +kernel) ⟨Nat.le_of_ble_eq_true rfl, Nat.le_of_ble_eq_true rfl⟩) (kp_S hK hP hD [] (by decide) rfl) rfl rfl hl.1 rfl (lv_room (Nat.le_of_ble_eq_true rfl)) dX11_load_1 ⟨Nat.le_of_ble_eq_true rfl, Nat.le_of_ble_eq_true rfl⟩) hP hD hS hA [] [0, 1, 2] (wr := [(h0, .inr (11, [v0, v1, v2, .ref h1, v3, v4, v5, v6, v7, v8, v9, v10, v11, v12, v13])), (h1, .inr (5, [.ref h2, v14, v15])), (h2, .inr (8, [v16, v17, .int 0, v18, v19, v20, v21, v22, v23, v24, v25, v26, v27, v28, v29, v30, v31, v32]))]) rfl rfl (by decide) (by decide) (fun r u H locs w1 hP hD hS => ?_)
  rcases w1 with ⟨c2, rfl, rfl⟩ | ⟨c3, rfl, rfl⟩
  · have hP : va_P D vwCl [(h0, .inr (11, [v0, v1, v2, .ref h1, v3, v4, v5, v6, v7, v8, v9, v10, v11, v12, v13])), (h1, .inr (5, [.ref h2, v14, v15])), (h2, .inr (8, [v16, v17, .int 0, v18, v19, v20, v21, v22, v23, v24, v25, v26, v27, v28, v29, v30, v31, v32]))] H := hP
    have hD : va_D A [(h0, .inr (11, [v0, v1, v2, .ref h1, v3, v4, v5, v6, v7, v8, v9, v10, v11, v12, v13])), (h1, .inr (5, [.ref h2, v14, v15])), (h2, .inr (8, [v16, v17, .int 0, v18, v19, v20, v21, v22, v23, v24, v25, v26, v27, v28, v29, v30, v31, v32]))] := hD
    refine lv_if_eq (tgt := 15) hx hb dX11_load_4 (by decide) (fun _ => ?_) (fun h9 => absurd (by decide) h9)
    refine lv_bipush (v := (-2)) hx hb dX11_load_15 (by decide) ?_
    exact kr_z hx hb hr rfl hlocks hP hD hS [] [] (by decide) rfl ⟨rfl, rfl⟩ (by decide) (by decide) dX11_load_17
  · have hP : va_P D vwCl [(h0, .inr (11, [v0, v1, v2, .ref h1, v3, v4, v5, v6, v7, v8, v9, v10, v11, v12, v13])), (h1, .inr (5, [.ref h2, v14, v15])), (h2, .inr (8, [v16, v17, .int 0, v18, v19, v20, v21, v22, v23, v24, v25, v26, v27, v28, v29, v30, v31, v32]))] H := hP
    have hD : va_D A [(h0, .inr (11, [v0, v1, v2, .ref h1, v3, v4, v5, v6, v7, v8, v9, v10, v11, v12, v13])), (h1, .inr (5, [.ref h2, v14, v15])), (h2, .inr (8, [v16, v17, .int 0, v18, v19, v20, v21, v22, v23, v24, v25, v26, v27, v28, v29, v30, v31, v32]))] := hD
    refine lv_if_eq (tgt := 15) hx hb dX11_load_4 (by decide) (fun h9 => absurd h9 (by decide)) (fun _ => ?_)
    refine lv_aload_n hx hb dX11_load_7 rfl (lv_at hl 0 rfl) ?_
    refine lv_iload_n hx hb dX11_load_8 rfl (lv_at hl 2 rfl) ?_
    refine kc_i (va_runV (As := [.int p1]) (rest := []) ⟨hx, hb, hml, hown, hB⟩ (c39_X11_isAlley l D ty H.size h0 h1 h2 p1 v0 v1 v2 v3 v4 v5 v6 v7 v8 v9 v10 v11 v12 v13 v14 v15 v16 v17 v18 v19 v20 v21 v22 v23 v24 v25 v26 v27 v28 v29 v30 v31 v32) (cwV 1 hB (bw_V mw_257 mw_258 mw_259 mw_216 mw_256) rfl rfl rfl (by decide +kernel) ⟨Nat.le_of_ble_eq_true rfl, Nat.le_of_ble_eq_true rfl⟩) (kp_V hK hP hD [0, 1, 2] (by decide) rfl 0 rfl rfl rfl) rfl rfl hl.1 rfl (lv_room (Nat.le_of_ble_eq_true rfl)) dX11_load_9 ⟨Nat.le_of_ble_eq_true rfl, Nat.le_of_ble_eq_true rfl⟩) hP hD hS hA [0, 1, 2] [] (wr := []) rfl rfl (by decide) (by decide) (fun r u H locs w4 hP hD hS => ?_)
    obtain ⟨rfl, rfl⟩ := w4
    have hP : va_P D vwCl [(h0, .inr (11, [v0, v1, v2, .ref h1, v3, v4, v5, v6, v7, v8, v9, v10, v11, v12, v13])), (h1, .inr (5, [.ref h2, v14, v15])), (h2, .inr (8, [v16, v17, .int 0, v18, v19, v20, v21, v22, v23, v24, v25, v26, v27, v28, v29, v30, v31, v32]))] H := hP
    have hD : va_D A [(h0, .inr (11, [v0, v1, v2, .ref h1, v3, v4, v5, v6, v7, v8, v9, v10, v11, v12, v13])), (h1, .inr (5, [.ref h2, v14, v15])), (h2, .inr (8, [v16, v17, .int 0, v18, v19, v20, v21, v22, v23, v24, v25, v26, v27, v28, v29, v30, v31, v32]))] := hD
    refine lv_if_ne (tgt := 18) hx hb dX11_load_12 (by decide) (fun h9 => absurd (by decide) h9) (fun _ => ?_)
    refine lv_bipush (v := (-2)) hx hb dX11_load_15 (by decide) ?_
    exact kr_z hx hb hr rfl hlocks hP hD hS [] [] (by decide) rfl ⟨rfl, rfl⟩ (by decide) (by decide) dX11_load_17
set_option maxHeartbeats 4000000 in
set_option maxRecDepth 100000 in
theorem c118_X2_carryAll (l : Launch) (D : va_G) (ty : Nat → ClassId) (sz : Nat) (h0 : Nat) (h1 : Nat) (h2 : Nat) (h3 : Nat) (h4 : Nat) (v0 : Value) (v1 : Value) (v2 : Value) (v3 : Value) (v4 : Value) (f0 : Nat → Int32) (v5 : Value) (v6 : Value) (v7 : Value) (v8 : Value) (v9 : Value) (v10 : Value) (v11 : Value) (v12 : Value) (v13 : Value) (v14 : Value) (v15 : Value) (v16 : Value) (v17 : Value) (v18 : Value) (v19 : Value) (v20 : Value) (v21 : Value) (v22 : Value) (v23 : Value) (v24 : Value) : cQ l yX2_carryAll cX2_carryAll 6 none 1 23 [.ref h0, .ref h2, .ref h4] D ty [(h0, .inr (2, [v0, v1, .ref h1, v2, v3, v4])), (h1, .inl (ty 1, 28, .inl f0)), (h2, .inr (8, [v5, v6, v7, v8, v9, v10, v11, v12, v13, v14, v15, v16, .ref h3, v17, v18, v19, v20, v21])), (h3, .inr (1, [.int 0, v22, v23, v24]))] sz (qV (fun (u : va_W) => [(h0, .inr (2, [v0, v1, .ref h1, v2, v3, v4])), (h2, .inr (8, [v5, v6, v7, v8, v9, v10, v11, v12, v13, v14, v15, v16, .ref h3, v17, v18, v19, v20, v21])), (h3, .inr (1, [.int 0, v22, v23, v24])), (h1, .inl (ty 1, 28, .inl (kf 0)))] = u)) 0 0 := by
  refine cQ.of (by decide) (Nat.le_of_ble_eq_true rfl) (fun p e s m below meth c A ls C hsz hP hK hD hA hl => ?_)
  obtain ⟨hx, hb, hml, hown, hB, hr, hlocks, hin⟩ := C
  have hown : s.vm.findClass RX2 = some m.cls := hown
  have hS : va_S A s.heap s.heap [] := va_S.rf
  have hl : lv_has ls 6 [(0, .ref h0), (1, .ref h2), (2, .ref h4)] := hl
  refine lv_aload_n hx hb dX2_carryAll_0 rfl (lv_at hl 0 rfl) ?_
  refine va_get (D := D) (ci := 2) (v := .ref h1) (C := RX2) (T := TX2) (N := 6) hx hb hB inB_X2 hown hK.1 hP 0 rfl rfl 2 (by decide) (hB _ mw_96) (fun _ h9 => h9) rfl dX2_carryAll_1 ?_
  refine lv_iconst (v := 0) hx hb dX2_carryAll_4 (by decide) ?_
  refine kc_v (va_runS (As := [.ref h1, .int 0]) (rest := []) ⟨hx, hb, hml, hown, hB⟩ (c_fillI l D ty s.heap.size h1 28 f0 0 (by decide)) (va_cwS 2 hB (bw_S mw_159 mw_160 mw_161 mw_158) rfl rfl rfl (by decide +kernel) ⟨Nat.le_of_ble_eq_true rfl, Nat.le_of_ble_eq_true rfl⟩) (kp_S hK hP hD [1] (by decide) rfl) rfl rfl hl.1 rfl (lv_room (Nat.le_of_ble_eq_true rfl)) dX2_carryAll_5 ⟨Nat.le_of_ble_eq_true rfl, Nat.le_of_ble_eq_true rfl⟩) hP hD hS hA [1] [0, 2, 3] (wr := [(h0, .inr (2, [v0, v1, .ref h1, v2, v3, v4])), (h2, .inr (8, [v5, v6, v7, v8, v9, v10, v11, v12, v13, v14, v15, v16, .ref h3, v17, v18, v19, v20, v21])), (h3, .inr (1, [.int 0, v22, v23, v24]))]) rfl rfl (by decide) (by decide) (fun u H locs w1 hP hD hS => ?_)
  subst w1
  have hP : va_P D vwCl [(h0, .inr (2, [v0, v1, .ref h1, v2, v3, v4])), (h2, .inr (8, [v5, v6, v7, v8, v9, v10, v11, v12, v13, v14, v15, v16, .ref h3, v17, v18, v19, v20, v21])), (h3, .inr (1, [.int 0, v22, v23, v24])), (h1, .inl (ty 1, 28, .inl (kf 0)))] H := hP
  have hD : va_D A [(h0, .inr (2, [v0, v1, .ref h1, v2, v3, v4])), (h2, .inr (8, [v5, v6, v7, v8, v9, v10, v11, v12, v13, v14, v15, v16, .ref h3, v17, v18, v19, v20, v21])), (h3, .inr (1, [.int 0, v22, v23, v24])), (h1, .inl (ty 1, 28, .inl (kf 0)))] := hD
  refine lv_iconst (v := 0) hx hb dX2_carryAll_8 (by decide) ?_
  refine lv_istore_n (lv' := [(3, .int 0), (0, .ref h0), (1, .ref h2), (2, .ref h4)]) hx hb dX2_carryAll_9 rfl hl (by decide) rfl (fun ls hl => ?_)
  refine lv_iload_n hx hb dX2_carryAll_10 rfl (lv_at hl 0 rfl) ?_
  refine lv_aload_n hx hb dX2_carryAll_11 rfl (lv_at hl 2 rfl) ?_
  refine va_get (D := D) (ci := 8) (v := .ref h3) (C := RX8) (T := TX8) (N := 18) hx hb hB inB_X8 hown hK.1 hP 1 rfl rfl 12 (by decide) (hB _ mw_328) (fun _ h9 => h9) rfl dX2_carryAll_12 ?_
  refine va_get (D := D) (ci := 1) (v := .int 0) (C := RX1) (T := TX1) (N := 4) hx hb hB inB_X1 hown hK.1 hP 2 rfl rfl 0 (by decide) (hB _ mw_329) (fun _ h9 => h9) rfl dX2_carryAll_15 ?_
  refine lv_icmp_ge (tgt := 107) hx hb dX2_carryAll_18 (by decide) (fun _ => ?_) (fun h9 => absurd (by decide) h9)
  exact kr_v hx hb hr hlocks hP hD hS [(h0, .inr (2, [v0, v1, .ref h1, v2, v3, v4])), (h2, .inr (8, [v5, v6, v7, v8, v9, v10, v11, v12, v13, v14, v15, v16, .ref h3, v17, v18, v19, v20, v21])), (h3, .inr (1, [.int 0, v22, v23, v24])), (h1, .inl (ty 1, 28, .inl (kf 0)))] [0, 1, 2, 3] (by decide) rfl rfl (by decide) (by decide) dX2_carryAll_107
set_option maxHeartbeats 4000000 in
set_option maxRecDepth 100000 in
theorem c117_X11_busiest (l : Launch) (D : va_G) (ty : Nat → ClassId) (sz : Nat) (h0 : Nat) (h1 : Nat) (h2 : Nat) (h3 : Nat) (h4 : Nat) (h5 : Nat) (h6 : Nat) (p0 : Int32) (v0 : Value) (v1 : Value) (v2 : Value) (v3 : Value) (v4 : Value) (v5 : Value) (v6 : Value) (v7 : Value) (v8 : Value) (v9 : Value) (v10 : Value) (v11 : Value) (v12 : Value) (v13 : Value) (h7 : Nat) (h8 : Nat) (v14 : Value) (v15 : Value) (v16 : Value) (v17 : Value) (v18 : Value) (f0 : Nat → Int32) (v19 : Value) (v20 : Value) (v21 : Value) (v22 : Value) (v23 : Value) (v24 : Value) (v25 : Value) (v26 : Value) (v27 : Value) (v28 : Value) (v29 : Value) (v30 : Value) (v31 : Value) (v32 : Value) (v33 : Value) (v34 : Value) (v35 : Value) (v36 : Value) (v37 : Value) : cQ l yX11_busiest cX11_busiest 4 (some .int) 2 48 [.ref h0, .int p0] D ty [(h0, .inr (11, [v0, v1, v2, .ref h1, v3, v4, .ref h3, v5, v6, v7, v8, v9, v10, v11, v12])), (h1, .inr (5, [.ref h5, .ref h2, v13])), (h2, .inl (ty 6, 2, .inr (.inr (.inr (.inr (wy2 h7 h8)))))), (h3, .inr (2, [v14, v15, .ref h4, v16, v17, v18])), (h4, .inl (ty 1, 28, .inl f0)), (h5, .inr (8, [v19, v20, .int 0, v21, v22, v23, v24, v25, v26, v27, v28, v29, .ref h6, v30, v31, v32, v33, v34])), (h6, .inr (1, [.int 0, v35, v36, v37]))] sz (qI (fun (r : Int32) (u : va_W) => (((((p0 < 0)) ∨ ((¬ (p0 < 0)) ∧ (2 ≤ p0)))) ∧ (-2) = r ∧ [] = u) ∨ (((((¬ (p0 < 0)) ∧ (¬ (2 ≤ p0))) ∧ (p0 = 0)) ∨ (((¬ (p0 < 0)) ∧ (¬ (2 ≤ p0))) ∧ (p0 = 1))) ∧ (-1) = r ∧ [] = u))) 0 0 := by
  refine cQ.of (by decide) (Nat.le_of_ble_eq_true rfl) (fun p e s m below meth c A ls C hsz hP hK hD hA hl => ?_)
  obtain ⟨hx, hb, hml, hown, hB, hr, hlocks, hin⟩ := C
  have hown : s.vm.findClass RX11 = some m.cls := hown
  have hS : va_S A s.heap s.heap [] := va_S.rf
  have hl : lv_has ls 4 [(0, .ref h0), (1, .int p0)] := hl
  refine lv_iload_n hx hb dX11_busiest_0 rfl (lv_at hl 1 rfl) ?_
  refine kc_i (va_runS (As := [.int p0]) (rest := []) ⟨hx, hb, hml, hown, hB⟩ (c38_X11_isGiving l D ty s.heap.size p0) (va_cwS 1 hB (bw_S mw_253 mw_254 mw_216 mw_252) rfl rfl rfl (by decide +kernel) ⟨Nat.le_of_ble_eq_true rfl, Nat.le_of_ble_eq_true rfl⟩) (kp_S hK hP hD [] (by decide) rfl) rfl rfl hl.1 rfl (lv_room (Nat.le_of_ble_eq_true rfl)) dX11_busiest_1 ⟨Nat.le_of_ble_eq_true rfl, Nat.le_of_ble_eq_true rfl⟩) hP hD hS hA [] [0, 1, 2, 3, 4, 5, 6] (wr := [(h0, .inr (11, [v0, v1, v2, .ref h1, v3, v4, .ref h3, v5, v6, v7, v8, v9, v10, v11, v12])), (h1, .inr (5, [.ref h5, .ref h2, v13])), (h2, .inl (ty 6, 2, .inr (.inr (.inr (.inr (wy2 h7 h8)))))), (h3, .inr (2, [v14, v15, .ref h4, v16, v17, v18])), (h4, .inl (ty 1, 28, .inl f0)), (h5, .inr (8, [v19, v20, .int 0, v21, v22, v23, v24, v25, v26, v27, v28, v29, .ref h6, v30, v31, v32, v33, v34])), (h6, .inr (1, [.int 0, v35, v36, v37]))]) rfl rfl (by decide) (by decide) (fun r u H locs w1 hP hD hS => ?_)
  rcases w1 with ⟨c2, rfl, rfl⟩ | ⟨c3, rfl, rfl⟩
  · have hP : va_P D vwCl [(h0, .inr (11, [v0, v1, v2, .ref h1, v3, v4, .ref h3, v5, v6, v7, v8, v9, v10, v11, v12])), (h1, .inr (5, [.ref h5, .ref h2, v13])), (h2, .inl (ty 6, 2, .inr (.inr (.inr (.inr (wy2 h7 h8)))))), (h3, .inr (2, [v14, v15, .ref h4, v16, v17, v18])), (h4, .inl (ty 1, 28, .inl f0)), (h5, .inr (8, [v19, v20, .int 0, v21, v22, v23, v24, v25, v26, v27, v28, v29, .ref h6, v30, v31, v32, v33, v34])), (h6, .inr (1, [.int 0, v35, v36, v37]))] H := hP
    have hD : va_D A [(h0, .inr (11, [v0, v1, v2, .ref h1, v3, v4, .ref h3, v5, v6, v7, v8, v9, v10, v11, v12])), (h1, .inr (5, [.ref h5, .ref h2, v13])), (h2, .inl (ty 6, 2, .inr (.inr (.inr (.inr (wy2 h7 h8)))))), (h3, .inr (2, [v14, v15, .ref h4, v16, v17, v18])), (h4, .inl (ty 1, 28, .inl f0)), (h5, .inr (8, [v19, v20, .int 0, v21, v22, v23, v24, v25, v26, v27, v28, v29, .ref h6, v30, v31, v32, v33, v34])), (h6, .inr (1, [.int 0, v35, v36, v37]))] := hD
    refine lv_if_ne (tgt := 10) hx hb dX11_busiest_4 (by decide) (fun h9 => absurd (by decide) h9) (fun _ => ?_)
    refine lv_bipush (v := (-2)) hx hb dX11_busiest_7 (by decide) ?_
    exact kr_z hx hb hr rfl hlocks hP hD hS [] [] (by decide) rfl (Or.inl ⟨c2, rfl, rfl⟩) (by decide) (by decide) dX11_busiest_9
  · have hP : va_P D vwCl [(h0, .inr (11, [v0, v1, v2, .ref h1, v3, v4, .ref h3, v5, v6, v7, v8, v9, v10, v11, v12])), (h1, .inr (5, [.ref h5, .ref h2, v13])), (h2, .inl (ty 6, 2, .inr (.inr (.inr (.inr (wy2 h7 h8)))))), (h3, .inr (2, [v14, v15, .ref h4, v16, v17, v18])), (h4, .inl (ty 1, 28, .inl f0)), (h5, .inr (8, [v19, v20, .int 0, v21, v22, v23, v24, v25, v26, v27, v28, v29, .ref h6, v30, v31, v32, v33, v34])), (h6, .inr (1, [.int 0, v35, v36, v37]))] H := hP
    have hD : va_D A [(h0, .inr (11, [v0, v1, v2, .ref h1, v3, v4, .ref h3, v5, v6, v7, v8, v9, v10, v11, v12])), (h1, .inr (5, [.ref h5, .ref h2, v13])), (h2, .inl (ty 6, 2, .inr (.inr (.inr (.inr (wy2 h7 h8)))))), (h3, .inr (2, [v14, v15, .ref h4, v16, v17, v18])), (h4, .inl (ty 1, 28, .inl f0)), (h5, .inr (8, [v19, v20, .int 0, v21, v22, v23, v24, v25, v26, v27, v28, v29, .ref h6, v30, v31, v32, v33, v34])), (h6, .inr (1, [.int 0, v35, v36, v37]))] := hD
    refine lv_if_ne (tgt := 10) hx hb dX11_busiest_4 (by decide) (fun _ => ?_) (fun h9 => absurd h9 (by decide))
    refine lv_aload_n hx hb dX11_busiest_10 rfl (lv_at hl 0 rfl) ?_
    refine va_get (D := D) (ci := 11) (v := .ref h3) (C := RX11) (T := TX11) (N := 15) hx hb hB inB_X11 hown hK.1 hP 0 rfl rfl 6 (by decide) (hB _ mw_102) (fun _ h9 => h9) rfl dX11_busiest_11 ?_
    refine lv_aload_n hx hb dX11_busiest_14 rfl (lv_at hl 0 rfl) ?_
    refine va_get (D := D) (ci := 11) (v := .ref h1) (C := RX11) (T := TX11) (N := 15) hx hb hB inB_X11 hown hK.1 hP 0 rfl rfl 3 (by decide) (hB _ mw_85) (fun _ h9 => h9) rfl dX11_busiest_15 ?_
    refine va_get (D := D) (ci := 5) (v := .ref h5) (C := RX5) (T := TX5) (N := 3) hx hb hB inB_X5 hown hK.1 hP 1 rfl rfl 0 (by decide) (hB _ mw_150) (fun _ h9 => h9) rfl dX11_busiest_18 ?_
    refine lv_aload_n hx hb dX11_busiest_21 rfl (lv_at hl 0 rfl) ?_
    refine va_get (D := D) (ci := 11) (v := .ref h1) (C := RX11) (T := TX11) (N := 15) hx hb hB inB_X11 hown hK.1 hP 0 rfl rfl 3 (by decide) (hB _ mw_85) (fun _ h9 => h9) rfl dX11_busiest_22 ?_
    refine va_get (D := D) (ci := 5) (v := .ref h2) (C := RX5) (T := TX5) (N := 3) hx hb hB inB_X5 hown hK.1 hP 1 rfl rfl 1 (by decide) (hB _ mw_267) (fun _ h9 => h9) rfl dX11_busiest_25 ?_
    refine lv_iload_n hx hb dX11_busiest_28 rfl (lv_at hl 1 rfl) ?_
    rcases ps_2 p0 c3 with rfl | rfl
    · refine va_aldA hx hb hK.1 hP 2 6 rfl rfl (by unfold vp_in; decide) dX11_busiest_29 ?_
      refine tp_v (v := .ref h7) rfl ?_
      refine kc_v (va_runV (As := [.ref h5, .ref h7]) (rest := []) ⟨hx, hb, hml, hown, hB⟩ (c118_X2_carryAll l D ty H.size h3 h4 h5 h6 h7 v14 v15 v16 v17 v18 f0 v19 v20 (.int 0) v21 v22 v23 v24 v25 v26 v27 v28 v29 v30 v31 v32 v33 v34 v35 v36 v37) (cwV 2 hB (bw_V mw_392 mw_393 mw_394 mw_92 mw_391) rfl rfl rfl (by decide +kernel) ⟨Nat.le_of_ble_eq_true rfl, Nat.le_of_ble_eq_true rfl⟩) (kp_V hK hP hD [3, 4, 5, 6] (by decide) rfl 3 rfl rfl rfl) rfl rfl hl.1 rfl (lv_room (Nat.le_of_ble_eq_true rfl)) dX11_busiest_30 ⟨Nat.le_of_ble_eq_true rfl, Nat.le_of_ble_eq_true rfl⟩) hP hD hS hA [3, 4, 5, 6] [0, 1, 2] (wr := [(h0, .inr (11, [v0, v1, v2, .ref h1, v3, v4, .ref h3, v5, v6, v7, v8, v9, v10, v11, v12])), (h1, .inr (5, [.ref h5, .ref h2, v13])), (h2, .inl (ty 6, 2, .inr (.inr (.inr (.inr (wy2 h7 h8))))))]) rfl rfl (by decide) (by decide) (fun u H locs w4 hP hD hS => ?_)
      subst w4
      have hP : va_P D vwCl [(h0, .inr (11, [v0, v1, v2, .ref h1, v3, v4, .ref h3, v5, v6, v7, v8, v9, v10, v11, v12])), (h1, .inr (5, [.ref h5, .ref h2, v13])), (h2, .inl (ty 6, 2, .inr (.inr (.inr (.inr (wy2 h7 h8)))))), (h3, .inr (2, [v14, v15, .ref h4, v16, v17, v18])), (h5, .inr (8, [v19, v20, .int 0, v21, v22, v23, v24, v25, v26, v27, v28, v29, .ref h6, v30, v31, v32, v33, v34])), (h6, .inr (1, [.int 0, v35, v36, v37])), (h4, .inl (ty 1, 28, .inl (kf 0)))] H := hP
      have hD : va_D A [(h0, .inr (11, [v0, v1, v2, .ref h1, v3, v4, .ref h3, v5, v6, v7, v8, v9, v10, v11, v12])), (h1, .inr (5, [.ref h5, .ref h2, v13])), (h2, .inl (ty 6, 2, .inr (.inr (.inr (.inr (wy2 h7 h8)))))), (h3, .inr (2, [v14, v15, .ref h4, v16, v17, v18])), (h5, .inr (8, [v19, v20, .int 0, v21, v22, v23, v24, v25, v26, v27, v28, v29, .ref h6, v30, v31, v32, v33, v34])), (h6, .inr (1, [.int 0, v35, v36, v37])), (h4, .inl (ty 1, 28, .inl (kf 0)))] := hD
      refine lv_iconst (v := (-1)) hx hb dX11_busiest_33 (by decide) ?_
      refine lv_istore_n (lv' := [(2, .int (-1)), (0, .ref h0), (1, .int 0)]) hx hb dX11_busiest_34 rfl hl (by decide) rfl (fun ls hl => ?_)
      refine lv_iconst (v := 0) hx hb dX11_busiest_35 (by decide) ?_
      refine lv_istore_n (lv' := [(3, .int 0), (2, .int (-1)), (0, .ref h0), (1, .int 0)]) hx hb dX11_busiest_36 rfl hl (by decide) rfl (fun ls hl => ?_)
      refine lv_iload_n hx hb dX11_busiest_37 rfl (lv_at hl 0 rfl) ?_
      refine lv_aload_n hx hb dX11_busiest_38 rfl (lv_at hl 2 rfl) ?_
      refine va_get (D := D) (ci := 11) (v := .ref h1) (C := RX11) (T := TX11) (N := 15) hx hb hB inB_X11 hown hK.1 hP 0 rfl rfl 3 (by decide) (hB _ mw_85) (fun _ h9 => h9) rfl dX11_busiest_39 ?_
      refine va_get (D := D) (ci := 5) (v := .ref h5) (C := RX5) (T := TX5) (N := 3) hx hb hB inB_X5 hown hK.1 hP 1 rfl rfl 0 (by decide) (hB _ mw_150) (fun _ h9 => h9) rfl dX11_busiest_42 ?_
      refine va_get (D := D) (ci := 8) (v := .int 0) (C := RX8) (T := TX8) (N := 18) hx hb hB inB_X8 hown hK.1 hP 4 rfl rfl 2 (by decide) (hB _ mw_255) (fun _ h9 => h9) rfl dX11_busiest_45 ?_
      refine lv_icmp_ge (tgt := 85) hx hb dX11_busiest_48 (by decide) (fun _ => ?_) (fun h9 => absurd (by decide) h9)
      refine lv_iload_n hx hb dX11_busiest_85 rfl (lv_at hl 1 rfl) ?_
      exact kr_z hx hb hr rfl hlocks hP hD hS [] [] (by decide) rfl (Or.inr ⟨(Or.inl ⟨c3, rfl⟩), rfl, rfl⟩) (by decide) (by decide) dX11_busiest_86
    · refine va_aldA hx hb hK.1 hP 2 6 rfl rfl (by unfold vp_in; decide) dX11_busiest_29 ?_
      refine tp_v (v := .ref h8) rfl ?_
      refine kc_v (va_runV (As := [.ref h5, .ref h8]) (rest := []) ⟨hx, hb, hml, hown, hB⟩ (c118_X2_carryAll l D ty H.size h3 h4 h5 h6 h8 v14 v15 v16 v17 v18 f0 v19 v20 (.int 0) v21 v22 v23 v24 v25 v26 v27 v28 v29 v30 v31 v32 v33 v34 v35 v36 v37) (cwV 2 hB (bw_V mw_392 mw_393 mw_394 mw_92 mw_391) rfl rfl rfl (by decide +kernel) ⟨Nat.le_of_ble_eq_true rfl, Nat.le_of_ble_eq_true rfl⟩) (kp_V hK hP hD [3, 4, 5, 6] (by decide) rfl 3 rfl rfl rfl) rfl rfl hl.1 rfl (lv_room (Nat.le_of_ble_eq_true rfl)) dX11_busiest_30 ⟨Nat.le_of_ble_eq_true rfl, Nat.le_of_ble_eq_true rfl⟩) hP hD hS hA [3, 4, 5, 6] [0, 1, 2] (wr := [(h0, .inr (11, [v0, v1, v2, .ref h1, v3, v4, .ref h3, v5, v6, v7, v8, v9, v10, v11, v12])), (h1, .inr (5, [.ref h5, .ref h2, v13])), (h2, .inl (ty 6, 2, .inr (.inr (.inr (.inr (wy2 h7 h8))))))]) rfl rfl (by decide) (by decide) (fun u H locs w5 hP hD hS => ?_)
      subst w5
      have hP : va_P D vwCl [(h0, .inr (11, [v0, v1, v2, .ref h1, v3, v4, .ref h3, v5, v6, v7, v8, v9, v10, v11, v12])), (h1, .inr (5, [.ref h5, .ref h2, v13])), (h2, .inl (ty 6, 2, .inr (.inr (.inr (.inr (wy2 h7 h8)))))), (h3, .inr (2, [v14, v15, .ref h4, v16, v17, v18])), (h5, .inr (8, [v19, v20, .int 0, v21, v22, v23, v24, v25, v26, v27, v28, v29, .ref h6, v30, v31, v32, v33, v34])), (h6, .inr (1, [.int 0, v35, v36, v37])), (h4, .inl (ty 1, 28, .inl (kf 0)))] H := hP
      have hD : va_D A [(h0, .inr (11, [v0, v1, v2, .ref h1, v3, v4, .ref h3, v5, v6, v7, v8, v9, v10, v11, v12])), (h1, .inr (5, [.ref h5, .ref h2, v13])), (h2, .inl (ty 6, 2, .inr (.inr (.inr (.inr (wy2 h7 h8)))))), (h3, .inr (2, [v14, v15, .ref h4, v16, v17, v18])), (h5, .inr (8, [v19, v20, .int 0, v21, v22, v23, v24, v25, v26, v27, v28, v29, .ref h6, v30, v31, v32, v33, v34])), (h6, .inr (1, [.int 0, v35, v36, v37])), (h4, .inl (ty 1, 28, .inl (kf 0)))] := hD
      refine lv_iconst (v := (-1)) hx hb dX11_busiest_33 (by decide) ?_
      refine lv_istore_n (lv' := [(2, .int (-1)), (0, .ref h0), (1, .int 1)]) hx hb dX11_busiest_34 rfl hl (by decide) rfl (fun ls hl => ?_)
      refine lv_iconst (v := 0) hx hb dX11_busiest_35 (by decide) ?_
      refine lv_istore_n (lv' := [(3, .int 0), (2, .int (-1)), (0, .ref h0), (1, .int 1)]) hx hb dX11_busiest_36 rfl hl (by decide) rfl (fun ls hl => ?_)
      refine lv_iload_n hx hb dX11_busiest_37 rfl (lv_at hl 0 rfl) ?_
      refine lv_aload_n hx hb dX11_busiest_38 rfl (lv_at hl 2 rfl) ?_
      refine va_get (D := D) (ci := 11) (v := .ref h1) (C := RX11) (T := TX11) (N := 15) hx hb hB inB_X11 hown hK.1 hP 0 rfl rfl 3 (by decide) (hB _ mw_85) (fun _ h9 => h9) rfl dX11_busiest_39 ?_
      refine va_get (D := D) (ci := 5) (v := .ref h5) (C := RX5) (T := TX5) (N := 3) hx hb hB inB_X5 hown hK.1 hP 1 rfl rfl 0 (by decide) (hB _ mw_150) (fun _ h9 => h9) rfl dX11_busiest_42 ?_
      refine va_get (D := D) (ci := 8) (v := .int 0) (C := RX8) (T := TX8) (N := 18) hx hb hB inB_X8 hown hK.1 hP 4 rfl rfl 2 (by decide) (hB _ mw_255) (fun _ h9 => h9) rfl dX11_busiest_45 ?_
      refine lv_icmp_ge (tgt := 85) hx hb dX11_busiest_48 (by decide) (fun _ => ?_) (fun h9 => absurd (by decide) h9)
      refine lv_iload_n hx hb dX11_busiest_85 rfl (lv_at hl 1 rfl) ?_
      exact kr_z hx hb hr rfl hlocks hP hD hS [] [] (by decide) rfl (Or.inr ⟨(Or.inr ⟨c3, rfl⟩), rfl, rfl⟩) (by decide) (by decide) dX11_busiest_86
