set_option maxHeartbeats 4000000 in
set_option maxRecDepth 100000 in
theorem c36_X11_fault (l : Launch) (D : va_G) (ty : Nat → ClassId) (sz : Nat) (h0 : Nat) (h1 : Nat) (p0 : Int32) (v0 : Value) (v1 : Value) (v2 : Value) (v3 : Value) (v4 : Value) (v5 : Value) (v6 : Value) (v7 : Value) (v8 : Value) (v9 : Value) (v10 : Value) (v11 : Value) (v12 : Value) (v13 : Value) (v14 : Value) (v15 : Value) : cQ l yX11_fault cX11_fault 2 (some .int) 0 0 [.ref h0, .int p0] D ty [(h0, .inr (11, [v0, v1, .ref h1, v2, v3, v4, v5, v6, v7, v8, v9, v10, v11, v12, v13])), (h1, .inr (9, [v14, v15, .int 0, .int (-1)]))] sz (qI (fun (r : Int32) (u : va_W) => ((((¬ (p0 = 0)) ∧ (¬ (p0 = 1))) ∨ ((¬ (p0 = 0)) ∧ (p0 = 1))) ∧ (-1) = r ∧ [] = u) ∨ (((p0 = 0)) ∧ 0 = r ∧ [] = u))) 0 0 := by
  refine cQ.of (by decide) (Nat.le_of_ble_eq_true rfl) (fun p e s m below meth c A ls C hsz hP hK hD hA hl => ?_)
  obtain ⟨hx, hb, hml, hown, hB, hr, hlocks, hin⟩ := C
  have hown : s.vm.findClass RX11 = some m.cls := hown
  have hS : va_S A s.heap s.heap [] := va_S.rf
  have hl : lv_has ls 2 [(0, .ref h0), (1, .int p0)] := hl
  refine lv_iload_n hx hb dX11_fault_0 rfl (lv_at hl 1 rfl) ?_
  refine lv_if_ne (tgt := 12) hx hb dX11_fault_1 (by decide) (fun c1 => ?_) (fun c1 => ?_)
  · refine lv_iload_n hx hb dX11_fault_12 rfl (lv_at hl 1 rfl) ?_
    refine lv_iconst (v := 1) hx hb dX11_fault_13 (by decide) ?_
    refine lv_icmp_ne (tgt := 27) hx hb dX11_fault_14 (by decide) (fun c2 => ?_) (fun c2 => ?_)
    · refine lv_iconst (v := (-1)) hx hb dX11_fault_27 (by decide) ?_
      exact kr_z hx hb hr rfl hlocks hP hD hS [] [] (by decide) rfl (Or.inl ⟨(Or.inl ⟨c1, c2⟩), rfl, rfl⟩) (by decide) (by decide) dX11_fault_28
    · refine lv_aload_n hx hb dX11_fault_17 rfl (lv_at hl 0 rfl) ?_
      refine va_get (D := D) (ci := 11) (v := .ref h1) (C := RX11) (T := TX11) (N := 15) hx hb hB inB_X11 hown hK.1 hP 0 rfl rfl 2 (by decide) (hB _ mw_73) (fun _ h9 => h9) rfl dX11_fault_18 ?_
      refine va_get (D := D) (ci := 9) (v := .int (-1)) (C := RX9) (T := TX9) (N := 4) hx hb hB inB_X9 hown hK.1 hP 1 rfl rfl 3 (by decide) (hB _ mw_250) (fun _ h9 => h9) rfl dX11_fault_21 ?_
      refine lv_goto (tgt := 28) hx hb dX11_fault_24 (by decide) ?_
      exact kr_z hx hb hr rfl hlocks hP hD hS [] [] (by decide) rfl (Or.inl ⟨(Or.inr ⟨c1, c2⟩), rfl, rfl⟩) (by decide) (by decide) dX11_fault_28
  · refine lv_aload_n hx hb dX11_fault_4 rfl (lv_at hl 0 rfl) ?_
    refine va_get (D := D) (ci := 11) (v := .ref h1) (C := RX11) (T := TX11) (N := 15) hx hb hB inB_X11 hown hK.1 hP 0 rfl rfl 2 (by decide) (hB _ mw_73) (fun _ h9 => h9) rfl dX11_fault_5 ?_
    refine va_get (D := D) (ci := 9) (v := .int 0) (C := RX9) (T := TX9) (N := 4) hx hb hB inB_X9 hown hK.1 hP 1 rfl rfl 2 (by decide) (hB _ mw_251) (fun _ h9 => h9) rfl dX11_fault_8 ?_
    exact kr_z hx hb hr rfl hlocks hP hD hS [] [] (by decide) rfl (Or.inr ⟨c1, rfl, rfl⟩) (by decide) (by decide) dX11_fault_11
set_option maxHeartbeats 4000000 in
set_option maxRecDepth 100000 in
theorem c38_X11_isGiving (l : Launch) (D : va_G) (ty : Nat → ClassId) (sz : Nat) (p0 : Int32) : cQ l yX11_isGiving cX11_isGiving 1 (some .boolean) 0 0 [.int p0] D ty [] sz (qI (fun (r : Int32) (u : va_W) => ((((p0 < 0)) ∨ ((¬ (p0 < 0)) ∧ (2 ≤ p0))) ∧ 0 = r ∧ [] = u) ∨ (((¬ (p0 < 0)) ∧ (¬ (2 ≤ p0))) ∧ 1 = r ∧ [] = u))) 0 0 := by
  refine cQ.of (by decide) (Nat.le_of_ble_eq_true rfl) (fun p e s m below meth c A ls C hsz hP hK hD hA hl => ?_)
  obtain ⟨hx, hb, hml, hown, hB, hr, hlocks, hin⟩ := C
  have hown : s.vm.findClass RX11 = some m.cls := hown
  have hS : va_S A s.heap s.heap [] := va_S.rf
  have hl : lv_has ls 1 [(0, .int p0)] := hl
  refine lv_iload_n hx hb dX11_isGiving_0 rfl (lv_at hl 0 rfl) ?_
  refine lv_if_lt (tgt := 13) hx hb dX11_isGiving_1 (by decide) (fun c1 => ?_) (fun c1 => ?_)
  · refine lv_iconst (v := 0) hx hb dX11_isGiving_13 (by decide) ?_
    exact kr_z hx hb hr rfl hlocks hP hD hS [] [] (by decide) rfl (Or.inl ⟨(Or.inl c1), rfl, rfl⟩) (by decide) (by decide) dX11_isGiving_14
  · refine lv_iload_n hx hb dX11_isGiving_4 rfl (lv_at hl 0 rfl) ?_
    refine lv_iconst (v := 2) hx hb dX11_isGiving_5 (by decide) ?_
    refine lv_icmp_ge (tgt := 13) hx hb dX11_isGiving_6 (by decide) (fun c2 => ?_) (fun c2 => ?_)
    · refine lv_iconst (v := 0) hx hb dX11_isGiving_13 (by decide) ?_
      exact kr_z hx hb hr rfl hlocks hP hD hS [] [] (by decide) rfl (Or.inl ⟨(Or.inr ⟨c1, c2⟩), rfl, rfl⟩) (by decide) (by decide) dX11_isGiving_14
    · refine lv_iconst (v := 1) hx hb dX11_isGiving_9 (by decide) ?_
      refine lv_goto (tgt := 14) hx hb dX11_isGiving_10 (by decide) ?_
      exact kr_z hx hb hr rfl hlocks hP hD hS [] [] (by decide) rfl (Or.inr ⟨⟨c1, c2⟩, rfl, rfl⟩) (by decide) (by decide) dX11_isGiving_14
set_option maxHeartbeats 4000000 in
set_option maxRecDepth 100000 in
theorem c39_X11_isAlley (l : Launch) (D : va_G) (ty : Nat → ClassId) (sz : Nat) (h0 : Nat) (h1 : Nat) (h2 : Nat) (p0 : Int32) (v0 : Value) (v1 : Value) (v2 : Value) (v3 : Value) (v4 : Value) (v5 : Value) (v6 : Value) (v7 : Value) (v8 : Value) (v9 : Value) (v10 : Value) (v11 : Value) (v12 : Value) (v13 : Value) (v14 : Value) (v15 : Value) (v16 : Value) (v17 : Value) (v18 : Value) (v19 : Value) (v20 : Value) (v21 : Value) (v22 : Value) (v23 : Value) (v24 : Value) (v25 : Value) (v26 : Value) (v27 : Value) (v28 : Value) (v29 : Value) (v30 : Value) (v31 : Value) (v32 : Value) : cQ l yX11_isAlley cX11_isAlley 2 (some .boolean) 0 0 [.ref h0, .int p0] D ty [(h0, .inr (11, [v0, v1, v2, .ref h1, v3, v4, v5, v6, v7, v8, v9, v10, v11, v12, v13])), (h1, .inr (5, [.ref h2, v14, v15])), (h2, .inr (8, [v16, v17, .int 0, v18, v19, v20, v21, v22, v23, v24, v25, v26, v27, v28, v29, v30, v31, v32]))] sz (qI (fun (r : Int32) (u : va_W) => 0 = r ∧ [(h0, .inr (11, [v0, v1, v2, .ref h1, v3, v4, v5, v6, v7, v8, v9, v10, v11, v12, v13])), (h1, .inr (5, [.ref h2, v14, v15])), (h2, .inr (8, [v16, v17, .int 0, v18, v19, v20, v21, v22, v23, v24, v25, v26, v27, v28, v29, v30, v31, v32]))] = u)) 0 0 := by
  refine cQ.of (by decide) (Nat.le_of_ble_eq_true rfl) (fun p e s m below meth c A ls C hsz hP hK hD hA hl => ?_)
  obtain ⟨hx, hb, hml, hown, hB, hr, hlocks, hin⟩ := C
  have hown : s.vm.findClass RX11 = some m.cls := hown
  have hS : va_S A s.heap s.heap [] := va_S.rf
  have hl : lv_has ls 2 [(0, .ref h0), (1, .int p0)] := hl
  refine lv_iload_n hx hb dX11_isAlley_0 rfl (lv_at hl 1 rfl) ?_
  refine lv_if_lt (tgt := 22) hx hb dX11_isAlley_1 (by decide) (fun c1 => ?_) (fun c1 => ?_)
  · refine lv_iconst (v := 0) hx hb dX11_isAlley_22 (by decide) ?_
    exact kr_z hx hb hr rfl hlocks hP hD hS [(h0, .inr (11, [v0, v1, v2, .ref h1, v3, v4, v5, v6, v7, v8, v9, v10, v11, v12, v13])), (h1, .inr (5, [.ref h2, v14, v15])), (h2, .inr (8, [v16, v17, .int 0, v18, v19, v20, v21, v22, v23, v24, v25, v26, v27, v28, v29, v30, v31, v32]))] [0, 1, 2] (by decide) rfl ⟨rfl, rfl⟩ (by decide) (by decide) dX11_isAlley_23
  · refine lv_iload_n hx hb dX11_isAlley_4 rfl (lv_at hl 1 rfl) ?_
    refine lv_aload_n hx hb dX11_isAlley_5 rfl (lv_at hl 0 rfl) ?_
    refine va_get (D := D) (ci := 11) (v := .ref h1) (C := RX11) (T := TX11) (N := 15) hx hb hB inB_X11 hown hK.1 hP 0 rfl rfl 3 (by decide) (hB _ mw_85) (fun _ h9 => h9) rfl dX11_isAlley_6 ?_
    refine va_get (D := D) (ci := 5) (v := .ref h2) (C := RX5) (T := TX5) (N := 3) hx hb hB inB_X5 hown hK.1 hP 1 rfl rfl 0 (by decide) (hB _ mw_150) (fun _ h9 => h9) rfl dX11_isAlley_9 ?_
    refine va_get (D := D) (ci := 8) (v := .int 0) (C := RX8) (T := TX8) (N := 18) hx hb hB inB_X8 hown hK.1 hP 2 rfl rfl 2 (by decide) (hB _ mw_255) (fun _ h9 => h9) rfl dX11_isAlley_12 ?_
    refine lv_icmp_ge (tgt := 22) hx hb dX11_isAlley_15 (by decide) (fun _ => ?_) (fun h9 => (ps_0 p0 c1 h9).elim)
    refine lv_iconst (v := 0) hx hb dX11_isAlley_22 (by decide) ?_
    exact kr_z hx hb hr rfl hlocks hP hD hS [(h0, .inr (11, [v0, v1, v2, .ref h1, v3, v4, v5, v6, v7, v8, v9, v10, v11, v12, v13])), (h1, .inr (5, [.ref h2, v14, v15])), (h2, .inr (8, [v16, v17, .int 0, v18, v19, v20, v21, v22, v23, v24, v25, v26, v27, v28, v29, v30, v31, v32]))] [0, 1, 2] (by decide) rfl ⟨rfl, rfl⟩ (by decide) (by decide) dX11_isAlley_23
set_option maxHeartbeats 4000000 in
set_option maxRecDepth 100000 in
theorem c37_X11_give (l : Launch) (D : va_G) (ty : Nat → ClassId) (sz : Nat) (h0 : Nat) (h1 : Nat) (h2 : Nat) (p0 : Int32) (p1 : Int32) (p2 : Int32) (v0 : Value) (v1 : Value) (v2 : Value) (v3 : Value) (v4 : Value) (v5 : Value) (v6 : Value) (v7 : Value) (v8 : Value) (v9 : Value) (v10 : Value) (v11 : Value) (v12 : Value) (v13 : Value) (v14 : Value) (v15 : Value) (v16 : Value) (v17 : Value) (v18 : Value) (v19 : Value) (v20 : Value) (v21 : Value) (v22 : Value) (v23 : Value) (v24 : Value) (v25 : Value) (v26 : Value) (v27 : Value) (v28 : Value) (v29 : Value) (v30 : Value) (v31 : Value) (v32 : Value) : cQ l yX11_give cX11_give 5 (some .int) 1 21 [.ref h0, .int p0, .int p1, .int p2] D ty [(h0, .inr (11, [v0, v1, v2, .ref h1, v3, v4, v5, v6, v7, v8, v9, v10, v11, v12, v13])), (h1, .inr (5, [.ref h2, v14, v15])), (h2, .inr (8, [v16, v17, .int 0, v18, v19, v20, v21, v22, v23, v24, v25, v26, v27, v28, v29, v30, v31, v32]))] sz (qI (fun (r : Int32) (u : va_W) => (-2) = r ∧ [] = u)) 0 0 := by
  refine cQ.of (by decide) (Nat.le_of_ble_eq_true rfl) (fun p e s m below meth c A ls C hsz hP hK hD hA hl => ?_)
  obtain ⟨hx, hb, hml, hown, hB, hr, hlocks, hin⟩ := C
  have hown : s.vm.findClass RX11 = some m.cls := hown
  have hS : va_S A s.heap s.heap [] := va_S.rf
  have hl : lv_has ls 5 [(0, .ref h0), (1, .int p0), (2, .int p1), (3, .int p2)] := hl
  refine lv_iload_n hx hb dX11_give_0 rfl (lv_at hl 1 rfl) ?_
  refine kc_i (va_runS (As := [.int p0]) (rest := []) ⟨hx, hb, hml, hown, hB⟩ (c38_X11_isGiving l D ty s.heap.size p0) (va_cwS 1 hB (bw_S mw_253 mw_254 mw_216 mw_252) rfl rfl rfl (by decide +kernel) ⟨Nat.le_of_ble_eq_true rfl, Nat.le_of_ble_eq_true rfl⟩) (kp_S hK hP hD [] (by decide) rfl) rfl rfl hl.1 rfl (lv_room (Nat.le_of_ble_eq_true rfl)) dX11_give_1 ⟨Nat.le_of_ble_eq_true rfl, Nat.le_of_ble_eq_true rfl⟩) hP hD hS hA [] [0, 1, 2] (wr := [(h0, .inr (11, [v0, v1, v2, .ref h1, v3, v4, v5, v6, v7, v8, v9, v10, v11, v12, v13])), (h1, .inr (5, [.ref h2, v14, v15])), (h2, .inr (8, [v16, v17, .int 0, v18, v19, v20, v21, v22, v23, v24, v25, v26, v27, v28, v29, v30, v31, v32]))]) rfl rfl (by decide) (by decide) (fun r u H locs w1 hP hD hS => ?_)
  rcases w1 with ⟨c2, rfl, rfl⟩ | ⟨c3, rfl, rfl⟩
  · have hP : va_P D vwCl [(h0, .inr (11, [v0, v1, v2, .ref h1, v3, v4, v5, v6, v7, v8, v9, v10, v11, v12, v13])), (h1, .inr (5, [.ref h2, v14, v15])), (h2, .inr (8, [v16, v17, .int 0, v18, v19, v20, v21, v22, v23, v24, v25, v26, v27, v28, v29, v30, v31, v32]))] H := hP
    have hD : va_D A [(h0, .inr (11, [v0, v1, v2, .ref h1, v3, v4, v5, v6, v7, v8, v9, v10, v11, v12, v13])), (h1, .inr (5, [.ref h2, v14, v15])), (h2, .inr (8, [v16, v17, .int 0, v18, v19, v20, v21, v22, v23, v24, v25, v26, v27, v28, v29, v30, v31, v32]))] := hD
    refine lv_if_eq (tgt := 31) hx hb dX11_give_4 (by decide) (fun _ => ?_) (fun h9 => absurd (by decide) h9)
    refine lv_bipush (v := (-2)) hx hb dX11_give_31 (by decide) ?_
    exact kr_z hx hb hr rfl hlocks hP hD hS [] [] (by decide) rfl ⟨rfl, rfl⟩ (by decide) (by decide) dX11_give_33
  · have hP : va_P D vwCl [(h0, .inr (11, [v0, v1, v2, .ref h1, v3, v4, v5, v6, v7, v8, v9, v10, v11, v12, v13])), (h1, .inr (5, [.ref h2, v14, v15])), (h2, .inr (8, [v16, v17, .int 0, v18, v19, v20, v21, v22, v23, v24, v25, v26, v27, v28, v29, v30, v31, v32]))] H := hP
    have hD : va_D A [(h0, .inr (11, [v0, v1, v2, .ref h1, v3, v4, v5, v6, v7, v8, v9, v10, v11, v12, v13])), (h1, .inr (5, [.ref h2, v14, v15])), (h2, .inr (8, [v16, v17, .int 0, v18, v19, v20, v21, v22, v23, v24, v25, v26, v27, v28, v29, v30, v31, v32]))] := hD
    refine lv_if_eq (tgt := 31) hx hb dX11_give_4 (by decide) (fun h9 => absurd h9 (by decide)) (fun _ => ?_)
    refine lv_aload_n hx hb dX11_give_7 rfl (lv_at hl 0 rfl) ?_
    refine lv_iload_n hx hb dX11_give_8 rfl (lv_at hl 2 rfl) ?_
    refine kc_i (va_runV (As := [.int p1]) (rest := []) ⟨hx, hb, hml, hown, hB⟩ (c39_X11_isAlley l D ty H.size h0 h1 h2 p1 v0 v1 v2 v3 v4 v5 v6 v7 v8 v9 v10 v11 v12 v13 v14 v15 v16 v17 v18 v19 v20 v21 v22 v23 v24 v25 v26 v27 v28 v29 v30 v31 v32) (cwV 1 hB (bw_V mw_257 mw_258 mw_259 mw_216 mw_256) rfl rfl rfl (by decide +kernel) ⟨Nat.le_of_ble_eq_true rfl, Nat.le_of_ble_eq_true rfl⟩) (kp_V hK hP hD [0, 1, 2] (by decide) rfl 0 rfl rfl rfl) rfl rfl hl.1 rfl (lv_room (Nat.le_of_ble_eq_true rfl)) dX11_give_9 ⟨Nat.le_of_ble_eq_true rfl, Nat.le_of_ble_eq_true rfl⟩) hP hD hS hA [0, 1, 2] [] (wr := []) rfl rfl (by decide) (by decide) (fun r u H locs w4 hP hD hS => ?_)
    obtain ⟨rfl, rfl⟩ := w4
    have hP : va_P D vwCl [(h0, .inr (11, [v0, v1, v2, .ref h1, v3, v4, v5, v6, v7, v8, v9, v10, v11, v12, v13])), (h1, .inr (5, [.ref h2, v14, v15])), (h2, .inr (8, [v16, v17, .int 0, v18, v19, v20, v21, v22, v23, v24, v25, v26, v27, v28, v29, v30, v31, v32]))] H := hP
    have hD : va_D A [(h0, .inr (11, [v0, v1, v2, .ref h1, v3, v4, v5, v6, v7, v8, v9, v10, v11, v12, v13])), (h1, .inr (5, [.ref h2, v14, v15])), (h2, .inr (8, [v16, v17, .int 0, v18, v19, v20, v21, v22, v23, v24, v25, v26, v27, v28, v29, v30, v31, v32]))] := hD
    refine lv_if_eq (tgt := 31) hx hb dX11_give_12 (by decide) (fun _ => ?_) (fun h9 => absurd (by decide) h9)
    refine lv_bipush (v := (-2)) hx hb dX11_give_31 (by decide) ?_
    exact kr_z hx hb hr rfl hlocks hP hD hS [] [] (by decide) rfl ⟨rfl, rfl⟩ (by decide) (by decide) dX11_give_33
set_option maxHeartbeats 4000000 in
set_option maxRecDepth 100000 in
theorem c41_X11_isSlot (l : Launch) (D : va_G) (ty : Nat → ClassId) (sz : Nat) (p0 : Int32) : cQ l yX11_isSlot cX11_isSlot 1 (some .boolean) 0 0 [.int p0] D ty [] sz (qI (fun (r : Int32) (u : va_W) => ((((p0 < 0)) ∨ ((¬ (p0 < 0)) ∧ (4 ≤ p0))) ∧ 0 = r ∧ [] = u) ∨ (((¬ (p0 < 0)) ∧ (¬ (4 ≤ p0))) ∧ 1 = r ∧ [] = u))) 0 0 := by
  refine cQ.of (by decide) (Nat.le_of_ble_eq_true rfl) (fun p e s m below meth c A ls C hsz hP hK hD hA hl => ?_)
  obtain ⟨hx, hb, hml, hown, hB, hr, hlocks, hin⟩ := C
  have hown : s.vm.findClass RX11 = some m.cls := hown
  have hS : va_S A s.heap s.heap [] := va_S.rf
  have hl : lv_has ls 1 [(0, .int p0)] := hl
  refine lv_iload_n hx hb dX11_isSlot_0 rfl (lv_at hl 0 rfl) ?_
  refine lv_if_lt (tgt := 13) hx hb dX11_isSlot_1 (by decide) (fun c1 => ?_) (fun c1 => ?_)
  · refine lv_iconst (v := 0) hx hb dX11_isSlot_13 (by decide) ?_
    exact kr_z hx hb hr rfl hlocks hP hD hS [] [] (by decide) rfl (Or.inl ⟨(Or.inl c1), rfl, rfl⟩) (by decide) (by decide) dX11_isSlot_14
  · refine lv_iload_n hx hb dX11_isSlot_4 rfl (lv_at hl 0 rfl) ?_
    refine lv_iconst (v := 4) hx hb dX11_isSlot_5 (by decide) ?_
    refine lv_icmp_ge (tgt := 13) hx hb dX11_isSlot_6 (by decide) (fun c2 => ?_) (fun c2 => ?_)
    · refine lv_iconst (v := 0) hx hb dX11_isSlot_13 (by decide) ?_
      exact kr_z hx hb hr rfl hlocks hP hD hS [] [] (by decide) rfl (Or.inl ⟨(Or.inr ⟨c1, c2⟩), rfl, rfl⟩) (by decide) (by decide) dX11_isSlot_14
    · refine lv_iconst (v := 1) hx hb dX11_isSlot_9 (by decide) ?_
      refine lv_goto (tgt := 14) hx hb dX11_isSlot_10 (by decide) ?_
      exact kr_z hx hb hr rfl hlocks hP hD hS [] [] (by decide) rfl (Or.inr ⟨⟨c1, c2⟩, rfl, rfl⟩) (by decide) (by decide) dX11_isSlot_14
set_option maxHeartbeats 4000000 in
set_option maxRecDepth 100000 in
theorem c42_X4_isThere (l : Launch) (D : va_G) (ty : Nat → ClassId) (sz : Nat) (h0 : Nat) (v0 : Value) (v1 : Value) : cQ l yX4_isThere cX4_isThere 1 (some .boolean) 0 0 [.ref h0] D ty [(h0, .inr (4, [.int (-1), v0, v1]))] sz (qI (fun (r : Int32) (u : va_W) => 0 = r ∧ [(h0, .inr (4, [.int (-1), v0, v1]))] = u)) 0 0 := by
  refine cQ.of (by decide) (Nat.le_of_ble_eq_true rfl) (fun p e s m below meth c A ls C hsz hP hK hD hA hl => ?_)
  obtain ⟨hx, hb, hml, hown, hB, hr, hlocks, hin⟩ := C
  have hown : s.vm.findClass RX4 = some m.cls := hown
  have hS : va_S A s.heap s.heap [] := va_S.rf
  have hl : lv_has ls 1 [(0, .ref h0)] := hl
  refine lv_aload_n hx hb dX4_isThere_0 rfl (lv_at hl 0 rfl) ?_
  refine va_get (D := D) (ci := 4) (v := .int (-1)) (C := RX4) (T := TX4) (N := 3) hx hb hB inB_X4 hown hK.1 hP 0 rfl rfl 0 (by decide) (hB _ mw_144) (fun _ h9 => h9) rfl dX4_isThere_1 ?_
  refine lv_iconst (v := (-1)) hx hb dX4_isThere_4 (by decide) ?_
  refine lv_icmp_eq (tgt := 12) hx hb dX4_isThere_5 (by decide) (fun _ => ?_) (fun h9 => absurd (by decide) h9)
  refine lv_iconst (v := 0) hx hb dX4_isThere_12 (by decide) ?_
  exact kr_z hx hb hr rfl hlocks hP hD hS [(h0, .inr (4, [.int (-1), v0, v1]))] [0] (by decide) rfl ⟨rfl, rfl⟩ (by decide) (by decide) dX4_isThere_13
set_option maxHeartbeats 4000000 in
set_option maxRecDepth 100000 in
theorem c40_X11_gives (l : Launch) (D : va_G) (ty : Nat → ClassId) (sz : Nat) (h0 : Nat) (h1 : Nat) (h2 : Nat) (h3 : Nat) (h4 : Nat) (h5 : Nat) (p0 : Int32) (p1 : Int32) (v0 : Value) (v1 : Value) (v2 : Value) (v3 : Value) (v4 : Value) (v5 : Value) (v6 : Value) (v7 : Value) (v8 : Value) (v9 : Value) (v10 : Value) (v11 : Value) (v12 : Value) (v13 : Value) (v14 : Value) (v15 : Value) (v16 : Value) (v17 : Value) (v18 : Value) (v19 : Value) (v20 : Value) (v21 : Value) : cQ l yX11_gives cX11_gives 7 (some .int) 1 20 [.ref h0, .int p0, .int p1] D ty [(h0, .inr (11, [v0, v1, v2, v3, v4, .ref h1, v5, v6, v7, v8, v9, v10, v11, v12, v13])), (h1, .inl (ty 4, 4, .inr (.inr (.inr (.inr (va_up (va_up (va_up (va_up kn 0 (some h2)) 1 (some h3)) 2 (some h4)) 3 (some h5))))))), (h2, .inr (4, [.int (-1), v14, v15])), (h3, .inr (4, [.int (-1), v16, v17])), (h4, .inr (4, [.int (-1), v18, v19])), (h5, .inr (4, [.int (-1), v20, v21]))] sz (qI (fun (r : Int32) (u : va_W) => ((((((p0 < 0)) ∨ ((¬ (p0 < 0)) ∧ (2 ≤ p0)))) ∨ (((¬ (p0 < 0)) ∧ (¬ (2 ≤ p0))) ∧ (((p1 < 0)) ∨ ((¬ (p1 < 0)) ∧ (4 ≤ p1))))) ∧ (-2) = r ∧ [] = u) ∨ (((((¬ (p0 < 0)) ∧ (¬ (2 ≤ p0))) ∧ ((¬ (p1 < 0)) ∧ (¬ (4 ≤ p1))) ∧ (p1 = 0)) ∨ (((¬ (p0 < 0)) ∧ (¬ (2 ≤ p0))) ∧ ((¬ (p1 < 0)) ∧ (¬ (4 ≤ p1))) ∧ (p1 = 1)) ∨ (((¬ (p0 < 0)) ∧ (¬ (2 ≤ p0))) ∧ ((¬ (p1 < 0)) ∧ (¬ (4 ≤ p1))) ∧ (p1 = 2)) ∨ (((¬ (p0 < 0)) ∧ (¬ (2 ≤ p0))) ∧ ((¬ (p1 < 0)) ∧ (¬ (4 ≤ p1))) ∧ (p1 = 3))) ∧ (-6) = r ∧ [] = u))) 0 0 := by
  refine cQ.of (by decide) (Nat.le_of_ble_eq_true rfl) (fun p e s m below meth c A ls C hsz hP hK hD hA hl => ?_)
  obtain ⟨hx, hb, hml, hown, hB, hr, hlocks, hin⟩ := C
  have hown : s.vm.findClass RX11 = some m.cls := hown
  have hS : va_S A s.heap s.heap [] := va_S.rf
  have hl : lv_has ls 7 [(0, .ref h0), (1, .int p0), (2, .int p1)] := hl
  refine lv_iload_n hx hb dX11_gives_0 rfl (lv_at hl 1 rfl) ?_
  refine kc_i (va_runS (As := [.int p0]) (rest := []) ⟨hx, hb, hml, hown, hB⟩ (c38_X11_isGiving l D ty s.heap.size p0) (va_cwS 1 hB (bw_S mw_253 mw_254 mw_216 mw_252) rfl rfl rfl (by decide +kernel) ⟨Nat.le_of_ble_eq_true rfl, Nat.le_of_ble_eq_true rfl⟩) (kp_S hK hP hD [] (by decide) rfl) rfl rfl hl.1 rfl (lv_room (Nat.le_of_ble_eq_true rfl)) dX11_gives_1 ⟨Nat.le_of_ble_eq_true rfl, Nat.le_of_ble_eq_true rfl⟩) hP hD hS hA [] [0, 1, 2, 3, 4, 5] (wr := [(h0, .inr (11, [v0, v1, v2, v3, v4, .ref h1, v5, v6, v7, v8, v9, v10, v11, v12, v13])), (h1, .inl (ty 4, 4, .inr (.inr (.inr (.inr (va_up (va_up (va_up (va_up kn 0 (some h2)) 1 (some h3)) 2 (some h4)) 3 (some h5))))))), (h2, .inr (4, [.int (-1), v14, v15])), (h3, .inr (4, [.int (-1), v16, v17])), (h4, .inr (4, [.int (-1), v18, v19])), (h5, .inr (4, [.int (-1), v20, v21]))]) rfl rfl (by decide) (by decide) (fun r u H locs w1 hP hD hS => ?_)
  rcases w1 with ⟨c2, rfl, rfl⟩ | ⟨c3, rfl, rfl⟩
  · have hP : va_P D vwCl [(h0, .inr (11, [v0, v1, v2, v3, v4, .ref h1, v5, v6, v7, v8, v9, v10, v11, v12, v13])), (h1, .inl (ty 4, 4, .inr (.inr (.inr (.inr (va_up (va_up (va_up (va_up kn 0 (some h2)) 1 (some h3)) 2 (some h4)) 3 (some h5))))))), (h2, .inr (4, [.int (-1), v14, v15])), (h3, .inr (4, [.int (-1), v16, v17])), (h4, .inr (4, [.int (-1), v18, v19])), (h5, .inr (4, [.int (-1), v20, v21]))] H := hP
    have hD : va_D A [(h0, .inr (11, [v0, v1, v2, v3, v4, .ref h1, v5, v6, v7, v8, v9, v10, v11, v12, v13])), (h1, .inl (ty 4, 4, .inr (.inr (.inr (.inr (va_up (va_up (va_up (va_up kn 0 (some h2)) 1 (some h3)) 2 (some h4)) 3 (some h5))))))), (h2, .inr (4, [.int (-1), v14, v15])), (h3, .inr (4, [.int (-1), v16, v17])), (h4, .inr (4, [.int (-1), v18, v19])), (h5, .inr (4, [.int (-1), v20, v21]))] := hD
    refine lv_if_eq (tgt := 14) hx hb dX11_gives_4 (by decide) (fun _ => ?_) (fun h9 => absurd (by decide) h9)
    refine lv_bipush (v := (-2)) hx hb dX11_gives_14 (by decide) ?_
    exact kr_z hx hb hr rfl hlocks hP hD hS [] [] (by decide) rfl (Or.inl ⟨(Or.inl c2), rfl, rfl⟩) (by decide) (by decide) dX11_gives_16
  · have hP : va_P D vwCl [(h0, .inr (11, [v0, v1, v2, v3, v4, .ref h1, v5, v6, v7, v8, v9, v10, v11, v12, v13])), (h1, .inl (ty 4, 4, .inr (.inr (.inr (.inr (va_up (va_up (va_up (va_up kn 0 (some h2)) 1 (some h3)) 2 (some h4)) 3 (some h5))))))), (h2, .inr (4, [.int (-1), v14, v15])), (h3, .inr (4, [.int (-1), v16, v17])), (h4, .inr (4, [.int (-1), v18, v19])), (h5, .inr (4, [.int (-1), v20, v21]))] H := hP
    have hD : va_D A [(h0, .inr (11, [v0, v1, v2, v3, v4, .ref h1, v5, v6, v7, v8, v9, v10, v11, v12, v13])), (h1, .inl (ty 4, 4, .inr (.inr (.inr (.inr (va_up (va_up (va_up (va_up kn 0 (some h2)) 1 (some h3)) 2 (some h4)) 3 (some h5))))))), (h2, .inr (4, [.int (-1), v14, v15])), (h3, .inr (4, [.int (-1), v16, v17])), (h4, .inr (4, [.int (-1), v18, v19])), (h5, .inr (4, [.int (-1), v20, v21]))] := hD
    refine lv_if_eq (tgt := 14) hx hb dX11_gives_4 (by decide) (fun h9 => absurd h9 (by decide)) (fun _ => ?_)
    refine lv_iload_n hx hb dX11_gives_7 rfl (lv_at hl 2 rfl) ?_
    refine kc_i (va_runS (As := [.int p1]) (rest := []) ⟨hx, hb, hml, hown, hB⟩ (c41_X11_isSlot l D ty H.size p1) (va_cwS 1 hB (bw_S mw_261 mw_262 mw_216 mw_260) rfl rfl rfl (by decide +kernel) ⟨Nat.le_of_ble_eq_true rfl, Nat.le_of_ble_eq_true rfl⟩) (kp_S hK hP hD [] (by decide) rfl) rfl rfl hl.1 rfl (lv_room (Nat.le_of_ble_eq_true rfl)) dX11_gives_8 ⟨Nat.le_of_ble_eq_true rfl, Nat.le_of_ble_eq_true rfl⟩) hP hD hS hA [] [0, 1, 2, 3, 4, 5] (wr := [(h0, .inr (11, [v0, v1, v2, v3, v4, .ref h1, v5, v6, v7, v8, v9, v10, v11, v12, v13])), (h1, .inl (ty 4, 4, .inr (.inr (.inr (.inr (va_up (va_up (va_up (va_up kn 0 (some h2)) 1 (some h3)) 2 (some h4)) 3 (some h5))))))), (h2, .inr (4, [.int (-1), v14, v15])), (h3, .inr (4, [.int (-1), v16, v17])), (h4, .inr (4, [.int (-1), v18, v19])), (h5, .inr (4, [.int (-1), v20, v21]))]) rfl rfl (by decide) (by decide) (fun r u H locs w4 hP hD hS => ?_)
    rcases w4 with ⟨c5, rfl, rfl⟩ | ⟨c6, rfl, rfl⟩
    · have hP : va_P D vwCl [(h0, .inr (11, [v0, v1, v2, v3, v4, .ref h1, v5, v6, v7, v8, v9, v10, v11, v12, v13])), (h1, .inl (ty 4, 4, .inr (.inr (.inr (.inr (va_up (va_up (va_up (va_up kn 0 (some h2)) 1 (some h3)) 2 (some h4)) 3 (some h5))))))), (h2, .inr (4, [.int (-1), v14, v15])), (h3, .inr (4, [.int (-1), v16, v17])), (h4, .inr (4, [.int (-1), v18, v19])), (h5, .inr (4, [.int (-1), v20, v21]))] H := hP
      have hD : va_D A [(h0, .inr (11, [v0, v1, v2, v3, v4, .ref h1, v5, v6, v7, v8, v9, v10, v11, v12, v13])), (h1, .inl (ty 4, 4, .inr (.inr (.inr (.inr (va_up (va_up (va_up (va_up kn 0 (some h2)) 1 (some h3)) 2 (some h4)) 3 (some h5))))))), (h2, .inr (4, [.int (-1), v14, v15])), (h3, .inr (4, [.int (-1), v16, v17])), (h4, .inr (4, [.int (-1), v18, v19])), (h5, .inr (4, [.int (-1), v20, v21]))] := hD
      refine lv_if_ne (tgt := 17) hx hb dX11_gives_11 (by decide) (fun h9 => absurd (by decide) h9) (fun _ => ?_)
      refine lv_bipush (v := (-2)) hx hb dX11_gives_14 (by decide) ?_
      exact kr_z hx hb hr rfl hlocks hP hD hS [] [] (by decide) rfl (Or.inl ⟨(Or.inr ⟨c3, c5⟩), rfl, rfl⟩) (by decide) (by decide) dX11_gives_16
    · have hP : va_P D vwCl [(h0, .inr (11, [v0, v1, v2, v3, v4, .ref h1, v5, v6, v7, v8, v9, v10, v11, v12, v13])), (h1, .inl (ty 4, 4, .inr (.inr (.inr (.inr (va_up (va_up (va_up (va_up kn 0 (some h2)) 1 (some h3)) 2 (some h4)) 3 (some h5))))))), (h2, .inr (4, [.int (-1), v14, v15])), (h3, .inr (4, [.int (-1), v16, v17])), (h4, .inr (4, [.int (-1), v18, v19])), (h5, .inr (4, [.int (-1), v20, v21]))] H := hP
      have hD : va_D A [(h0, .inr (11, [v0, v1, v2, v3, v4, .ref h1, v5, v6, v7, v8, v9, v10, v11, v12, v13])), (h1, .inl (ty 4, 4, .inr (.inr (.inr (.inr (va_up (va_up (va_up (va_up kn 0 (some h2)) 1 (some h3)) 2 (some h4)) 3 (some h5))))))), (h2, .inr (4, [.int (-1), v14, v15])), (h3, .inr (4, [.int (-1), v16, v17])), (h4, .inr (4, [.int (-1), v18, v19])), (h5, .inr (4, [.int (-1), v20, v21]))] := hD
      refine lv_if_ne (tgt := 17) hx hb dX11_gives_11 (by decide) (fun _ => ?_) (fun h9 => absurd h9 (by decide))
      refine lv_aload_n hx hb dX11_gives_17 rfl (lv_at hl 0 rfl) ?_
      refine va_get (D := D) (ci := 11) (v := .ref h1) (C := RX11) (T := TX11) (N := 15) hx hb hB inB_X11 hown hK.1 hP 0 rfl rfl 5 (by decide) (hB _ mw_89) (fun _ h9 => h9) rfl dX11_gives_18 ?_
      refine lv_iload_n hx hb dX11_gives_21 rfl (lv_at hl 2 rfl) ?_
      rcases ps_1 p1 c6 with rfl | rfl | rfl | rfl
      · refine va_aldq hx hb hK.1 hP 1 4 rfl rfl (by unfold vp_in; decide) dX11_gives_22 ?_
        refine tp_v (v := .ref h2) rfl ?_
        refine lv_astore_n (lv' := [(3, .ref h2), (0, .ref h0), (1, .int p0), (2, .int 0)]) hx hb dX11_gives_23 rfl hl (by decide) rfl (fun ls hl => ?_)
        refine lv_aload_n hx hb dX11_gives_24 rfl (lv_at hl 0 rfl) ?_
        refine kc_i (va_runV (As := []) (rest := []) ⟨hx, hb, hml, hown, hB⟩ (c42_X4_isThere l D ty H.size h2 v14 v15) (cwV 0 hB (bw_V mw_264 mw_265 mw_266 mw_142 mw_263) rfl rfl rfl (by decide +kernel) ⟨Nat.le_of_ble_eq_true rfl, Nat.le_of_ble_eq_true rfl⟩) (kp_V hK hP hD [2] (by decide) rfl 2 rfl rfl rfl) rfl rfl hl.1 rfl (lv_room (Nat.le_of_ble_eq_true rfl)) dX11_gives_25 ⟨Nat.le_of_ble_eq_true rfl, Nat.le_of_ble_eq_true rfl⟩) hP hD hS hA [2] [0, 1, 3, 4, 5] (wr := [(h0, .inr (11, [v0, v1, v2, v3, v4, .ref h1, v5, v6, v7, v8, v9, v10, v11, v12, v13])), (h1, .inl (ty 4, 4, .inr (.inr (.inr (.inr (va_up (va_up (va_up (va_up kn 0 (some h2)) 1 (some h3)) 2 (some h4)) 3 (some h5))))))), (h3, .inr (4, [.int (-1), v16, v17])), (h4, .inr (4, [.int (-1), v18, v19])), (h5, .inr (4, [.int (-1), v20, v21]))]) rfl rfl (by decide) (by decide) (fun r u H locs w7 hP hD hS => ?_)
        obtain ⟨rfl, rfl⟩ := w7
        have hP : va_P D vwCl [(h0, .inr (11, [v0, v1, v2, v3, v4, .ref h1, v5, v6, v7, v8, v9, v10, v11, v12, v13])), (h1, .inl (ty 4, 4, .inr (.inr (.inr (.inr (va_up (va_up (va_up (va_up kn 0 (some h2)) 1 (some h3)) 2 (some h4)) 3 (some h5))))))), (h3, .inr (4, [.int (-1), v16, v17])), (h4, .inr (4, [.int (-1), v18, v19])), (h5, .inr (4, [.int (-1), v20, v21])), (h2, .inr (4, [.int (-1), v14, v15]))] H := hP
        have hD : va_D A [(h0, .inr (11, [v0, v1, v2, v3, v4, .ref h1, v5, v6, v7, v8, v9, v10, v11, v12, v13])), (h1, .inl (ty 4, 4, .inr (.inr (.inr (.inr (va_up (va_up (va_up (va_up kn 0 (some h2)) 1 (some h3)) 2 (some h4)) 3 (some h5))))))), (h3, .inr (4, [.int (-1), v16, v17])), (h4, .inr (4, [.int (-1), v18, v19])), (h5, .inr (4, [.int (-1), v20, v21])), (h2, .inr (4, [.int (-1), v14, v15]))] := hD
        refine lv_if_ne (tgt := 34) hx hb dX11_gives_28 (by decide) (fun h9 => absurd (by decide) h9) (fun _ => ?_)
        refine lv_bipush (v := (-6)) hx hb dX11_gives_31 (by decide) ?_
        exact kr_z hx hb hr rfl hlocks hP hD hS [] [] (by decide) rfl (Or.inr ⟨(Or.inl ⟨c3, c6, rfl⟩), rfl, rfl⟩) (by decide) (by decide) dX11_gives_33
      · refine va_aldq hx hb hK.1 hP 1 4 rfl rfl (by unfold vp_in; decide) dX11_gives_22 ?_
        refine tp_v (v := .ref h3) rfl ?_
        refine lv_astore_n (lv' := [(3, .ref h3), (0, .ref h0), (1, .int p0), (2, .int 1)]) hx hb dX11_gives_23 rfl hl (by decide) rfl (fun ls hl => ?_)
        refine lv_aload_n hx hb dX11_gives_24 rfl (lv_at hl 0 rfl) ?_
        refine kc_i (va_runV (As := []) (rest := []) ⟨hx, hb, hml, hown, hB⟩ (c42_X4_isThere l D ty H.size h3 v16 v17) (cwV 0 hB (bw_V mw_264 mw_265 mw_266 mw_142 mw_263) rfl rfl rfl (by decide +kernel) ⟨Nat.le_of_ble_eq_true rfl, Nat.le_of_ble_eq_true rfl⟩) (kp_V hK hP hD [3] (by decide) rfl 3 rfl rfl rfl) rfl rfl hl.1 rfl (lv_room (Nat.le_of_ble_eq_true rfl)) dX11_gives_25 ⟨Nat.le_of_ble_eq_true rfl, Nat.le_of_ble_eq_true rfl⟩) hP hD hS hA [3] [0, 1, 2, 4, 5] (wr := [(h0, .inr (11, [v0, v1, v2, v3, v4, .ref h1, v5, v6, v7, v8, v9, v10, v11, v12, v13])), (h1, .inl (ty 4, 4, .inr (.inr (.inr (.inr (va_up (va_up (va_up (va_up kn 0 (some h2)) 1 (some h3)) 2 (some h4)) 3 (some h5))))))), (h2, .inr (4, [.int (-1), v14, v15])), (h4, .inr (4, [.int (-1), v18, v19])), (h5, .inr (4, [.int (-1), v20, v21]))]) rfl rfl (by decide) (by decide) (fun r u H locs w8 hP hD hS => ?_)
        obtain ⟨rfl, rfl⟩ := w8
        have hP : va_P D vwCl [(h0, .inr (11, [v0, v1, v2, v3, v4, .ref h1, v5, v6, v7, v8, v9, v10, v11, v12, v13])), (h1, .inl (ty 4, 4, .inr (.inr (.inr (.inr (va_up (va_up (va_up (va_up kn 0 (some h2)) 1 (some h3)) 2 (some h4)) 3 (some h5))))))), (h2, .inr (4, [.int (-1), v14, v15])), (h4, .inr (4, [.int (-1), v18, v19])), (h5, .inr (4, [.int (-1), v20, v21])), (h3, .inr (4, [.int (-1), v16, v17]))] H := hP
        have hD : va_D A [(h0, .inr (11, [v0, v1, v2, v3, v4, .ref h1, v5, v6, v7, v8, v9, v10, v11, v12, v13])), (h1, .inl (ty 4, 4, .inr (.inr (.inr (.inr (va_up (va_up (va_up (va_up kn 0 (some h2)) 1 (some h3)) 2 (some h4)) 3 (some h5))))))), (h2, .inr (4, [.int (-1), v14, v15])), (h4, .inr (4, [.int (-1), v18, v19])), (h5, .inr (4, [.int (-1), v20, v21])), (h3, .inr (4, [.int (-1), v16, v17]))] := hD
        refine lv_if_ne (tgt := 34) hx hb dX11_gives_28 (by decide) (fun h9 => absurd (by decide) h9) (fun _ => ?_)
        refine lv_bipush (v := (-6)) hx hb dX11_gives_31 (by decide) ?_
        exact kr_z hx hb hr rfl hlocks hP hD hS [] [] (by decide) rfl (Or.inr ⟨(Or.inr (Or.inl ⟨c3, c6, rfl⟩)), rfl, rfl⟩) (by decide) (by decide) dX11_gives_33
      · refine va_aldq hx hb hK.1 hP 1 4 rfl rfl (by unfold vp_in; decide) dX11_gives_22 ?_
        refine tp_v (v := .ref h4) rfl ?_
        refine lv_astore_n (lv' := [(3, .ref h4), (0, .ref h0), (1, .int p0), (2, .int 2)]) hx hb dX11_gives_23 rfl hl (by decide) rfl (fun ls hl => ?_)
        refine lv_aload_n hx hb dX11_gives_24 rfl (lv_at hl 0 rfl) ?_
        refine kc_i (va_runV (As := []) (rest := []) ⟨hx, hb, hml, hown, hB⟩ (c42_X4_isThere l D ty H.size h4 v18 v19) (cwV 0 hB (bw_V mw_264 mw_265 mw_266 mw_142 mw_263) rfl rfl rfl (by decide +kernel) ⟨Nat.le_of_ble_eq_true rfl, Nat.le_of_ble_eq_true rfl⟩) (kp_V hK hP hD [4] (by decide) rfl 4 rfl rfl rfl) rfl rfl hl.1 rfl (lv_room (Nat.le_of_ble_eq_true rfl)) dX11_gives_25 ⟨Nat.le_of_ble_eq_true rfl, Nat.le_of_ble_eq_true rfl⟩) hP hD hS hA [4] [0, 1, 2, 3, 5] (wr := [(h0, .inr (11, [v0, v1, v2, v3, v4, .ref h1, v5, v6, v7, v8, v9, v10, v11, v12, v13])), (h1, .inl (ty 4, 4, .inr (.inr (.inr (.inr (va_up (va_up (va_up (va_up kn 0 (some h2)) 1 (some h3)) 2 (some h4)) 3 (some h5))))))), (h2, .inr (4, [.int (-1), v14, v15])), (h3, .inr (4, [.int (-1), v16, v17])), (h5, .inr (4, [.int (-1), v20, v21]))]) rfl rfl (by decide) (by decide) (fun r u H locs w9 hP hD hS => ?_)
        obtain ⟨rfl, rfl⟩ := w9
        have hP : va_P D vwCl [(h0, .inr (11, [v0, v1, v2, v3, v4, .ref h1, v5, v6, v7, v8, v9, v10, v11, v12, v13])), (h1, .inl (ty 4, 4, .inr (.inr (.inr (.inr (va_up (va_up (va_up (va_up kn 0 (some h2)) 1 (some h3)) 2 (some h4)) 3 (some h5))))))), (h2, .inr (4, [.int (-1), v14, v15])), (h3, .inr (4, [.int (-1), v16, v17])), (h5, .inr (4, [.int (-1), v20, v21])), (h4, .inr (4, [.int (-1), v18, v19]))] H := hP
        have hD : va_D A [(h0, .inr (11, [v0, v1, v2, v3, v4, .ref h1, v5, v6, v7, v8, v9, v10, v11, v12, v13])), (h1, .inl (ty 4, 4, .inr (.inr (.inr (.inr (va_up (va_up (va_up (va_up kn 0 (some h2)) 1 (some h3)) 2 (some h4)) 3 (some h5))))))), (h2, .inr (4, [.int (-1), v14, v15])), (h3, .inr (4, [.int (-1), v16, v17])), (h5, .inr (4, [.int (-1), v20, v21])), (h4, .inr (4, [.int (-1), v18, v19]))] := hD
        refine lv_if_ne (tgt := 34) hx hb dX11_gives_28 (by decide) (fun h9 => absurd (by decide) h9) (fun _ => ?_)
        refine lv_bipush (v := (-6)) hx hb dX11_gives_31 (by decide) ?_
        exact kr_z hx hb hr rfl hlocks hP hD hS [] [] (by decide) rfl (Or.inr ⟨(Or.inr (Or.inr (Or.inl ⟨c3, c6, rfl⟩))), rfl, rfl⟩) (by decide) (by decide) dX11_gives_33
      · refine va_aldq hx hb hK.1 hP 1 4 rfl rfl (by unfold vp_in; decide) dX11_gives_22 ?_
        refine tp_v (v := .ref h5) rfl ?_
        refine lv_astore_n (lv' := [(3, .ref h5), (0, .ref h0), (1, .int p0), (2, .int 3)]) hx hb dX11_gives_23 rfl hl (by decide) rfl (fun ls hl => ?_)
        refine lv_aload_n hx hb dX11_gives_24 rfl (lv_at hl 0 rfl) ?_
        refine kc_i (va_runV (As := []) (rest := []) ⟨hx, hb, hml, hown, hB⟩ (c42_X4_isThere l D ty H.size h5 v20 v21) (cwV 0 hB (bw_V mw_264 mw_265 mw_266 mw_142 mw_263) rfl rfl rfl (by decide +kernel) ⟨Nat.le_of_ble_eq_true rfl, Nat.le_of_ble_eq_true rfl⟩) (kp_V hK hP hD [5] (by decide) rfl 5 rfl rfl rfl) rfl rfl hl.1 rfl (lv_room (Nat.le_of_ble_eq_true rfl)) dX11_gives_25 ⟨Nat.le_of_ble_eq_true rfl, Nat.le_of_ble_eq_true rfl⟩) hP hD hS hA [5] [0, 1, 2, 3, 4] (wr := [(h0, .inr (11, [v0, v1, v2, v3, v4, .ref h1, v5, v6, v7, v8, v9, v10, v11, v12, v13])), (h1, .inl (ty 4, 4, .inr (.inr (.inr (.inr (va_up (va_up (va_up (va_up kn 0 (some h2)) 1 (some h3)) 2 (some h4)) 3 (some h5))))))), (h2, .inr (4, [.int (-1), v14, v15])), (h3, .inr (4, [.int (-1), v16, v17])), (h4, .inr (4, [.int (-1), v18, v19]))]) rfl rfl (by decide) (by decide) (fun r u H locs w10 hP hD hS => ?_)
        obtain ⟨rfl, rfl⟩ := w10
        have hP : va_P D vwCl [(h0, .inr (11, [v0, v1, v2, v3, v4, .ref h1, v5, v6, v7, v8, v9, v10, v11, v12, v13])), (h1, .inl (ty 4, 4, .inr (.inr (.inr (.inr (va_up (va_up (va_up (va_up kn 0 (some h2)) 1 (some h3)) 2 (some h4)) 3 (some h5))))))), (h2, .inr (4, [.int (-1), v14, v15])), (h3, .inr (4, [.int (-1), v16, v17])), (h4, .inr (4, [.int (-1), v18, v19])), (h5, .inr (4, [.int (-1), v20, v21]))] H := hP
        have hD : va_D A [(h0, .inr (11, [v0, v1, v2, v3, v4, .ref h1, v5, v6, v7, v8, v9, v10, v11, v12, v13])), (h1, .inl (ty 4, 4, .inr (.inr (.inr (.inr (va_up (va_up (va_up (va_up kn 0 (some h2)) 1 (some h3)) 2 (some h4)) 3 (some h5))))))), (h2, .inr (4, [.int (-1), v14, v15])), (h3, .inr (4, [.int (-1), v16, v17])), (h4, .inr (4, [.int (-1), v18, v19])), (h5, .inr (4, [.int (-1), v20, v21]))] := hD
        refine lv_if_ne (tgt := 34) hx hb dX11_gives_28 (by decide) (fun h9 => absurd (by decide) h9) (fun _ => ?_)
        refine lv_bipush (v := (-6)) hx hb dX11_gives_31 (by decide) ?_
        exact kr_z hx hb hr rfl hlocks hP hD hS [] [] (by decide) rfl (Or.inr ⟨(Or.inr (Or.inr (Or.inr ⟨c3, c6, rfl⟩))), rfl, rfl⟩) (by decide) (by decide) dX11_gives_33
set_option maxHeartbeats 4000000 in
set_option maxRecDepth 100000 in
theorem c43_X11_way (l : Launch) (D : va_G) (ty : Nat → ClassId) (sz : Nat) (h0 : Nat) (h1 : Nat) (h2 : Nat) (p0 : Int32) (p1 : Int32) (v0 : Value) (v1 : Value) (v2 : Value) (v3 : Value) (v4 : Value) (v5 : Value) (v6 : Value) (v7 : Value) (v8 : Value) (v9 : Value) (v10 : Value) (v11 : Value) (v12 : Value) (v13 : Value) (v14 : Value) (v15 : Value) (v16 : Value) (v17 : Value) (v18 : Value) (v19 : Value) (v20 : Value) (v21 : Value) (v22 : Value) (v23 : Value) (v24 : Value) (v25 : Value) (v26 : Value) (v27 : Value) (v28 : Value) (v29 : Value) (v30 : Value) (v31 : Value) (v32 : Value) : cQ l yX11_way cX11_way 3 (some .int) 1 21 [.ref h0, .int p0, .int p1] D ty [(h0, .inr (11, [v0, v1, v2, .ref h1, v3, v4, v5, v6, v7, v8, v9, v10, v11, v12, v13])), (h1, .inr (5, [.ref h2, v14, v15])), (h2, .inr (8, [v16, v17, .int 0, v18, v19, v20, v21, v22, v23, v24, v25, v26, v27, v28, v29, v30, v31, v32]))] sz (qI (fun (r : Int32) (u : va_W) => (-1) = r ∧ [] = u)) 0 0 := by
  refine cQ.of (by decide) (Nat.le_of_ble_eq_true rfl) (fun p e s m below meth c A ls C hsz hP hK hD hA hl => ?_)
  obtain ⟨hx, hb, hml, hown, hB, hr, hlocks, hin⟩ := C
  have hown : s.vm.findClass RX11 = some m.cls := hown
  have hS : va_S A s.heap s.heap [] := va_S.rf
  have hl : lv_has ls 3 [(0, .ref h0), (1, .int p0), (2, .int p1)] := hl
  refine lv_iload_n hx hb dX11_way_0 rfl (lv_at hl 1 rfl) ?_
  refine kc_i (va_runS (As := [.int p0]) (rest := []) ⟨hx, hb, hml, hown, hB⟩ (c38_X11_isGiving l D ty s.heap.size p0) (va_cwS 1 hB (bw_S mw_253 mw_254 mw_216 mw_252) rfl rfl rfl (by decide +kernel) ⟨Nat.le_of_ble_eq_true rfl, Nat.le_of_ble_eq_true rfl⟩) (kp_S hK hP hD [] (by decide) rfl) rfl rfl hl.1 rfl (lv_room (Nat.le_of_ble_eq_true rfl)) dX11_way_1 ⟨Nat.le_of_ble_eq_true rfl, Nat.le_of_ble_eq_true rfl⟩) hP hD hS hA [] [0, 1, 2] (wr := [(h0, .inr (11, [v0, v1, v2, .ref h1, v3, v4, v5, v6, v7, v8, v9, v10, v11, v12, v13])), (h1, .inr (5, [.ref h2, v14, v15])), (h2, .inr (8, [v16, v17, .int 0, v18, v19, v20, v21, v22, v23, v24, v25, v26, v27, v28, v29, v30, v31, v32]))]) rfl rfl (by decide) (by decide) (fun r u H locs w1 hP hD hS => ?_)
  rcases w1 with ⟨c2, rfl, rfl⟩ | ⟨c3, rfl, rfl⟩
  · have hP : va_P D vwCl [(h0, .inr (11, [v0, v1, v2, .ref h1, v3, v4, v5, v6, v7, v8, v9, v10, v11, v12, v13])), (h1, .inr (5, [.ref h2, v14, v15])), (h2, .inr (8, [v16, v17, .int 0, v18, v19, v20, v21, v22, v23, v24, v25, v26, v27, v28, v29, v30, v31, v32]))] H := hP
    have hD : va_D A [(h0, .inr (11, [v0, v1, v2, .ref h1, v3, v4, v5, v6, v7, v8, v9, v10, v11, v12, v13])), (h1, .inr (5, [.ref h2, v14, v15])), (h2, .inr (8, [v16, v17, .int 0, v18, v19, v20, v21, v22, v23, v24, v25, v26, v27, v28, v29, v30, v31, v32]))] := hD
    refine lv_if_eq (tgt := 29) hx hb dX11_way_4 (by decide) (fun _ => ?_) (fun h9 => absurd (by decide) h9)
    refine lv_iconst (v := (-1)) hx hb dX11_way_29 (by decide) ?_
    exact kr_z hx hb hr rfl hlocks hP hD hS [] [] (by decide) rfl ⟨rfl, rfl⟩ (by decide) (by decide) dX11_way_30
  · have hP : va_P D vwCl [(h0, .inr (11, [v0, v1, v2, .ref h1, v3, v4, v5, v6, v7, v8, v9, v10, v11, v12, v13])), (h1, .inr (5, [.ref h2, v14, v15])), (h2, .inr (8, [v16, v17, .int 0, v18, v19, v20, v21, v22, v23, v24, v25, v26, v27, v28, v29, v30, v31, v32]))] H := hP
    have hD : va_D A [(h0, .inr (11, [v0, v1, v2, .ref h1, v3, v4, v5, v6, v7, v8, v9, v10, v11, v12, v13])), (h1, .inr (5, [.ref h2, v14, v15])), (h2, .inr (8, [v16, v17, .int 0, v18, v19, v20, v21, v22, v23, v24, v25, v26, v27, v28, v29, v30, v31, v32]))] := hD
    refine lv_if_eq (tgt := 29) hx hb dX11_way_4 (by decide) (fun h9 => absurd h9 (by decide)) (fun _ => ?_)
    refine lv_aload_n hx hb dX11_way_7 rfl (lv_at hl 0 rfl) ?_
    refine lv_iload_n hx hb dX11_way_8 rfl (lv_at hl 2 rfl) ?_
    refine kc_i (va_runV (As := [.int p1]) (rest := []) ⟨hx, hb, hml, hown, hB⟩ (c39_X11_isAlley l D ty H.size h0 h1 h2 p1 v0 v1 v2 v3 v4 v5 v6 v7 v8 v9 v10 v11 v12 v13 v14 v15 v16 v17 v18 v19 v20 v21 v22 v23 v24 v25 v26 v27 v28 v29 v30 v31 v32) (cwV 1 hB (bw_V mw_257 mw_258 mw_259 mw_216 mw_256) rfl rfl rfl (by decide +kernel) ⟨Nat.le_of_ble_eq_true rfl, Nat.le_of_ble_eq_true rfl⟩) (kp_V hK hP hD [0, 1, 2] (by decide) rfl 0 rfl rfl rfl) rfl rfl hl.1 rfl (lv_room (Nat.le_of_ble_eq_true rfl)) dX11_way_9 ⟨Nat.le_of_ble_eq_true rfl, Nat.le_of_ble_eq_true rfl⟩) hP hD hS hA [0, 1, 2] [] (wr := []) rfl rfl (by decide) (by decide) (fun r u H locs w4 hP hD hS => ?_)
    obtain ⟨rfl, rfl⟩ := w4
    have hP : va_P D vwCl [(h0, .inr (11, [v0, v1, v2, .ref h1, v3, v4, v5, v6, v7, v8, v9, v10, v11, v12, v13])), (h1, .inr (5, [.ref h2, v14, v15])), (h2, .inr (8, [v16, v17, .int 0, v18, v19, v20, v21, v22, v23, v24, v25, v26, v27, v28, v29, v30, v31, v32]))] H := hP
    have hD : va_D A [(h0, .inr (11, [v0, v1, v2, .ref h1, v3, v4, v5, v6, v7, v8, v9, v10, v11, v12, v13])), (h1, .inr (5, [.ref h2, v14, v15])), (h2, .inr (8, [v16, v17, .int 0, v18, v19, v20, v21, v22, v23, v24, v25, v26, v27, v28, v29, v30, v31, v32]))] := hD
    refine lv_if_eq (tgt := 29) hx hb dX11_way_12 (by decide) (fun _ => ?_) (fun h9 => absurd (by decide) h9)
    refine lv_iconst (v := (-1)) hx hb dX11_way_29 (by decide) ?_
    exact kr_z hx hb hr rfl hlocks hP hD hS [] [] (by decide) rfl ⟨rfl, rfl⟩ (by decide) (by decide) dX11_way_30
set_option maxHeartbeats 4000000 in
set_option maxRecDepth 100000 in
theorem c45_X5_openAll (l : Launch) (D : va_G) (ty : Nat → ClassId) (sz : Nat) (h0 : Nat) (h1 : Nat) (p0 : Int32) (v0 : Value) (v1 : Value) (v2 : Value) (v3 : Value) (v4 : Value) (v5 : Value) (v6 : Value) (v7 : Value) (v8 : Value) (v9 : Value) (v10 : Value) (v11 : Value) (v12 : Value) (v13 : Value) (v14 : Value) (v15 : Value) (v16 : Value) (v17 : Value) (v18 : Value) : cQ l yX5_openAll cX5_openAll 4 (some .int) 0 0 [.ref h0, .int p0] D ty [(h0, .inr (5, [.ref h1, v0, v1])), (h1, .inr (8, [v2, v3, .int 0, v4, v5, v6, v7, v8, v9, v10, v11, v12, v13, v14, v15, v16, v17, v18]))] sz (qI (fun (r : Int32) (u : va_W) => 0 = r ∧ [(h0, .inr (5, [.ref h1, v0, v1])), (h1, .inr (8, [v2, v3, .int 0, v4, v5, v6, v7, v8, v9, v10, v11, v12, v13, v14, v15, v16, v17, v18]))] = u)) 0 0 := by
  refine cQ.of (by decide) (Nat.le_of_ble_eq_true rfl) (fun p e s m below meth c A ls C hsz hP hK hD hA hl => ?_)
  obtain ⟨hx, hb, hml, hown, hB, hr, hlocks, hin⟩ := C
  have hown : s.vm.findClass RX5 = some m.cls := hown
  have hS : va_S A s.heap s.heap [] := va_S.rf
  have hl : lv_has ls 4 [(0, .ref h0), (1, .int p0)] := hl
  refine lv_iconst (v := 0) hx hb dX5_openAll_0 (by decide) ?_
  refine lv_istore_n (lv' := [(2, .int 0), (0, .ref h0), (1, .int p0)]) hx hb dX5_openAll_1 rfl hl (by decide) rfl (fun ls hl => ?_)
  refine lv_iconst (v := 0) hx hb dX5_openAll_2 (by decide) ?_
  refine lv_istore_n (lv' := [(3, .int 0), (2, .int 0), (0, .ref h0), (1, .int p0)]) hx hb dX5_openAll_3 rfl hl (by decide) rfl (fun ls hl => ?_)
  refine lv_iload_n hx hb dX5_openAll_4 rfl (lv_at hl 0 rfl) ?_
  refine lv_aload_n hx hb dX5_openAll_5 rfl (lv_at hl 2 rfl) ?_
  refine va_get (D := D) (ci := 5) (v := .ref h1) (C := RX5) (T := TX5) (N := 3) hx hb hB inB_X5 hown hK.1 hP 0 rfl rfl 0 (by decide) (hB _ mw_79) (fun _ h9 => h9) rfl dX5_openAll_6 ?_
  refine va_get (D := D) (ci := 8) (v := .int 0) (C := RX8) (T := TX8) (N := 18) hx hb hB inB_X8 hown hK.1 hP 1 rfl rfl 2 (by decide) (hB _ mw_244) (fun _ h9 => h9) rfl dX5_openAll_9 ?_
  refine lv_icmp_ge (tgt := 72) hx hb dX5_openAll_12 (by decide) (fun _ => ?_) (fun h9 => absurd (by decide) h9)
  refine lv_iload_n hx hb dX5_openAll_72 rfl (lv_at hl 1 rfl) ?_
  exact kr_z hx hb hr rfl hlocks hP hD hS [(h0, .inr (5, [.ref h1, v0, v1])), (h1, .inr (8, [v2, v3, .int 0, v4, v5, v6, v7, v8, v9, v10, v11, v12, v13, v14, v15, v16, v17, v18]))] [0, 1] (by decide) rfl ⟨rfl, rfl⟩ (by decide) (by decide) dX5_openAll_73
set_option maxHeartbeats 4000000 in
set_option maxRecDepth 100000 in
theorem c44_X11_clear (l : Launch) (D : va_G) (ty : Nat → ClassId) (sz : Nat) (h0 : Nat) (h1 : Nat) (h2 : Nat) (p0 : Int32) (v0 : Value) (v1 : Value) (v2 : Value) (v3 : Value) (v4 : Value) (v5 : Value) (v6 : Value) (v7 : Value) (v8 : Value) (v9 : Value) (v10 : Value) (v11 : Value) (v12 : Value) (v13 : Value) (v14 : Value) (v15 : Value) (v16 : Value) (v17 : Value) (v18 : Value) (v19 : Value) (v20 : Value) (v21 : Value) (v22 : Value) (v23 : Value) (v24 : Value) (v25 : Value) (v26 : Value) (v27 : Value) (v28 : Value) (v29 : Value) (v30 : Value) (v31 : Value) (v32 : Value) : cQ l yX11_clear cX11_clear 2 (some .int) 1 23 [.ref h0, .int p0] D ty [(h0, .inr (11, [v0, v1, v2, .ref h1, v3, v4, v5, v6, v7, v8, v9, v10, v11, v12, v13])), (h1, .inr (5, [.ref h2, v14, v15])), (h2, .inr (8, [v16, v17, .int 0, v18, v19, v20, v21, v22, v23, v24, v25, v26, v27, v28, v29, v30, v31, v32]))] sz (qI (fun (r : Int32) (u : va_W) => (((((p0 < 0)) ∨ ((¬ (p0 < 0)) ∧ (2 ≤ p0)))) ∧ (-2) = r ∧ [] = u) ∨ ((((¬ (p0 < 0)) ∧ (¬ (2 ≤ p0)))) ∧ 0 = r ∧ [] = u))) 0 0 := by
  refine cQ.of (by decide) (Nat.le_of_ble_eq_true rfl) (fun p e s m below meth c A ls C hsz hP hK hD hA hl => ?_)
  obtain ⟨hx, hb, hml, hown, hB, hr, hlocks, hin⟩ := C
  have hown : s.vm.findClass RX11 = some m.cls := hown
  have hS : va_S A s.heap s.heap [] := va_S.rf
  have hl : lv_has ls 2 [(0, .ref h0), (1, .int p0)] := hl
  refine lv_iload_n hx hb dX11_clear_0 rfl (lv_at hl 1 rfl) ?_
  refine kc_i (va_runS (As := [.int p0]) (rest := []) ⟨hx, hb, hml, hown, hB⟩ (c38_X11_isGiving l D ty s.heap.size p0) (va_cwS 1 hB (bw_S mw_253 mw_254 mw_216 mw_252) rfl rfl rfl (by decide +kernel) ⟨Nat.le_of_ble_eq_true rfl, Nat.le_of_ble_eq_true rfl⟩) (kp_S hK hP hD [] (by decide) rfl) rfl rfl hl.1 rfl (lv_room (Nat.le_of_ble_eq_true rfl)) dX11_clear_1 ⟨Nat.le_of_ble_eq_true rfl, Nat.le_of_ble_eq_true rfl⟩) hP hD hS hA [] [0, 1, 2] (wr := [(h0, .inr (11, [v0, v1, v2, .ref h1, v3, v4, v5, v6, v7, v8, v9, v10, v11, v12, v13])), (h1, .inr (5, [.ref h2, v14, v15])), (h2, .inr (8, [v16, v17, .int 0, v18, v19, v20, v21, v22, v23, v24, v25, v26, v27, v28, v29, v30, v31, v32]))]) rfl rfl (by decide) (by decide) (fun r u H locs w1 hP hD hS => ?_)
  rcases w1 with ⟨c2, rfl, rfl⟩ | ⟨c3, rfl, rfl⟩
  · have hP : va_P D vwCl [(h0, .inr (11, [v0, v1, v2, .ref h1, v3, v4, v5, v6, v7, v8, v9, v10, v11, v12, v13])), (h1, .inr (5, [.ref h2, v14, v15])), (h2, .inr (8, [v16, v17, .int 0, v18, v19, v20, v21, v22, v23, v24, v25, v26, v27, v28, v29, v30, v31, v32]))] H := hP
    have hD : va_D A [(h0, .inr (11, [v0, v1, v2, .ref h1, v3, v4, v5, v6, v7, v8, v9, v10, v11, v12, v13])), (h1, .inr (5, [.ref h2, v14, v15])), (h2, .inr (8, [v16, v17, .int 0, v18, v19, v20, v21, v22, v23, v24, v25, v26, v27, v28, v29, v30, v31, v32]))] := hD
    refine lv_if_eq (tgt := 18) hx hb dX11_clear_4 (by decide) (fun _ => ?_) (fun h9 => absurd (by decide) h9)
    refine lv_bipush (v := (-2)) hx hb dX11_clear_18 (by decide) ?_
    exact kr_z hx hb hr rfl hlocks hP hD hS [] [] (by decide) rfl (Or.inl ⟨c2, rfl, rfl⟩) (by decide) (by decide) dX11_clear_20
  · have hP : va_P D vwCl [(h0, .inr (11, [v0, v1, v2, .ref h1, v3, v4, v5, v6, v7, v8, v9, v10, v11, v12, v13])), (h1, .inr (5, [.ref h2, v14, v15])), (h2, .inr (8, [v16, v17, .int 0, v18, v19, v20, v21, v22, v23, v24, v25, v26, v27, v28, v29, v30, v31, v32]))] H := hP
    have hD : va_D A [(h0, .inr (11, [v0, v1, v2, .ref h1, v3, v4, v5, v6, v7, v8, v9, v10, v11, v12, v13])), (h1, .inr (5, [.ref h2, v14, v15])), (h2, .inr (8, [v16, v17, .int 0, v18, v19, v20, v21, v22, v23, v24, v25, v26, v27, v28, v29, v30, v31, v32]))] := hD
    refine lv_if_eq (tgt := 18) hx hb dX11_clear_4 (by decide) (fun h9 => absurd h9 (by decide)) (fun _ => ?_)
    refine lv_aload_n hx hb dX11_clear_7 rfl (lv_at hl 0 rfl) ?_
    refine va_get (D := D) (ci := 11) (v := .ref h1) (C := RX11) (T := TX11) (N := 15) hx hb hB inB_X11 hown hK.1 hP 0 rfl rfl 3 (by decide) (hB _ mw_85) (fun _ h9 => h9) rfl dX11_clear_8 ?_
    refine lv_iload_n hx hb dX11_clear_11 rfl (lv_at hl 1 rfl) ?_
    refine kc_i (va_runV (As := [.int p0]) (rest := []) ⟨hx, hb, hml, hown, hB⟩ (c45_X5_openAll l D ty H.size h1 h2 p0 v14 v15 v16 v17 v18 v19 v20 v21 v22 v23 v24 v25 v26 v27 v28 v29 v30 v31 v32) (cwV 1 hB (bw_V mw_246 mw_247 mw_248 mw_76 mw_245) rfl rfl rfl (by decide +kernel) ⟨Nat.le_of_ble_eq_true rfl, Nat.le_of_ble_eq_true rfl⟩) (kp_V hK hP hD [1, 2] (by decide) rfl 1 rfl rfl rfl) rfl rfl hl.1 rfl (lv_room (Nat.le_of_ble_eq_true rfl)) dX11_clear_12 ⟨Nat.le_of_ble_eq_true rfl, Nat.le_of_ble_eq_true rfl⟩) hP hD hS hA [1, 2] [0] (wr := [(h0, .inr (11, [v0, v1, v2, .ref h1, v3, v4, v5, v6, v7, v8, v9, v10, v11, v12, v13]))]) rfl rfl (by decide) (by decide) (fun r u H locs w4 hP hD hS => ?_)
    obtain ⟨rfl, rfl⟩ := w4
    have hP : va_P D vwCl [(h0, .inr (11, [v0, v1, v2, .ref h1, v3, v4, v5, v6, v7, v8, v9, v10, v11, v12, v13])), (h1, .inr (5, [.ref h2, v14, v15])), (h2, .inr (8, [v16, v17, .int 0, v18, v19, v20, v21, v22, v23, v24, v25, v26, v27, v28, v29, v30, v31, v32]))] H := hP
    have hD : va_D A [(h0, .inr (11, [v0, v1, v2, .ref h1, v3, v4, v5, v6, v7, v8, v9, v10, v11, v12, v13])), (h1, .inr (5, [.ref h2, v14, v15])), (h2, .inr (8, [v16, v17, .int 0, v18, v19, v20, v21, v22, v23, v24, v25, v26, v27, v28, v29, v30, v31, v32]))] := hD
    refine lv_goto (tgt := 20) hx hb dX11_clear_15 (by decide) ?_
    exact kr_z hx hb hr rfl hlocks hP hD hS [] [] (by decide) rfl (Or.inr ⟨c3, rfl, rfl⟩) (by decide) (by decide) dX11_clear_20
set_option maxHeartbeats 4000000 in
set_option maxRecDepth 100000 in
theorem c48_X2_joinCorners (l : Launch) (D : va_G) (ty : Nat → ClassId) (sz : Nat) (h0 : Nat) (h1 : Nat) (h2 : Nat) (h3 : Nat) (h4 : Nat) (v0 : Value) (v1 : Value) (v2 : Value) (v3 : Value) (f0 : Nat → Int32) (f1 : Nat → Int32) (v4 : Value) (v5 : Value) (v6 : Value) (v7 : Value) (v8 : Value) (v9 : Value) (v10 : Value) (v11 : Value) (v12 : Value) (v13 : Value) (v14 : Value) (v15 : Value) (v16 : Value) (v17 : Value) (v18 : Value) (v19 : Value) (v20 : Value) : cQ l yX2_joinCorners cX2_joinCorners 7 none 1 23 [.ref h0, .ref h3, .ref h4, .int (-1)] D ty [(h0, .inr (2, [v0, v1, v2, .ref h1, .ref h2, v3])), (h1, .inl (ty 1, 16, .inl f0)), (h2, .inl (ty 1, 16, .inl f1)), (h3, .inr (8, [v4, v5, .int 0, v6, v7, v8, v9, v10, v11, v12, v13, v14, v15, v16, v17, v18, v19, v20]))] sz (qV (fun (u : va_W) => [(h0, .inr (2, [v0, v1, v2, .ref h1, .ref h2, v3])), (h3, .inr (8, [v4, v5, .int 0, v6, v7, v8, v9, v10, v11, v12, v13, v14, v15, v16, v17, v18, v19, v20])), (h1, .inl (ty 1, 16, .inl (kf 0))), (h2, .inl (ty 1, 16, .inl (kf 0)))] = u)) 0 0 := by
  refine cQ.of (by decide) (Nat.le_of_ble_eq_true rfl) (fun p e s m below meth c A ls C hsz hP hK hD hA hl => ?_)
  obtain ⟨hx, hb, hml, hown, hB, hr, hlocks, hin⟩ := C
  have hown : s.vm.findClass RX2 = some m.cls := hown
  have hS : va_S A s.heap s.heap [] := va_S.rf
  have hl : lv_has ls 7 [(0, .ref h0), (1, .ref h3), (2, .ref h4), (3, .int (-1))] := hl
  refine lv_aload_n hx hb dX2_joinCorners_0 rfl (lv_at hl 0 rfl) ?_
  refine va_get (D := D) (ci := 2) (v := .ref h1) (C := RX2) (T := TX2) (N := 6) hx hb hB inB_X2 hown hK.1 hP 0 rfl rfl 3 (by decide) (hB _ mw_97) (fun _ h9 => h9) rfl dX2_joinCorners_1 ?_
  refine lv_iconst (v := 0) hx hb dX2_joinCorners_4 (by decide) ?_
  refine kc_v (va_runS (As := [.ref h1, .int 0]) (rest := []) ⟨hx, hb, hml, hown, hB⟩ (c_fillI l D ty s.heap.size h1 16 f0 0 (by decide)) (va_cwS 2 hB (bw_S mw_159 mw_160 mw_161 mw_158) rfl rfl rfl (by decide +kernel) ⟨Nat.le_of_ble_eq_true rfl, Nat.le_of_ble_eq_true rfl⟩) (kp_S hK hP hD [1] (by decide) rfl) rfl rfl hl.1 rfl (lv_room (Nat.le_of_ble_eq_true rfl)) dX2_joinCorners_5 ⟨Nat.le_of_ble_eq_true rfl, Nat.le_of_ble_eq_true rfl⟩) hP hD hS hA [1] [0, 2, 3] (wr := [(h0, .inr (2, [v0, v1, v2, .ref h1, .ref h2, v3])), (h2, .inl (ty 1, 16, .inl f1)), (h3, .inr (8, [v4, v5, .int 0, v6, v7, v8, v9, v10, v11, v12, v13, v14, v15, v16, v17, v18, v19, v20]))]) rfl rfl (by decide) (by decide) (fun u H locs w1 hP hD hS => ?_)
  subst w1
  have hP : va_P D vwCl [(h0, .inr (2, [v0, v1, v2, .ref h1, .ref h2, v3])), (h2, .inl (ty 1, 16, .inl f1)), (h3, .inr (8, [v4, v5, .int 0, v6, v7, v8, v9, v10, v11, v12, v13, v14, v15, v16, v17, v18, v19, v20])), (h1, .inl (ty 1, 16, .inl (kf 0)))] H := hP
  have hD : va_D A [(h0, .inr (2, [v0, v1, v2, .ref h1, .ref h2, v3])), (h2, .inl (ty 1, 16, .inl f1)), (h3, .inr (8, [v4, v5, .int 0, v6, v7, v8, v9, v10, v11, v12, v13, v14, v15, v16, v17, v18, v19, v20])), (h1, .inl (ty 1, 16, .inl (kf 0)))] := hD
  refine lv_aload_n hx hb dX2_joinCorners_8 rfl (lv_at hl 0 rfl) ?_
  refine va_get (D := D) (ci := 2) (v := .ref h2) (C := RX2) (T := TX2) (N := 6) hx hb hB inB_X2 hown hK.1 hP 0 rfl rfl 4 (by decide) (hB _ mw_98) (fun _ h9 => h9) rfl dX2_joinCorners_9 ?_
  refine lv_iconst (v := 0) hx hb dX2_joinCorners_12 (by decide) ?_
  refine kc_v (va_runS (As := [.ref h2, .int 0]) (rest := []) ⟨hx, hb, hml, hown, hB⟩ (c_fillI l D ty H.size h2 16 f1 0 (by decide)) (va_cwS 2 hB (bw_S mw_159 mw_160 mw_161 mw_158) rfl rfl rfl (by decide +kernel) ⟨Nat.le_of_ble_eq_true rfl, Nat.le_of_ble_eq_true rfl⟩) (kp_S hK hP hD [1] (by decide) rfl) rfl rfl hl.1 rfl (lv_room (Nat.le_of_ble_eq_true rfl)) dX2_joinCorners_13 ⟨Nat.le_of_ble_eq_true rfl, Nat.le_of_ble_eq_true rfl⟩) hP hD hS hA [1] [0, 2, 3] (wr := [(h0, .inr (2, [v0, v1, v2, .ref h1, .ref h2, v3])), (h3, .inr (8, [v4, v5, .int 0, v6, v7, v8, v9, v10, v11, v12, v13, v14, v15, v16, v17, v18, v19, v20])), (h1, .inl (ty 1, 16, .inl (kf 0)))]) rfl rfl (by decide) (by decide) (fun u H locs w2 hP hD hS => ?_)
  subst w2
  have hP : va_P D vwCl [(h0, .inr (2, [v0, v1, v2, .ref h1, .ref h2, v3])), (h3, .inr (8, [v4, v5, .int 0, v6, v7, v8, v9, v10, v11, v12, v13, v14, v15, v16, v17, v18, v19, v20])), (h1, .inl (ty 1, 16, .inl (kf 0))), (h2, .inl (ty 1, 16, .inl (kf 0)))] H := hP
  have hD : va_D A [(h0, .inr (2, [v0, v1, v2, .ref h1, .ref h2, v3])), (h3, .inr (8, [v4, v5, .int 0, v6, v7, v8, v9, v10, v11, v12, v13, v14, v15, v16, v17, v18, v19, v20])), (h1, .inl (ty 1, 16, .inl (kf 0))), (h2, .inl (ty 1, 16, .inl (kf 0)))] := hD
  refine lv_iconst (v := 0) hx hb dX2_joinCorners_16 (by decide) ?_
  refine lv_istore (lv' := [(4, .int 0), (0, .ref h0), (1, .ref h3), (2, .ref h4), (3, .int (-1))]) hx hb dX2_joinCorners_17 hl (by decide) rfl (fun ls hl => ?_)
  refine lv_iload hx hb dX2_joinCorners_19 (lv_at hl 0 rfl) ?_
  refine lv_aload_n hx hb dX2_joinCorners_21 rfl (lv_at hl 2 rfl) ?_
  refine va_get (D := D) (ci := 8) (v := .int 0) (C := RX8) (T := TX8) (N := 18) hx hb hB inB_X8 hown hK.1 hP 1 rfl rfl 2 (by decide) (hB _ mw_176) (fun _ h9 => h9) rfl dX2_joinCorners_22 ?_
  refine lv_icmp_ge (tgt := 130) hx hb dX2_joinCorners_25 (by decide) (fun _ => ?_) (fun h9 => absurd (by decide) h9)
  exact kr_v hx hb hr hlocks hP hD hS [(h0, .inr (2, [v0, v1, v2, .ref h1, .ref h2, v3])), (h3, .inr (8, [v4, v5, .int 0, v6, v7, v8, v9, v10, v11, v12, v13, v14, v15, v16, v17, v18, v19, v20])), (h1, .inl (ty 1, 16, .inl (kf 0))), (h2, .inl (ty 1, 16, .inl (kf 0)))] [0, 1, 2, 3] (by decide) rfl rfl (by decide) (by decide) dX2_joinCorners_130
set_option maxHeartbeats 4000000 in
set_option maxRecDepth 100000 in
theorem c49_X8_allCorners (l : Launch) (D : va_G) (ty : Nat → ClassId) (sz : Nat) (h0 : Nat) (v0 : Value) (v1 : Value) (v2 : Value) (v3 : Value) (v4 : Value) (v5 : Value) (v6 : Value) (v7 : Value) (v8 : Value) (v9 : Value) (v10 : Value) (v11 : Value) (v12 : Value) (v13 : Value) (v14 : Value) (v15 : Value) (v16 : Value) : cQ l yX8_allCorners cX8_allCorners 1 (some .int) 0 0 [.ref h0] D ty [(h0, .inr (8, [v0, .int 2, v1, v2, v3, v4, v5, v6, v7, v8, v9, v10, v11, v12, v13, v14, v15, v16]))] sz (qI (fun (r : Int32) (u : va_W) => 3 = r ∧ [(h0, .inr (8, [v0, .int 2, v1, v2, v3, v4, v5, v6, v7, v8, v9, v10, v11, v12, v13, v14, v15, v16]))] = u)) 0 0 := by
  refine cQ.of (by decide) (Nat.le_of_ble_eq_true rfl) (fun p e s m below meth c A ls C hsz hP hK hD hA hl => ?_)
  obtain ⟨hx, hb, hml, hown, hB, hr, hlocks, hin⟩ := C
  have hown : s.vm.findClass RX8 = some m.cls := hown
  have hS : va_S A s.heap s.heap [] := va_S.rf
  have hl : lv_has ls 1 [(0, .ref h0)] := hl
  refine lv_iconst (v := 1) hx hb dX8_allCorners_0 (by decide) ?_
  refine lv_aload_n hx hb dX8_allCorners_1 rfl (lv_at hl 0 rfl) ?_
  refine va_get (D := D) (ci := 8) (v := .int 2) (C := RX8) (T := TX8) (N := 18) hx hb hB inB_X8 hown hK.1 hP 0 rfl rfl 1 (by decide) (hB _ mw_28) (fun _ h9 => h9) rfl dX8_allCorners_2 ?_
  refine lv_ishl hx hb dX8_allCorners_5 ?_
  refine tp_i (v := 4) (by decide) ?_
  refine lv_iconst (v := 1) hx hb dX8_allCorners_6 (by decide) ?_
  refine lv_isub hx hb dX8_allCorners_7 ?_
  refine tp_i (v := 3) (by decide) ?_
  exact kr_z hx hb hr rfl hlocks hP hD hS [(h0, .inr (8, [v0, .int 2, v1, v2, v3, v4, v5, v6, v7, v8, v9, v10, v11, v12, v13, v14, v15, v16]))] [0] (by decide) rfl ⟨rfl, rfl⟩ (by decide) (by decide) dX8_allCorners_8
set_option maxHeartbeats 4000000 in
set_option maxRecDepth 100000 in
theorem c50_X2_spread (l : Launch) (D : va_G) (ty : Nat → ClassId) (sz : Nat) (h0 : Nat) (h1 : Nat) (h2 : Nat) (v0 : Value) (v1 : Value) (v2 : Value) (v3 : Value) (v4 : Value) (v5 : Value) (v6 : Value) (v7 : Value) (v8 : Value) (v9 : Value) (v10 : Value) (v11 : Value) (v12 : Value) (v13 : Value) (v14 : Value) (v15 : Value) (v16 : Value) : cQ l yX2_spread cX2_spread 8 (some .int) 0 0 [.ref h2, .ref h0, .ref h1, .int 0] D ty [(h0, .inr (8, [v0, .int 2, v1, v2, v3, v4, v5, v6, v7, v8, v9, v10, v11, v12, v13, v14, v15, v16])), (h1, .inl (ty 1, 16, .inl (kf 0)))] sz (qI (fun (r : Int32) (u : va_W) => 1 = r ∧ [(h0, .inr (8, [v0, .int 2, v1, v2, v3, v4, v5, v6, v7, v8, v9, v10, v11, v12, v13, v14, v15, v16])), (h1, .inl (ty 1, 16, .inl (kf 0)))] = u)) 0 0 := by
  refine cQ.of (by decide) (Nat.le_of_ble_eq_true rfl) (fun p e s m below meth c A ls C hsz hP hK hD hA hl => ?_)
  obtain ⟨hx, hb, hml, hown, hB, hr, hlocks, hin⟩ := C
  have hown : s.vm.findClass RX2 = some m.cls := hown
  have hS : va_S A s.heap s.heap [] := va_S.rf
  have hl : lv_has ls 8 [(0, .ref h2), (1, .ref h0), (2, .ref h1), (3, .int 0)] := hl
  refine lv_iconst (v := 1) hx hb dX2_spread_0 (by decide) ?_
  refine lv_iload_n hx hb dX2_spread_1 rfl (lv_at hl 3 rfl) ?_
  refine lv_ishl hx hb dX2_spread_2 ?_
  refine tp_i (v := 1) (by decide) ?_
  refine lv_istore (lv' := [(4, .int 1), (0, .ref h2), (1, .ref h0), (2, .ref h1), (3, .int 0)]) hx hb dX2_spread_3 hl (by decide) rfl (fun ls hl => ?_)
  refine lv_iconst (v := 0) hx hb dX2_spread_5 (by decide) ?_
  refine lv_istore (lv' := [(5, .int 0), (4, .int 1), (0, .ref h2), (1, .ref h0), (2, .ref h1), (3, .int 0)]) hx hb dX2_spread_6 hl (by decide) rfl (fun ls hl => ?_)
  refine lv_iload hx hb dX2_spread_8 (lv_at hl 0 rfl) ?_
  refine lv_aload_n hx hb dX2_spread_10 rfl (lv_at hl 3 rfl) ?_
  refine va_get (D := D) (ci := 8) (v := .int 2) (C := RX8) (T := TX8) (N := 18) hx hb hB inB_X8 hown hK.1 hP 0 rfl rfl 1 (by decide) (hB _ mw_156) (fun _ h9 => h9) rfl dX2_spread_11 ?_
  refine lv_icmp_ge (tgt := 74) hx hb dX2_spread_14 (by decide) (fun h9 => absurd h9 (by decide)) (fun _ => ?_)
  refine lv_iload hx hb dX2_spread_17 (lv_at hl 1 rfl) ?_
  refine lv_istore (lv' := [(6, .int 1), (5, .int 0), (4, .int 1), (0, .ref h2), (1, .ref h0), (2, .ref h1), (3, .int 0)]) hx hb dX2_spread_19 hl (by decide) rfl (fun ls hl => ?_)
  refine lv_iconst (v := 0) hx hb dX2_spread_21 (by decide) ?_
  refine lv_istore (lv' := [(7, .int 0), (6, .int 1), (5, .int 0), (4, .int 1), (0, .ref h2), (1, .ref h0), (2, .ref h1), (3, .int 0)]) hx hb dX2_spread_22 hl (by decide) rfl (fun ls hl => ?_)
  refine lv_iload hx hb dX2_spread_24 (lv_at hl 0 rfl) ?_
  refine lv_aload_n hx hb dX2_spread_26 rfl (lv_at hl 5 rfl) ?_
  refine va_get (D := D) (ci := 8) (v := .int 2) (C := RX8) (T := TX8) (N := 18) hx hb hB inB_X8 hown hK.1 hP 0 rfl rfl 1 (by decide) (hB _ mw_156) (fun _ h9 => h9) rfl dX2_spread_27 ?_
  refine lv_icmp_ge (tgt := 58) hx hb dX2_spread_30 (by decide) (fun h9 => absurd h9 (by decide)) (fun _ => ?_)
  refine lv_iload hx hb dX2_spread_33 (lv_at hl 3 rfl) ?_
  refine lv_iload hx hb dX2_spread_35 (lv_at hl 0 rfl) ?_
  refine lv_ishr hx hb dX2_spread_37 ?_
  refine tp_i (v := 1) (by decide) ?_
  refine lv_iconst (v := 1) hx hb dX2_spread_38 (by decide) ?_
  refine lv_iand hx hb dX2_spread_39 ?_
  refine tp_i (v := 1) (by decide) ?_
  refine lv_if_eq (tgt := 52) hx hb dX2_spread_40 (by decide) (fun h9 => absurd h9 (by decide)) (fun _ => ?_)
  refine lv_iload hx hb dX2_spread_43 (lv_at hl 3 rfl) ?_
  refine lv_aload_n hx hb dX2_spread_45 rfl (lv_at hl 6 rfl) ?_
  refine lv_iload hx hb dX2_spread_46 (lv_at hl 0 rfl) ?_
  refine va_iald hx hb hK.1 hP 1 1 rfl rfl (by unfold vp_in; decide) dX2_spread_48 ?_
  refine tp_i (v := 0) rfl ?_
  refine lv_ior hx hb dX2_spread_49 ?_
  refine tp_i (v := 1) (by decide) ?_
  refine lv_istore (lv' := [(4, .int 1), (7, .int 0), (6, .int 1), (5, .int 0), (0, .ref h2), (1, .ref h0), (2, .ref h1), (3, .int 0)]) hx hb dX2_spread_50 hl (by decide) rfl (fun ls hl => ?_)
  refine lv_iinc (v := 1) (lv' := [(7, .int 1), (4, .int 1), (6, .int 1), (5, .int 0), (0, .ref h2), (1, .ref h0), (2, .ref h1), (3, .int 0)]) hx hb dX2_spread_52 hl (k := 1) rfl (by decide) (by decide) rfl (fun ls hl => ?_)
  refine lv_goto (tgt := 24) hx hb dX2_spread_55 (by decide) ?_
  refine lv_iload hx hb dX2_spread_24 (lv_at hl 0 rfl) ?_
  refine lv_aload_n hx hb dX2_spread_26 rfl (lv_at hl 5 rfl) ?_
  refine va_get (D := D) (ci := 8) (v := .int 2) (C := RX8) (T := TX8) (N := 18) hx hb hB inB_X8 hown hK.1 hP 0 rfl rfl 1 (by decide) (hB _ mw_156) (fun _ h9 => h9) rfl dX2_spread_27 ?_
  refine lv_icmp_ge (tgt := 58) hx hb dX2_spread_30 (by decide) (fun h9 => absurd h9 (by decide)) (fun _ => ?_)
  refine lv_iload hx hb dX2_spread_33 (lv_at hl 1 rfl) ?_
  refine lv_iload hx hb dX2_spread_35 (lv_at hl 0 rfl) ?_
  refine lv_ishr hx hb dX2_spread_37 ?_
  refine tp_i (v := 0) (by decide) ?_
  refine lv_iconst (v := 1) hx hb dX2_spread_38 (by decide) ?_
  refine lv_iand hx hb dX2_spread_39 ?_
  refine tp_i (v := 0) (by decide) ?_
  refine lv_if_eq (tgt := 52) hx hb dX2_spread_40 (by decide) (fun _ => ?_) (fun h9 => absurd (by decide) h9)
  refine lv_iinc (v := 2) (lv' := [(7, .int 2), (4, .int 1), (6, .int 1), (5, .int 0), (0, .ref h2), (1, .ref h0), (2, .ref h1), (3, .int 0)]) hx hb dX2_spread_52 hl (k := 0) rfl (by decide) (by decide) rfl (fun ls hl => ?_)
  refine lv_goto (tgt := 24) hx hb dX2_spread_55 (by decide) ?_
  refine lv_iload hx hb dX2_spread_24 (lv_at hl 0 rfl) ?_
  refine lv_aload_n hx hb dX2_spread_26 rfl (lv_at hl 5 rfl) ?_
  refine va_get (D := D) (ci := 8) (v := .int 2) (C := RX8) (T := TX8) (N := 18) hx hb hB inB_X8 hown hK.1 hP 0 rfl rfl 1 (by decide) (hB _ mw_156) (fun _ h9 => h9) rfl dX2_spread_27 ?_
  refine lv_icmp_ge (tgt := 58) hx hb dX2_spread_30 (by decide) (fun _ => ?_) (fun h9 => absurd (by decide) h9)
  refine lv_iload hx hb dX2_spread_58 (lv_at hl 1 rfl) ?_
  refine lv_iload hx hb dX2_spread_60 (lv_at hl 2 rfl) ?_
  refine lv_icmp_ne (tgt := 68) hx hb dX2_spread_62 (by decide) (fun h9 => absurd (by decide) h9) (fun _ => ?_)
  refine lv_iload hx hb dX2_spread_65 (lv_at hl 1 rfl) ?_
  exact kr_z hx hb hr rfl hlocks hP hD hS [(h0, .inr (8, [v0, .int 2, v1, v2, v3, v4, v5, v6, v7, v8, v9, v10, v11, v12, v13, v14, v15, v16])), (h1, .inl (ty 1, 16, .inl (kf 0)))] [0, 1] (by decide) rfl ⟨rfl, rfl⟩ (by decide) (by decide) dX2_spread_67
set_option maxHeartbeats 4000000 in
set_option maxRecDepth 100000 in
theorem c47_X2_isWhole (l : Launch) (D : va_G) (ty : Nat → ClassId) (sz : Nat) (h0 : Nat) (h1 : Nat) (h2 : Nat) (h3 : Nat) (h4 : Nat) (v0 : Value) (v1 : Value) (v2 : Value) (v3 : Value) (f0 : Nat → Int32) (f1 : Nat → Int32) (v4 : Value) (v5 : Value) (v6 : Value) (v7 : Value) (v8 : Value) (v9 : Value) (v10 : Value) (v11 : Value) (v12 : Value) (v13 : Value) (v14 : Value) (v15 : Value) (v16 : Value) (v17 : Value) (v18 : Value) (v19 : Value) : cQ l yX2_isWhole cX2_isWhole 4 (some .boolean) 2 49 [.ref h0, .ref h3, .ref h4] D ty [(h0, .inr (2, [v0, v1, v2, .ref h1, .ref h2, v3])), (h1, .inl (ty 1, 16, .inl f0)), (h2, .inl (ty 1, 16, .inl f1)), (h3, .inr (8, [v4, .int 2, .int 0, v5, v6, v7, v8, v9, v10, v11, v12, v13, v14, v15, v16, v17, v18, v19]))] sz (qI (fun (r : Int32) (u : va_W) => 0 = r ∧ [(h0, .inr (2, [v0, v1, v2, .ref h1, .ref h2, v3])), (h2, .inl (ty 1, 16, .inl (kf 0))), (h3, .inr (8, [v4, .int 2, .int 0, v5, v6, v7, v8, v9, v10, v11, v12, v13, v14, v15, v16, v17, v18, v19])), (h1, .inl (ty 1, 16, .inl (kf 0)))] = u)) 0 0 := by
  refine cQ.of (by decide) (Nat.le_of_ble_eq_true rfl) (fun p e s m below meth c A ls C hsz hP hK hD hA hl => ?_)
  obtain ⟨hx, hb, hml, hown, hB, hr, hlocks, hin⟩ := C
  have hown : s.vm.findClass RX2 = some m.cls := hown
  have hS : va_S A s.heap s.heap [] := va_S.rf
  have hl : lv_has ls 4 [(0, .ref h0), (1, .ref h3), (2, .ref h4)] := hl
  refine lv_aload_n hx hb dX2_isWhole_0 rfl (lv_at hl 0 rfl) ?_
  refine lv_aload_n hx hb dX2_isWhole_1 rfl (lv_at hl 1 rfl) ?_
  refine lv_aload_n hx hb dX2_isWhole_2 rfl (lv_at hl 2 rfl) ?_
  refine lv_iconst (v := (-1)) hx hb dX2_isWhole_3 (by decide) ?_
  refine kc_v (va_runV (As := [.ref h3, .ref h4, .int (-1)]) (rest := []) ⟨hx, hb, hml, hown, hB⟩ (c48_X2_joinCorners l D ty s.heap.size h0 h1 h2 h3 h4 v0 v1 v2 v3 f0 f1 v4 (.int 2) v5 v6 v7 v8 v9 v10 v11 v12 v13 v14 v15 v16 v17 v18 v19) (cwV 3 hB (bw_V mw_269 mw_270 mw_271 mw_92 mw_268) rfl rfl rfl (by decide +kernel) ⟨Nat.le_of_ble_eq_true rfl, Nat.le_of_ble_eq_true rfl⟩) (kp_V hK hP hD [0, 1, 2, 3] (by decide) rfl 0 rfl rfl rfl) rfl rfl hl.1 rfl (lv_room (Nat.le_of_ble_eq_true rfl)) dX2_isWhole_4 ⟨Nat.le_of_ble_eq_true rfl, Nat.le_of_ble_eq_true rfl⟩) hP hD hS hA [0, 1, 2, 3] [] (wr := []) rfl rfl (by decide) (by decide) (fun u H locs w1 hP hD hS => ?_)
  subst w1
  have hP : va_P D vwCl [(h0, .inr (2, [v0, v1, v2, .ref h1, .ref h2, v3])), (h3, .inr (8, [v4, .int 2, .int 0, v5, v6, v7, v8, v9, v10, v11, v12, v13, v14, v15, v16, v17, v18, v19])), (h1, .inl (ty 1, 16, .inl (kf 0))), (h2, .inl (ty 1, 16, .inl (kf 0)))] H := hP
  have hD : va_D A [(h0, .inr (2, [v0, v1, v2, .ref h1, .ref h2, v3])), (h3, .inr (8, [v4, .int 2, .int 0, v5, v6, v7, v8, v9, v10, v11, v12, v13, v14, v15, v16, v17, v18, v19])), (h1, .inl (ty 1, 16, .inl (kf 0))), (h2, .inl (ty 1, 16, .inl (kf 0)))] := hD
  refine lv_aload_n hx hb dX2_isWhole_7 rfl (lv_at hl 1 rfl) ?_
  refine kc_i (va_runV (As := []) (rest := []) ⟨hx, hb, hml, hown, hB⟩ (c49_X8_allCorners l D ty H.size h3 v4 (.int 0) v5 v6 v7 v8 v9 v10 v11 v12 v13 v14 v15 v16 v17 v18 v19) (cwV 0 hB (bw_V mw_273 mw_274 mw_275 mw_25 mw_272) rfl rfl rfl (by decide +kernel) ⟨Nat.le_of_ble_eq_true rfl, Nat.le_of_ble_eq_true rfl⟩) (kp_V hK hP hD [1] (by decide) rfl 1 rfl rfl rfl) rfl rfl hl.1 rfl (lv_room (Nat.le_of_ble_eq_true rfl)) dX2_isWhole_8 ⟨Nat.le_of_ble_eq_true rfl, Nat.le_of_ble_eq_true rfl⟩) hP hD hS hA [1] [0, 2, 3] (wr := [(h0, .inr (2, [v0, v1, v2, .ref h1, .ref h2, v3])), (h1, .inl (ty 1, 16, .inl (kf 0))), (h2, .inl (ty 1, 16, .inl (kf 0)))]) rfl rfl (by decide) (by decide) (fun r u H locs w2 hP hD hS => ?_)
  obtain ⟨rfl, rfl⟩ := w2
  have hP : va_P D vwCl [(h0, .inr (2, [v0, v1, v2, .ref h1, .ref h2, v3])), (h1, .inl (ty 1, 16, .inl (kf 0))), (h2, .inl (ty 1, 16, .inl (kf 0))), (h3, .inr (8, [v4, .int 2, .int 0, v5, v6, v7, v8, v9, v10, v11, v12, v13, v14, v15, v16, v17, v18, v19]))] H := hP
  have hD : va_D A [(h0, .inr (2, [v0, v1, v2, .ref h1, .ref h2, v3])), (h1, .inl (ty 1, 16, .inl (kf 0))), (h2, .inl (ty 1, 16, .inl (kf 0))), (h3, .inr (8, [v4, .int 2, .int 0, v5, v6, v7, v8, v9, v10, v11, v12, v13, v14, v15, v16, v17, v18, v19]))] := hD
  refine lv_istore_n (lv' := [(3, .int 3), (0, .ref h0), (1, .ref h3), (2, .ref h4)]) hx hb dX2_isWhole_11 rfl hl (by decide) rfl (fun ls hl => ?_)
  refine lv_aload_n hx hb dX2_isWhole_12 rfl (lv_at hl 1 rfl) ?_
  refine lv_aload_n hx hb dX2_isWhole_13 rfl (lv_at hl 2 rfl) ?_
  refine lv_aload_n hx hb dX2_isWhole_14 rfl (lv_at hl 1 rfl) ?_
  refine va_get (D := D) (ci := 2) (v := .ref h1) (C := RX2) (T := TX2) (N := 6) hx hb hB inB_X2 hown hK.1 hP 0 rfl rfl 3 (by decide) (hB _ mw_97) (fun _ h9 => h9) rfl dX2_isWhole_15 ?_
  refine lv_iconst (v := 0) hx hb dX2_isWhole_18 (by decide) ?_
  refine kc_i (va_runV (As := [.ref h3, .ref h1, .int 0]) (rest := []) ⟨hx, hb, hml, hown, hB⟩ (c50_X2_spread l D ty H.size h3 h1 h0 v4 (.int 0) v5 v6 v7 v8 v9 v10 v11 v12 v13 v14 v15 v16 v17 v18 v19) (cwV 3 hB (bw_V mw_277 mw_278 mw_279 mw_92 mw_276) rfl rfl rfl (by decide +kernel) ⟨Nat.le_of_ble_eq_true rfl, Nat.le_of_ble_eq_true rfl⟩) (kp_V hK hP hD [3, 1] (by decide) rfl 0 rfl rfl rfl) rfl rfl hl.1 rfl (lv_room (Nat.le_of_ble_eq_true rfl)) dX2_isWhole_19 ⟨Nat.le_of_ble_eq_true rfl, Nat.le_of_ble_eq_true rfl⟩) hP hD hS hA [3, 1] [0, 2] (wr := [(h0, .inr (2, [v0, v1, v2, .ref h1, .ref h2, v3])), (h2, .inl (ty 1, 16, .inl (kf 0)))]) rfl rfl (by decide) (by decide) (fun r u H locs w3 hP hD hS => ?_)
  obtain ⟨rfl, rfl⟩ := w3
  have hP : va_P D vwCl [(h0, .inr (2, [v0, v1, v2, .ref h1, .ref h2, v3])), (h2, .inl (ty 1, 16, .inl (kf 0))), (h3, .inr (8, [v4, .int 2, .int 0, v5, v6, v7, v8, v9, v10, v11, v12, v13, v14, v15, v16, v17, v18, v19])), (h1, .inl (ty 1, 16, .inl (kf 0)))] H := hP
  have hD : va_D A [(h0, .inr (2, [v0, v1, v2, .ref h1, .ref h2, v3])), (h2, .inl (ty 1, 16, .inl (kf 0))), (h3, .inr (8, [v4, .int 2, .int 0, v5, v6, v7, v8, v9, v10, v11, v12, v13, v14, v15, v16, v17, v18, v19])), (h1, .inl (ty 1, 16, .inl (kf 0)))] := hD
  refine lv_iload_n hx hb dX2_isWhole_22 rfl (lv_at hl 0 rfl) ?_
  refine lv_icmp_ne (tgt := 44) hx hb dX2_isWhole_23 (by decide) (fun _ => ?_) (fun h9 => absurd h9 (by decide))
  refine lv_iconst (v := 0) hx hb dX2_isWhole_44 (by decide) ?_
  exact kr_z hx hb hr rfl hlocks hP hD hS [(h0, .inr (2, [v0, v1, v2, .ref h1, .ref h2, v3])), (h2, .inl (ty 1, 16, .inl (kf 0))), (h3, .inr (8, [v4, .int 2, .int 0, v5, v6, v7, v8, v9, v10, v11, v12, v13, v14, v15, v16, v17, v18, v19])), (h1, .inl (ty 1, 16, .inl (kf 0)))] [0, 1, 2, 3] (by decide) rfl ⟨rfl, rfl⟩ (by decide) (by decide) dX2_isWhole_45
set_option maxHeartbeats 4000000 in
set_option maxRecDepth 100000 in
theorem c46_X11_whole (l : Launch) (D : va_G) (ty : Nat → ClassId) (sz : Nat) (h0 : Nat) (h1 : Nat) (h2 : Nat) (h3 : Nat) (h4 : Nat) (h5 : Nat) (h6 : Nat) (p0 : Int32) (v0 : Value) (v1 : Value) (v2 : Value) (v3 : Value) (v4 : Value) (v5 : Value) (v6 : Value) (v7 : Value) (v8 : Value) (v9 : Value) (v10 : Value) (v11 : Value) (v12 : Value) (v13 : Value) (h7 : Nat) (h8 : Nat) (v14 : Value) (v15 : Value) (v16 : Value) (v17 : Value) (f0 : Nat → Int32) (f1 : Nat → Int32) (v18 : Value) (v19 : Value) (v20 : Value) (v21 : Value) (v22 : Value) (v23 : Value) (v24 : Value) (v25 : Value) (v26 : Value) (v27 : Value) (v28 : Value) (v29 : Value) (v30 : Value) (v31 : Value) (v32 : Value) (v33 : Value) : cQ l yX11_whole cX11_whole 2 (some .int) 3 72 [.ref h0, .int p0] D ty [(h0, .inr (11, [v0, v1, v2, .ref h1, v3, v4, .ref h3, v5, v6, v7, v8, v9, v10, v11, v12])), (h1, .inr (5, [.ref h6, .ref h2, v13])), (h2, .inl (ty 6, 2, .inr (.inr (.inr (.inr (wy2 h7 h8)))))), (h3, .inr (2, [v14, v15, v16, .ref h4, .ref h5, v17])), (h4, .inl (ty 1, 16, .inl f0)), (h5, .inl (ty 1, 16, .inl f1)), (h6, .inr (8, [v18, .int 2, .int 0, v19, v20, v21, v22, v23, v24, v25, v26, v27, v28, v29, v30, v31, v32, v33]))] sz (qI (fun (r : Int32) (u : va_W) => (((((p0 < 0)) ∨ ((¬ (p0 < 0)) ∧ (2 ≤ p0)))) ∧ (-2) = r ∧ [] = u) ∨ (((((¬ (p0 < 0)) ∧ (¬ (2 ≤ p0))) ∧ (p0 = 0)) ∨ (((¬ (p0 < 0)) ∧ (¬ (2 ≤ p0))) ∧ (p0 = 1))) ∧ 0 = r ∧ [] = u))) 0 0 := by
  refine cQ.of (by decide) (Nat.le_of_ble_eq_true rfl) (fun p e s m below meth c A ls C hsz hP hK hD hA hl => ?_)
  obtain ⟨hx, hb, hml, hown, hB, hr, hlocks, hin⟩ := C
  have hown : s.vm.findClass RX11 = some m.cls := hown
  have hS : va_S A s.heap s.heap [] := va_S.rf
  have hl : lv_has ls 2 [(0, .ref h0), (1, .int p0)] := hl
  refine lv_iload_n hx hb dX11_whole_0 rfl (lv_at hl 1 rfl) ?_
  refine kc_i (va_runS (As := [.int p0]) (rest := []) ⟨hx, hb, hml, hown, hB⟩ (c38_X11_isGiving l D ty s.heap.size p0) (va_cwS 1 hB (bw_S mw_253 mw_254 mw_216 mw_252) rfl rfl rfl (by decide +kernel) ⟨Nat.le_of_ble_eq_true rfl, Nat.le_of_ble_eq_true rfl⟩) (kp_S hK hP hD [] (by decide) rfl) rfl rfl hl.1 rfl (lv_room (Nat.le_of_ble_eq_true rfl)) dX11_whole_1 ⟨Nat.le_of_ble_eq_true rfl, Nat.le_of_ble_eq_true rfl⟩) hP hD hS hA [] [0, 1, 2, 3, 4, 5, 6] (wr := [(h0, .inr (11, [v0, v1, v2, .ref h1, v3, v4, .ref h3, v5, v6, v7, v8, v9, v10, v11, v12])), (h1, .inr (5, [.ref h6, .ref h2, v13])), (h2, .inl (ty 6, 2, .inr (.inr (.inr (.inr (wy2 h7 h8)))))), (h3, .inr (2, [v14, v15, v16, .ref h4, .ref h5, v17])), (h4, .inl (ty 1, 16, .inl f0)), (h5, .inl (ty 1, 16, .inl f1)), (h6, .inr (8, [v18, .int 2, .int 0, v19, v20, v21, v22, v23, v24, v25, v26, v27, v28, v29, v30, v31, v32, v33]))]) rfl rfl (by decide) (by decide) (fun r u H locs w1 hP hD hS => ?_)
  rcases w1 with ⟨c2, rfl, rfl⟩ | ⟨c3, rfl, rfl⟩
  · have hP : va_P D vwCl [(h0, .inr (11, [v0, v1, v2, .ref h1, v3, v4, .ref h3, v5, v6, v7, v8, v9, v10, v11, v12])), (h1, .inr (5, [.ref h6, .ref h2, v13])), (h2, .inl (ty 6, 2, .inr (.inr (.inr (.inr (wy2 h7 h8)))))), (h3, .inr (2, [v14, v15, v16, .ref h4, .ref h5, v17])), (h4, .inl (ty 1, 16, .inl f0)), (h5, .inl (ty 1, 16, .inl f1)), (h6, .inr (8, [v18, .int 2, .int 0, v19, v20, v21, v22, v23, v24, v25, v26, v27, v28, v29, v30, v31, v32, v33]))] H := hP
    have hD : va_D A [(h0, .inr (11, [v0, v1, v2, .ref h1, v3, v4, .ref h3, v5, v6, v7, v8, v9, v10, v11, v12])), (h1, .inr (5, [.ref h6, .ref h2, v13])), (h2, .inl (ty 6, 2, .inr (.inr (.inr (.inr (wy2 h7 h8)))))), (h3, .inr (2, [v14, v15, v16, .ref h4, .ref h5, v17])), (h4, .inl (ty 1, 16, .inl f0)), (h5, .inl (ty 1, 16, .inl f1)), (h6, .inr (8, [v18, .int 2, .int 0, v19, v20, v21, v22, v23, v24, v25, v26, v27, v28, v29, v30, v31, v32, v33]))] := hD
    refine lv_if_ne (tgt := 10) hx hb dX11_whole_4 (by decide) (fun h9 => absurd (by decide) h9) (fun _ => ?_)
    refine lv_bipush (v := (-2)) hx hb dX11_whole_7 (by decide) ?_
    exact kr_z hx hb hr rfl hlocks hP hD hS [] [] (by decide) rfl (Or.inl ⟨c2, rfl, rfl⟩) (by decide) (by decide) dX11_whole_9
  · have hP : va_P D vwCl [(h0, .inr (11, [v0, v1, v2, .ref h1, v3, v4, .ref h3, v5, v6, v7, v8, v9, v10, v11, v12])), (h1, .inr (5, [.ref h6, .ref h2, v13])), (h2, .inl (ty 6, 2, .inr (.inr (.inr (.inr (wy2 h7 h8)))))), (h3, .inr (2, [v14, v15, v16, .ref h4, .ref h5, v17])), (h4, .inl (ty 1, 16, .inl f0)), (h5, .inl (ty 1, 16, .inl f1)), (h6, .inr (8, [v18, .int 2, .int 0, v19, v20, v21, v22, v23, v24, v25, v26, v27, v28, v29, v30, v31, v32, v33]))] H := hP
    have hD : va_D A [(h0, .inr (11, [v0, v1, v2, .ref h1, v3, v4, .ref h3, v5, v6, v7, v8, v9, v10, v11, v12])), (h1, .inr (5, [.ref h6, .ref h2, v13])), (h2, .inl (ty 6, 2, .inr (.inr (.inr (.inr (wy2 h7 h8)))))), (h3, .inr (2, [v14, v15, v16, .ref h4, .ref h5, v17])), (h4, .inl (ty 1, 16, .inl f0)), (h5, .inl (ty 1, 16, .inl f1)), (h6, .inr (8, [v18, .int 2, .int 0, v19, v20, v21, v22, v23, v24, v25, v26, v27, v28, v29, v30, v31, v32, v33]))] := hD
    refine lv_if_ne (tgt := 10) hx hb dX11_whole_4 (by decide) (fun _ => ?_) (fun h9 => absurd h9 (by decide))
    refine lv_aload_n hx hb dX11_whole_10 rfl (lv_at hl 0 rfl) ?_
    refine va_get (D := D) (ci := 11) (v := .ref h3) (C := RX11) (T := TX11) (N := 15) hx hb hB inB_X11 hown hK.1 hP 0 rfl rfl 6 (by decide) (hB _ mw_102) (fun _ h9 => h9) rfl dX11_whole_11 ?_
    refine lv_aload_n hx hb dX11_whole_14 rfl (lv_at hl 0 rfl) ?_
    refine va_get (D := D) (ci := 11) (v := .ref h1) (C := RX11) (T := TX11) (N := 15) hx hb hB inB_X11 hown hK.1 hP 0 rfl rfl 3 (by decide) (hB _ mw_85) (fun _ h9 => h9) rfl dX11_whole_15 ?_
    refine va_get (D := D) (ci := 5) (v := .ref h6) (C := RX5) (T := TX5) (N := 3) hx hb hB inB_X5 hown hK.1 hP 1 rfl rfl 0 (by decide) (hB _ mw_150) (fun _ h9 => h9) rfl dX11_whole_18 ?_
    refine lv_aload_n hx hb dX11_whole_21 rfl (lv_at hl 0 rfl) ?_
    refine va_get (D := D) (ci := 11) (v := .ref h1) (C := RX11) (T := TX11) (N := 15) hx hb hB inB_X11 hown hK.1 hP 0 rfl rfl 3 (by decide) (hB _ mw_85) (fun _ h9 => h9) rfl dX11_whole_22 ?_
    refine va_get (D := D) (ci := 5) (v := .ref h2) (C := RX5) (T := TX5) (N := 3) hx hb hB inB_X5 hown hK.1 hP 1 rfl rfl 1 (by decide) (hB _ mw_267) (fun _ h9 => h9) rfl dX11_whole_25 ?_
    refine lv_iload_n hx hb dX11_whole_28 rfl (lv_at hl 1 rfl) ?_
    rcases ps_2 p0 c3 with rfl | rfl
    · refine va_aldA hx hb hK.1 hP 2 6 rfl rfl (by unfold vp_in; decide) dX11_whole_29 ?_
      refine tp_v (v := .ref h7) rfl ?_
      refine kc_i (va_runV (As := [.ref h6, .ref h7]) (rest := []) ⟨hx, hb, hml, hown, hB⟩ (c47_X2_isWhole l D ty H.size h3 h4 h5 h6 h7 v14 v15 v16 v17 f0 f1 v18 v19 v20 v21 v22 v23 v24 v25 v26 v27 v28 v29 v30 v31 v32 v33) (cwV 2 hB (bw_V mw_281 mw_282 mw_283 mw_92 mw_280) rfl rfl rfl (by decide +kernel) ⟨Nat.le_of_ble_eq_true rfl, Nat.le_of_ble_eq_true rfl⟩) (kp_V hK hP hD [3, 4, 5, 6] (by decide) rfl 3 rfl rfl rfl) rfl rfl hl.1 rfl (lv_room (Nat.le_of_ble_eq_true rfl)) dX11_whole_30 ⟨Nat.le_of_ble_eq_true rfl, Nat.le_of_ble_eq_true rfl⟩) hP hD hS hA [3, 4, 5, 6] [0, 1, 2] (wr := [(h0, .inr (11, [v0, v1, v2, .ref h1, v3, v4, .ref h3, v5, v6, v7, v8, v9, v10, v11, v12])), (h1, .inr (5, [.ref h6, .ref h2, v13])), (h2, .inl (ty 6, 2, .inr (.inr (.inr (.inr (wy2 h7 h8))))))]) rfl rfl (by decide) (by decide) (fun r u H locs w4 hP hD hS => ?_)
      obtain ⟨rfl, rfl⟩ := w4
      have hP : va_P D vwCl [(h0, .inr (11, [v0, v1, v2, .ref h1, v3, v4, .ref h3, v5, v6, v7, v8, v9, v10, v11, v12])), (h1, .inr (5, [.ref h6, .ref h2, v13])), (h2, .inl (ty 6, 2, .inr (.inr (.inr (.inr (wy2 h7 h8)))))), (h3, .inr (2, [v14, v15, v16, .ref h4, .ref h5, v17])), (h5, .inl (ty 1, 16, .inl (kf 0))), (h6, .inr (8, [v18, .int 2, .int 0, v19, v20, v21, v22, v23, v24, v25, v26, v27, v28, v29, v30, v31, v32, v33])), (h4, .inl (ty 1, 16, .inl (kf 0)))] H := hP
      have hD : va_D A [(h0, .inr (11, [v0, v1, v2, .ref h1, v3, v4, .ref h3, v5, v6, v7, v8, v9, v10, v11, v12])), (h1, .inr (5, [.ref h6, .ref h2, v13])), (h2, .inl (ty 6, 2, .inr (.inr (.inr (.inr (wy2 h7 h8)))))), (h3, .inr (2, [v14, v15, v16, .ref h4, .ref h5, v17])), (h5, .inl (ty 1, 16, .inl (kf 0))), (h6, .inr (8, [v18, .int 2, .int 0, v19, v20, v21, v22, v23, v24, v25, v26, v27, v28, v29, v30, v31, v32, v33])), (h4, .inl (ty 1, 16, .inl (kf 0)))] := hD
      refine lv_if_eq (tgt := 40) hx hb dX11_whole_33 (by decide) (fun _ => ?_) (fun h9 => absurd (by decide) h9)
      refine lv_iconst (v := 0) hx hb dX11_whole_40 (by decide) ?_
      exact kr_z hx hb hr rfl hlocks hP hD hS [] [] (by decide) rfl (Or.inr ⟨(Or.inl ⟨c3, rfl⟩), rfl, rfl⟩) (by decide) (by decide) dX11_whole_41
    · refine va_aldA hx hb hK.1 hP 2 6 rfl rfl (by unfold vp_in; decide) dX11_whole_29 ?_
      refine tp_v (v := .ref h8) rfl ?_
      refine kc_i (va_runV (As := [.ref h6, .ref h8]) (rest := []) ⟨hx, hb, hml, hown, hB⟩ (c47_X2_isWhole l D ty H.size h3 h4 h5 h6 h8 v14 v15 v16 v17 f0 f1 v18 v19 v20 v21 v22 v23 v24 v25 v26 v27 v28 v29 v30 v31 v32 v33) (cwV 2 hB (bw_V mw_281 mw_282 mw_283 mw_92 mw_280) rfl rfl rfl (by decide +kernel) ⟨Nat.le_of_ble_eq_true rfl, Nat.le_of_ble_eq_true rfl⟩) (kp_V hK hP hD [3, 4, 5, 6] (by decide) rfl 3 rfl rfl rfl) rfl rfl hl.1 rfl (lv_room (Nat.le_of_ble_eq_true rfl)) dX11_whole_30 ⟨Nat.le_of_ble_eq_true rfl, Nat.le_of_ble_eq_true rfl⟩) hP hD hS hA [3, 4, 5, 6] [0, 1, 2] (wr := [(h0, .inr (11, [v0, v1, v2, .ref h1, v3, v4, .ref h3, v5, v6, v7, v8, v9, v10, v11, v12])), (h1, .inr (5, [.ref h6, .ref h2, v13])), (h2, .inl (ty 6, 2, .inr (.inr (.inr (.inr (wy2 h7 h8))))))]) rfl rfl (by decide) (by decide) (fun r u H locs w5 hP hD hS => ?_)
      obtain ⟨rfl, rfl⟩ := w5
      have hP : va_P D vwCl [(h0, .inr (11, [v0, v1, v2, .ref h1, v3, v4, .ref h3, v5, v6, v7, v8, v9, v10, v11, v12])), (h1, .inr (5, [.ref h6, .ref h2, v13])), (h2, .inl (ty 6, 2, .inr (.inr (.inr (.inr (wy2 h7 h8)))))), (h3, .inr (2, [v14, v15, v16, .ref h4, .ref h5, v17])), (h5, .inl (ty 1, 16, .inl (kf 0))), (h6, .inr (8, [v18, .int 2, .int 0, v19, v20, v21, v22, v23, v24, v25, v26, v27, v28, v29, v30, v31, v32, v33])), (h4, .inl (ty 1, 16, .inl (kf 0)))] H := hP
      have hD : va_D A [(h0, .inr (11, [v0, v1, v2, .ref h1, v3, v4, .ref h3, v5, v6, v7, v8, v9, v10, v11, v12])), (h1, .inr (5, [.ref h6, .ref h2, v13])), (h2, .inl (ty 6, 2, .inr (.inr (.inr (.inr (wy2 h7 h8)))))), (h3, .inr (2, [v14, v15, v16, .ref h4, .ref h5, v17])), (h5, .inl (ty 1, 16, .inl (kf 0))), (h6, .inr (8, [v18, .int 2, .int 0, v19, v20, v21, v22, v23, v24, v25, v26, v27, v28, v29, v30, v31, v32, v33])), (h4, .inl (ty 1, 16, .inl (kf 0)))] := hD
      refine lv_if_eq (tgt := 40) hx hb dX11_whole_33 (by decide) (fun _ => ?_) (fun h9 => absurd (by decide) h9)
      refine lv_iconst (v := 0) hx hb dX11_whole_40 (by decide) ?_
      exact kr_z hx hb hr rfl hlocks hP hD hS [] [] (by decide) rfl (Or.inr ⟨(Or.inr ⟨c3, rfl⟩), rfl, rfl⟩) (by decide) (by decide) dX11_whole_41
set_option maxHeartbeats 4000000 in
set_option maxRecDepth 100000 in
theorem c53_X8_openAlleys (l : Launch) (D : va_G) (ty : Nat → ClassId) (sz : Nat) (h0 : Nat) (h1 : Nat) (v0 : Value) (v1 : Value) (v2 : Value) (v3 : Value) (v4 : Value) (v5 : Value) (v6 : Value) (v7 : Value) (v8 : Value) (v9 : Value) (v10 : Value) (v11 : Value) (v12 : Value) (v13 : Value) (v14 : Value) (v15 : Value) (v16 : Value) : cQ l yX8_openAlleys cX8_openAlleys 4 (some .int) 0 0 [.ref h0, .ref h1] D ty [(h0, .inr (8, [v0, v1, .int 0, v2, v3, v4, v5, v6, v7, v8, v9, v10, v11, v12, v13, v14, v15, v16]))] sz (qI (fun (r : Int32) (u : va_W) => 0 = r ∧ [(h0, .inr (8, [v0, v1, .int 0, v2, v3, v4, v5, v6, v7, v8, v9, v10, v11, v12, v13, v14, v15, v16]))] = u)) 0 0 := by
  refine cQ.of (by decide) (Nat.le_of_ble_eq_true rfl) (fun p e s m below meth c A ls C hsz hP hK hD hA hl => ?_)
  obtain ⟨hx, hb, hml, hown, hB, hr, hlocks, hin⟩ := C
  have hown : s.vm.findClass RX8 = some m.cls := hown
  have hS : va_S A s.heap s.heap [] := va_S.rf
  have hl : lv_has ls 4 [(0, .ref h0), (1, .ref h1)] := hl
  refine lv_iconst (v := 0) hx hb dX8_openAlleys_0 (by decide) ?_
  refine lv_istore_n (lv' := [(2, .int 0), (0, .ref h0), (1, .ref h1)]) hx hb dX8_openAlleys_1 rfl hl (by decide) rfl (fun ls hl => ?_)
  refine lv_iconst (v := 0) hx hb dX8_openAlleys_2 (by decide) ?_
  refine lv_istore_n (lv' := [(3, .int 0), (2, .int 0), (0, .ref h0), (1, .ref h1)]) hx hb dX8_openAlleys_3 rfl hl (by decide) rfl (fun ls hl => ?_)
  refine lv_iload_n hx hb dX8_openAlleys_4 rfl (lv_at hl 0 rfl) ?_
  refine lv_aload_n hx hb dX8_openAlleys_5 rfl (lv_at hl 2 rfl) ?_
  refine va_get (D := D) (ci := 8) (v := .int 0) (C := RX8) (T := TX8) (N := 18) hx hb hB inB_X8 hown hK.1 hP 0 rfl rfl 2 (by decide) (hB _ mw_29) (fun _ h9 => h9) rfl dX8_openAlleys_6 ?_
  refine lv_icmp_ge (tgt := 30) hx hb dX8_openAlleys_9 (by decide) (fun _ => ?_) (fun h9 => absurd (by decide) h9)
  refine lv_iload_n hx hb dX8_openAlleys_30 rfl (lv_at hl 1 rfl) ?_
  exact kr_z hx hb hr rfl hlocks hP hD hS [(h0, .inr (8, [v0, v1, .int 0, v2, v3, v4, v5, v6, v7, v8, v9, v10, v11, v12, v13, v14, v15, v16]))] [0] (by decide) rfl ⟨rfl, rfl⟩ (by decide) (by decide) dX8_openAlleys_31
set_option maxHeartbeats 4000000 in
set_option maxRecDepth 100000 in
theorem c52_X0_canEnd (l : Launch) (D : va_G) (ty : Nat → ClassId) (sz : Nat) (h0 : Nat) (h1 : Nat) (h2 : Nat) (h3 : Nat) (h4 : Nat) (h5 : Nat) (v0 : Value) (v1 : Value) (v2 : Value) (v3 : Value) (v4 : Value) (v5 : Value) (v6 : Value) (v7 : Value) (v8 : Value) (v9 : Value) (v10 : Value) (v11 : Value) (v12 : Value) (v13 : Value) (v14 : Value) (v15 : Value) (v16 : Value) (v17 : Value) (v18 : Value) (v19 : Value) (f0 : Nat → Int32) (f1 : Nat → Int32) : cQ l yX0_canEnd cX0_canEnd 3 (some .boolean) 3 72 [.ref h1, .ref h0, .ref h5] D ty [(h0, .inr (8, [v0, .int 2, .int 0, v1, v2, v3, v4, v5, v6, v7, v8, v9, v10, v11, v12, v13, v14, .int 0])), (h1, .inr (0, [.ref h2, v15])), (h2, .inr (2, [v16, v17, v18, .ref h3, .ref h4, v19])), (h3, .inl (ty 1, 16, .inl f0)), (h4, .inl (ty 1, 16, .inl f1))] sz (qI (fun (r : Int32) (u : va_W) => 0 = r ∧ [(h1, .inr (0, [.ref h2, v15])), (h2, .inr (2, [v16, v17, v18, .ref h3, .ref h4, v19])), (h4, .inl (ty 1, 16, .inl (kf 0))), (h0, .inr (8, [v0, .int 2, .int 0, v1, v2, v3, v4, v5, v6, v7, v8, v9, v10, v11, v12, v13, v14, .int 0])), (h3, .inl (ty 1, 16, .inl (kf 0)))] = u)) 0 0 := by
  refine cQ.of (by decide) (Nat.le_of_ble_eq_true rfl) (fun p e s m below meth c A ls C hsz hP hK hD hA hl => ?_)
  obtain ⟨hx, hb, hml, hown, hB, hr, hlocks, hin⟩ := C
  have hown : s.vm.findClass RX0 = some m.cls := hown
  have hS : va_S A s.heap s.heap [] := va_S.rf
  have hl : lv_has ls 3 [(0, .ref h1), (1, .ref h0), (2, .ref h5)] := hl
  refine lv_aload_n hx hb dX0_canEnd_0 rfl (lv_at hl 1 rfl) ?_
  refine va_get (D := D) (ci := 8) (v := .int 0) (C := RX8) (T := TX8) (N := 18) hx hb hB inB_X8 hown hK.1 hP 0 rfl rfl 17 (by decide) (hB _ mw_284) (fun _ h9 => h9) rfl dX0_canEnd_1 ?_
  refine lv_aload_n hx hb dX0_canEnd_4 rfl (lv_at hl 1 rfl) ?_
  refine lv_aload_n hx hb dX0_canEnd_5 rfl (lv_at hl 2 rfl) ?_
  refine kc_i (va_runV (As := [.ref h5]) (rest := [.int 0]) ⟨hx, hb, hml, hown, hB⟩ (c53_X8_openAlleys l D ty s.heap.size h0 h5 v0 (.int 2) v1 v2 v3 v4 v5 v6 v7 v8 v9 v10 v11 v12 v13 v14 (.int 0)) (cwV 1 hB (bw_V mw_286 mw_287 mw_288 mw_25 mw_285) rfl rfl rfl (by decide +kernel) ⟨Nat.le_of_ble_eq_true rfl, Nat.le_of_ble_eq_true rfl⟩) (kp_V hK hP hD [0] (by decide) rfl 0 rfl rfl rfl) rfl rfl hl.1 rfl (lv_room (Nat.le_of_ble_eq_true rfl)) dX0_canEnd_6 ⟨Nat.le_of_ble_eq_true rfl, Nat.le_of_ble_eq_true rfl⟩) hP hD hS hA [0] [1, 2, 3, 4] (wr := [(h1, .inr (0, [.ref h2, v15])), (h2, .inr (2, [v16, v17, v18, .ref h3, .ref h4, v19])), (h3, .inl (ty 1, 16, .inl f0)), (h4, .inl (ty 1, 16, .inl f1))]) rfl rfl (by decide) (by decide) (fun r u H locs w1 hP hD hS => ?_)
  obtain ⟨rfl, rfl⟩ := w1
  have hP : va_P D vwCl [(h1, .inr (0, [.ref h2, v15])), (h2, .inr (2, [v16, v17, v18, .ref h3, .ref h4, v19])), (h3, .inl (ty 1, 16, .inl f0)), (h4, .inl (ty 1, 16, .inl f1)), (h0, .inr (8, [v0, .int 2, .int 0, v1, v2, v3, v4, v5, v6, v7, v8, v9, v10, v11, v12, v13, v14, .int 0]))] H := hP
  have hD : va_D A [(h1, .inr (0, [.ref h2, v15])), (h2, .inr (2, [v16, v17, v18, .ref h3, .ref h4, v19])), (h3, .inl (ty 1, 16, .inl f0)), (h4, .inl (ty 1, 16, .inl f1)), (h0, .inr (8, [v0, .int 2, .int 0, v1, v2, v3, v4, v5, v6, v7, v8, v9, v10, v11, v12, v13, v14, .int 0]))] := hD
  refine lv_iand hx hb dX0_canEnd_9 ?_
  refine tp_i (v := 0) (by decide) ?_
  refine lv_if_ne (tgt := 29) hx hb dX0_canEnd_10 (by decide) (fun h9 => absurd (by decide) h9) (fun _ => ?_)
  refine lv_aload_n hx hb dX0_canEnd_13 rfl (lv_at hl 0 rfl) ?_
  refine va_get (D := D) (ci := 0) (v := .ref h2) (C := RX0) (T := TX0) (N := 2) hx hb hB inB_X0 hown hK.1 hP 0 rfl rfl 0 (by decide) (hB _ mw_108) (fun _ h9 => h9) rfl dX0_canEnd_14 ?_
  refine lv_aload_n hx hb dX0_canEnd_17 rfl (lv_at hl 1 rfl) ?_
  refine lv_aload_n hx hb dX0_canEnd_18 rfl (lv_at hl 2 rfl) ?_
  refine kc_i (va_runV (As := [.ref h0, .ref h5]) (rest := []) ⟨hx, hb, hml, hown, hB⟩ (c47_X2_isWhole l D ty H.size h2 h3 h4 h0 h5 v16 v17 v18 v19 f0 f1 v0 v1 v2 v3 v4 v5 v6 v7 v8 v9 v10 v11 v12 v13 v14 (.int 0)) (cwV 2 hB (bw_V mw_289 mw_282 mw_283 mw_92 mw_280) rfl rfl rfl (by decide +kernel) ⟨Nat.le_of_ble_eq_true rfl, Nat.le_of_ble_eq_true rfl⟩) (kp_V hK hP hD [1, 2, 3, 4] (by decide) rfl 1 rfl rfl rfl) rfl rfl hl.1 rfl (lv_room (Nat.le_of_ble_eq_true rfl)) dX0_canEnd_19 ⟨Nat.le_of_ble_eq_true rfl, Nat.le_of_ble_eq_true rfl⟩) hP hD hS hA [1, 2, 3, 4] [0] (wr := [(h1, .inr (0, [.ref h2, v15]))]) rfl rfl (by decide) (by decide) (fun r u H locs w2 hP hD hS => ?_)
  obtain ⟨rfl, rfl⟩ := w2
  have hP : va_P D vwCl [(h1, .inr (0, [.ref h2, v15])), (h2, .inr (2, [v16, v17, v18, .ref h3, .ref h4, v19])), (h4, .inl (ty 1, 16, .inl (kf 0))), (h0, .inr (8, [v0, .int 2, .int 0, v1, v2, v3, v4, v5, v6, v7, v8, v9, v10, v11, v12, v13, v14, .int 0])), (h3, .inl (ty 1, 16, .inl (kf 0)))] H := hP
  have hD : va_D A [(h1, .inr (0, [.ref h2, v15])), (h2, .inr (2, [v16, v17, v18, .ref h3, .ref h4, v19])), (h4, .inl (ty 1, 16, .inl (kf 0))), (h0, .inr (8, [v0, .int 2, .int 0, v1, v2, v3, v4, v5, v6, v7, v8, v9, v10, v11, v12, v13, v14, .int 0])), (h3, .inl (ty 1, 16, .inl (kf 0)))] := hD
  refine lv_if_eq (tgt := 29) hx hb dX0_canEnd_22 (by decide) (fun _ => ?_) (fun h9 => absurd (by decide) h9)
  refine lv_iconst (v := 0) hx hb dX0_canEnd_29 (by decide) ?_
  exact kr_z hx hb hr rfl hlocks hP hD hS [(h1, .inr (0, [.ref h2, v15])), (h2, .inr (2, [v16, v17, v18, .ref h3, .ref h4, v19])), (h4, .inl (ty 1, 16, .inl (kf 0))), (h0, .inr (8, [v0, .int 2, .int 0, v1, v2, v3, v4, v5, v6, v7, v8, v9, v10, v11, v12, v13, v14, .int 0])), (h3, .inl (ty 1, 16, .inl (kf 0)))] [0, 1, 2, 3, 4] (by decide) rfl ⟨rfl, rfl⟩ (by decide) (by decide) dX0_canEnd_30
set_option maxHeartbeats 4000000 in
set_option maxRecDepth 100000 in
theorem c51_X11_can (l : Launch) (D : va_G) (ty : Nat → ClassId) (sz : Nat) (h0 : Nat) (h1 : Nat) (h2 : Nat) (h3 : Nat) (h4 : Nat) (h5 : Nat) (h6 : Nat) (h7 : Nat) (p0 : Int32) (v0 : Value) (v1 : Value) (v2 : Value) (v3 : Value) (v4 : Value) (v5 : Value) (v6 : Value) (v7 : Value) (v8 : Value) (v9 : Value) (v10 : Value) (v11 : Value) (v12 : Value) (v13 : Value) (h8 : Nat) (h9 : Nat) (v14 : Value) (v15 : Value) (v16 : Value) (v17 : Value) (v18 : Value) (v19 : Value) (v20 : Value) (v21 : Value) (v22 : Value) (v23 : Value) (v24 : Value) (v25 : Value) (v26 : Value) (v27 : Value) (v28 : Value) (v29 : Value) (v30 : Value) (v31 : Value) (v32 : Value) (v33 : Value) (f0 : Nat → Int32) (f1 : Nat → Int32) : cQ l yX11_can cX11_can 2 (some .int) 4 94 [.ref h0, .int p0] D ty [(h0, .inr (11, [v0, v1, v2, .ref h1, v3, v4, v5, .ref h3, v6, v7, v8, v9, v10, v11, v12])), (h1, .inr (5, [.ref h4, .ref h2, v13])), (h2, .inl (ty 6, 2, .inr (.inr (.inr (.inr (wy2 h8 h9)))))), (h3, .inr (0, [.ref h5, v14])), (h4, .inr (8, [v15, .int 2, .int 0, v16, v17, v18, v19, v20, v21, v22, v23, v24, v25, v26, v27, v28, v29, .int 0])), (h5, .inr (2, [v30, v31, v32, .ref h6, .ref h7, v33])), (h6, .inl (ty 1, 16, .inl f0)), (h7, .inl (ty 1, 16, .inl f1))] sz (qI (fun (r : Int32) (u : va_W) => (((((p0 < 0)) ∨ ((¬ (p0 < 0)) ∧ (2 ≤ p0)))) ∧ (-2) = r ∧ [] = u) ∨ (((((¬ (p0 < 0)) ∧ (¬ (2 ≤ p0))) ∧ (p0 = 0)) ∨ (((¬ (p0 < 0)) ∧ (¬ (2 ≤ p0))) ∧ (p0 = 1))) ∧ 0 = r ∧ [] = u))) 0 0 := by
  refine cQ.of (by decide) (Nat.le_of_ble_eq_true rfl) (fun p e s m below meth c A ls C hsz hP hK hD hA hl => ?_)
  obtain ⟨hx, hb, hml, hown, hB, hr, hlocks, hin⟩ := C
  have hown : s.vm.findClass RX11 = some m.cls := hown
  have hS : va_S A s.heap s.heap [] := va_S.rf
  have hl : lv_has ls 2 [(0, .ref h0), (1, .int p0)] := hl
  refine lv_iload_n hx hb dX11_can_0 rfl (lv_at hl 1 rfl) ?_
  refine kc_i (va_runS (As := [.int p0]) (rest := []) ⟨hx, hb, hml, hown, hB⟩ (c38_X11_isGiving l D ty s.heap.size p0) (va_cwS 1 hB (bw_S mw_253 mw_254 mw_216 mw_252) rfl rfl rfl (by decide +kernel) ⟨Nat.le_of_ble_eq_true rfl, Nat.le_of_ble_eq_true rfl⟩) (kp_S hK hP hD [] (by decide) rfl) rfl rfl hl.1 rfl (lv_room (Nat.le_of_ble_eq_true rfl)) dX11_can_1 ⟨Nat.le_of_ble_eq_true rfl, Nat.le_of_ble_eq_true rfl⟩) hP hD hS hA [] [0, 1, 2, 3, 4, 5, 6, 7] (wr := [(h0, .inr (11, [v0, v1, v2, .ref h1, v3, v4, v5, .ref h3, v6, v7, v8, v9, v10, v11, v12])), (h1, .inr (5, [.ref h4, .ref h2, v13])), (h2, .inl (ty 6, 2, .inr (.inr (.inr (.inr (wy2 h8 h9)))))), (h3, .inr (0, [.ref h5, v14])), (h4, .inr (8, [v15, .int 2, .int 0, v16, v17, v18, v19, v20, v21, v22, v23, v24, v25, v26, v27, v28, v29, .int 0])), (h5, .inr (2, [v30, v31, v32, .ref h6, .ref h7, v33])), (h6, .inl (ty 1, 16, .inl f0)), (h7, .inl (ty 1, 16, .inl f1))]) rfl rfl (by decide) (by decide) (fun r u H locs w1 hP hD hS => ?_)
  rcases w1 with ⟨c2, rfl, rfl⟩ | ⟨c3, rfl, rfl⟩
  · have hP : va_P D vwCl [(h0, .inr (11, [v0, v1, v2, .ref h1, v3, v4, v5, .ref h3, v6, v7, v8, v9, v10, v11, v12])), (h1, .inr (5, [.ref h4, .ref h2, v13])), (h2, .inl (ty 6, 2, .inr (.inr (.inr (.inr (wy2 h8 h9)))))), (h3, .inr (0, [.ref h5, v14])), (h4, .inr (8, [v15, .int 2, .int 0, v16, v17, v18, v19, v20, v21, v22, v23, v24, v25, v26, v27, v28, v29, .int 0])), (h5, .inr (2, [v30, v31, v32, .ref h6, .ref h7, v33])), (h6, .inl (ty 1, 16, .inl f0)), (h7, .inl (ty 1, 16, .inl f1))] H := hP
    have hD : va_D A [(h0, .inr (11, [v0, v1, v2, .ref h1, v3, v4, v5, .ref h3, v6, v7, v8, v9, v10, v11, v12])), (h1, .inr (5, [.ref h4, .ref h2, v13])), (h2, .inl (ty 6, 2, .inr (.inr (.inr (.inr (wy2 h8 h9)))))), (h3, .inr (0, [.ref h5, v14])), (h4, .inr (8, [v15, .int 2, .int 0, v16, v17, v18, v19, v20, v21, v22, v23, v24, v25, v26, v27, v28, v29, .int 0])), (h5, .inr (2, [v30, v31, v32, .ref h6, .ref h7, v33])), (h6, .inl (ty 1, 16, .inl f0)), (h7, .inl (ty 1, 16, .inl f1))] := hD
    refine lv_if_ne (tgt := 10) hx hb dX11_can_4 (by decide) (fun h9 => absurd (by decide) h9) (fun _ => ?_)
    refine lv_bipush (v := (-2)) hx hb dX11_can_7 (by decide) ?_
    exact kr_z hx hb hr rfl hlocks hP hD hS [] [] (by decide) rfl (Or.inl ⟨c2, rfl, rfl⟩) (by decide) (by decide) dX11_can_9
  · have hP : va_P D vwCl [(h0, .inr (11, [v0, v1, v2, .ref h1, v3, v4, v5, .ref h3, v6, v7, v8, v9, v10, v11, v12])), (h1, .inr (5, [.ref h4, .ref h2, v13])), (h2, .inl (ty 6, 2, .inr (.inr (.inr (.inr (wy2 h8 h9)))))), (h3, .inr (0, [.ref h5, v14])), (h4, .inr (8, [v15, .int 2, .int 0, v16, v17, v18, v19, v20, v21, v22, v23, v24, v25, v26, v27, v28, v29, .int 0])), (h5, .inr (2, [v30, v31, v32, .ref h6, .ref h7, v33])), (h6, .inl (ty 1, 16, .inl f0)), (h7, .inl (ty 1, 16, .inl f1))] H := hP
    have hD : va_D A [(h0, .inr (11, [v0, v1, v2, .ref h1, v3, v4, v5, .ref h3, v6, v7, v8, v9, v10, v11, v12])), (h1, .inr (5, [.ref h4, .ref h2, v13])), (h2, .inl (ty 6, 2, .inr (.inr (.inr (.inr (wy2 h8 h9)))))), (h3, .inr (0, [.ref h5, v14])), (h4, .inr (8, [v15, .int 2, .int 0, v16, v17, v18, v19, v20, v21, v22, v23, v24, v25, v26, v27, v28, v29, .int 0])), (h5, .inr (2, [v30, v31, v32, .ref h6, .ref h7, v33])), (h6, .inl (ty 1, 16, .inl f0)), (h7, .inl (ty 1, 16, .inl f1))] := hD
    refine lv_if_ne (tgt := 10) hx hb dX11_can_4 (by decide) (fun _ => ?_) (fun h9 => absurd h9 (by decide))
    refine lv_aload_n hx hb dX11_can_10 rfl (lv_at hl 0 rfl) ?_
    refine va_get (D := D) (ci := 11) (v := .ref h3) (C := RX11) (T := TX11) (N := 15) hx hb hB inB_X11 hown hK.1 hP 0 rfl rfl 7 (by decide) (hB _ mw_112) (fun _ h9 => h9) rfl dX11_can_11 ?_
    refine lv_aload_n hx hb dX11_can_14 rfl (lv_at hl 0 rfl) ?_
    refine va_get (D := D) (ci := 11) (v := .ref h1) (C := RX11) (T := TX11) (N := 15) hx hb hB inB_X11 hown hK.1 hP 0 rfl rfl 3 (by decide) (hB _ mw_85) (fun _ h9 => h9) rfl dX11_can_15 ?_
    refine va_get (D := D) (ci := 5) (v := .ref h4) (C := RX5) (T := TX5) (N := 3) hx hb hB inB_X5 hown hK.1 hP 1 rfl rfl 0 (by decide) (hB _ mw_150) (fun _ h9 => h9) rfl dX11_can_18 ?_
    refine lv_aload_n hx hb dX11_can_21 rfl (lv_at hl 0 rfl) ?_
    refine va_get (D := D) (ci := 11) (v := .ref h1) (C := RX11) (T := TX11) (N := 15) hx hb hB inB_X11 hown hK.1 hP 0 rfl rfl 3 (by decide) (hB _ mw_85) (fun _ h9 => h9) rfl dX11_can_22 ?_
    refine va_get (D := D) (ci := 5) (v := .ref h2) (C := RX5) (T := TX5) (N := 3) hx hb hB inB_X5 hown hK.1 hP 1 rfl rfl 1 (by decide) (hB _ mw_267) (fun _ h9 => h9) rfl dX11_can_25 ?_
    refine lv_iload_n hx hb dX11_can_28 rfl (lv_at hl 1 rfl) ?_
    rcases ps_2 p0 c3 with rfl | rfl
    · refine va_aldA hx hb hK.1 hP 2 6 rfl rfl (by unfold vp_in; decide) dX11_can_29 ?_
      refine tp_v (v := .ref h8) rfl ?_
      refine kc_i (va_runV (As := [.ref h4, .ref h8]) (rest := []) ⟨hx, hb, hml, hown, hB⟩ (c52_X0_canEnd l D ty H.size h4 h3 h5 h6 h7 h8 v15 v16 v17 v18 v19 v20 v21 v22 v23 v24 v25 v26 v27 v28 v29 v14 v30 v31 v32 v33 f0 f1) (cwV 2 hB (bw_V mw_291 mw_292 mw_293 mw_105 mw_290) rfl rfl rfl (by decide +kernel) ⟨Nat.le_of_ble_eq_true rfl, Nat.le_of_ble_eq_true rfl⟩) (kp_V hK hP hD [4, 3, 5, 6, 7] (by decide) rfl 3 rfl rfl rfl) rfl rfl hl.1 rfl (lv_room (Nat.le_of_ble_eq_true rfl)) dX11_can_30 ⟨Nat.le_of_ble_eq_true rfl, Nat.le_of_ble_eq_true rfl⟩) hP hD hS hA [4, 3, 5, 6, 7] [0, 1, 2] (wr := [(h0, .inr (11, [v0, v1, v2, .ref h1, v3, v4, v5, .ref h3, v6, v7, v8, v9, v10, v11, v12])), (h1, .inr (5, [.ref h4, .ref h2, v13])), (h2, .inl (ty 6, 2, .inr (.inr (.inr (.inr (wy2 h8 h9))))))]) rfl rfl (by decide) (by decide) (fun r u H locs w4 hP hD hS => ?_)
      obtain ⟨rfl, rfl⟩ := w4
      have hP : va_P D vwCl [(h0, .inr (11, [v0, v1, v2, .ref h1, v3, v4, v5, .ref h3, v6, v7, v8, v9, v10, v11, v12])), (h1, .inr (5, [.ref h4, .ref h2, v13])), (h2, .inl (ty 6, 2, .inr (.inr (.inr (.inr (wy2 h8 h9)))))), (h3, .inr (0, [.ref h5, v14])), (h5, .inr (2, [v30, v31, v32, .ref h6, .ref h7, v33])), (h7, .inl (ty 1, 16, .inl (kf 0))), (h4, .inr (8, [v15, .int 2, .int 0, v16, v17, v18, v19, v20, v21, v22, v23, v24, v25, v26, v27, v28, v29, .int 0])), (h6, .inl (ty 1, 16, .inl (kf 0)))] H := hP
      have hD : va_D A [(h0, .inr (11, [v0, v1, v2, .ref h1, v3, v4, v5, .ref h3, v6, v7, v8, v9, v10, v11, v12])), (h1, .inr (5, [.ref h4, .ref h2, v13])), (h2, .inl (ty 6, 2, .inr (.inr (.inr (.inr (wy2 h8 h9)))))), (h3, .inr (0, [.ref h5, v14])), (h5, .inr (2, [v30, v31, v32, .ref h6, .ref h7, v33])), (h7, .inl (ty 1, 16, .inl (kf 0))), (h4, .inr (8, [v15, .int 2, .int 0, v16, v17, v18, v19, v20, v21, v22, v23, v24, v25, v26, v27, v28, v29, .int 0])), (h6, .inl (ty 1, 16, .inl (kf 0)))] := hD
      refine lv_if_eq (tgt := 40) hx hb dX11_can_33 (by decide) (fun _ => ?_) (fun h9 => absurd (by decide) h9)
      refine lv_iconst (v := 0) hx hb dX11_can_40 (by decide) ?_
      exact kr_z hx hb hr rfl hlocks hP hD hS [] [] (by decide) rfl (Or.inr ⟨(Or.inl ⟨c3, rfl⟩), rfl, rfl⟩) (by decide) (by decide) dX11_can_41
    · refine va_aldA hx hb hK.1 hP 2 6 rfl rfl (by unfold vp_in; decide) dX11_can_29 ?_
      refine tp_v (v := .ref h9) rfl ?_
      refine kc_i (va_runV (As := [.ref h4, .ref h9]) (rest := []) ⟨hx, hb, hml, hown, hB⟩ (c52_X0_canEnd l D ty H.size h4 h3 h5 h6 h7 h9 v15 v16 v17 v18 v19 v20 v21 v22 v23 v24 v25 v26 v27 v28 v29 v14 v30 v31 v32 v33 f0 f1) (cwV 2 hB (bw_V mw_291 mw_292 mw_293 mw_105 mw_290) rfl rfl rfl (by decide +kernel) ⟨Nat.le_of_ble_eq_true rfl, Nat.le_of_ble_eq_true rfl⟩) (kp_V hK hP hD [4, 3, 5, 6, 7] (by decide) rfl 3 rfl rfl rfl) rfl rfl hl.1 rfl (lv_room (Nat.le_of_ble_eq_true rfl)) dX11_can_30 ⟨Nat.le_of_ble_eq_true rfl, Nat.le_of_ble_eq_true rfl⟩) hP hD hS hA [4, 3, 5, 6, 7] [0, 1, 2] (wr := [(h0, .inr (11, [v0, v1, v2, .ref h1, v3, v4, v5, .ref h3, v6, v7, v8, v9, v10, v11, v12])), (h1, .inr (5, [.ref h4, .ref h2, v13])), (h2, .inl (ty 6, 2, .inr (.inr (.inr (.inr (wy2 h8 h9))))))]) rfl rfl (by decide) (by decide) (fun r u H locs w5 hP hD hS => ?_)
      obtain ⟨rfl, rfl⟩ := w5
      have hP : va_P D vwCl [(h0, .inr (11, [v0, v1, v2, .ref h1, v3, v4, v5, .ref h3, v6, v7, v8, v9, v10, v11, v12])), (h1, .inr (5, [.ref h4, .ref h2, v13])), (h2, .inl (ty 6, 2, .inr (.inr (.inr (.inr (wy2 h8 h9)))))), (h3, .inr (0, [.ref h5, v14])), (h5, .inr (2, [v30, v31, v32, .ref h6, .ref h7, v33])), (h7, .inl (ty 1, 16, .inl (kf 0))), (h4, .inr (8, [v15, .int 2, .int 0, v16, v17, v18, v19, v20, v21, v22, v23, v24, v25, v26, v27, v28, v29, .int 0])), (h6, .inl (ty 1, 16, .inl (kf 0)))] H := hP
      have hD : va_D A [(h0, .inr (11, [v0, v1, v2, .ref h1, v3, v4, v5, .ref h3, v6, v7, v8, v9, v10, v11, v12])), (h1, .inr (5, [.ref h4, .ref h2, v13])), (h2, .inl (ty 6, 2, .inr (.inr (.inr (.inr (wy2 h8 h9)))))), (h3, .inr (0, [.ref h5, v14])), (h5, .inr (2, [v30, v31, v32, .ref h6, .ref h7, v33])), (h7, .inl (ty 1, 16, .inl (kf 0))), (h4, .inr (8, [v15, .int 2, .int 0, v16, v17, v18, v19, v20, v21, v22, v23, v24, v25, v26, v27, v28, v29, .int 0])), (h6, .inl (ty 1, 16, .inl (kf 0)))] := hD
      refine lv_if_eq (tgt := 40) hx hb dX11_can_33 (by decide) (fun _ => ?_) (fun h9 => absurd (by decide) h9)
      refine lv_iconst (v := 0) hx hb dX11_can_40 (by decide) ?_
      exact kr_z hx hb hr rfl hlocks hP hD hS [] [] (by decide) rfl (Or.inr ⟨(Or.inr ⟨c3, rfl⟩), rfl, rfl⟩) (by decide) (by decide) dX11_can_41
set_option maxHeartbeats 4000000 in
set_option maxRecDepth 100000 in
theorem c54_X11_bar (l : Launch) (D : va_G) (ty : Nat → ClassId) (sz : Nat) (h0 : Nat) (h1 : Nat) (h2 : Nat) (h3 : Nat) (h4 : Nat) (h5 : Nat) (h6 : Nat) (p0 : Int32) (v0 : Value) (v1 : Value) (v2 : Value) (v3 : Value) (v4 : Value) (v5 : Value) (v6 : Value) (v7 : Value) (v8 : Value) (v9 : Value) (v10 : Value) (v11 : Value) (v12 : Value) (v13 : Value) (h7 : Nat) (h8 : Nat) (v14 : Value) (v15 : Value) (v16 : Value) (v17 : Value) (f0 : Nat → Int32) (f1 : Nat → Int32) (v18 : Value) (v19 : Value) (v20 : Value) (v21 : Value) (v22 : Value) (v23 : Value) (v24 : Value) (v25 : Value) (v26 : Value) (v27 : Value) (v28 : Value) (v29 : Value) (v30 : Value) (v31 : Value) (v32 : Value) (v33 : Value) : cQ l yX11_bar cX11_bar 2 (some .int) 3 72 [.ref h0, .int p0] D ty [(h0, .inr (11, [v0, v1, v2, .ref h1, v3, v4, .ref h3, v5, v6, v7, v8, v9, v10, v11, v12])), (h1, .inr (5, [.ref h6, .ref h2, v13])), (h2, .inl (ty 6, 2, .inr (.inr (.inr (.inr (wy2 h7 h8)))))), (h3, .inr (2, [v14, v15, v16, .ref h4, .ref h5, v17])), (h4, .inl (ty 1, 16, .inl f0)), (h5, .inl (ty 1, 16, .inl f1)), (h6, .inr (8, [v18, .int 2, .int 0, v19, v20, v21, v22, v23, v24, v25, v26, v27, v28, v29, v30, v31, v32, v33]))] sz (qI (fun (r : Int32) (u : va_W) => (((((p0 < 0)) ∨ ((¬ (p0 < 0)) ∧ (2 ≤ p0)))) ∧ (-2) = r ∧ [] = u) ∨ (((((¬ (p0 < 0)) ∧ (¬ (2 ≤ p0))) ∧ (p0 = 0)) ∨ (((¬ (p0 < 0)) ∧ (¬ (2 ≤ p0))) ∧ (p0 = 1))) ∧ (-3) = r ∧ [] = u))) 0 0 := by
  refine cQ.of (by decide) (Nat.le_of_ble_eq_true rfl) (fun p e s m below meth c A ls C hsz hP hK hD hA hl => ?_)
  obtain ⟨hx, hb, hml, hown, hB, hr, hlocks, hin⟩ := C
  have hown : s.vm.findClass RX11 = some m.cls := hown
  have hS : va_S A s.heap s.heap [] := va_S.rf
  have hl : lv_has ls 2 [(0, .ref h0), (1, .int p0)] := hl
  refine lv_iload_n hx hb dX11_bar_0 rfl (lv_at hl 1 rfl) ?_
  refine kc_i (va_runS (As := [.int p0]) (rest := []) ⟨hx, hb, hml, hown, hB⟩ (c38_X11_isGiving l D ty s.heap.size p0) (va_cwS 1 hB (bw_S mw_253 mw_254 mw_216 mw_252) rfl rfl rfl (by decide +kernel) ⟨Nat.le_of_ble_eq_true rfl, Nat.le_of_ble_eq_true rfl⟩) (kp_S hK hP hD [] (by decide) rfl) rfl rfl hl.1 rfl (lv_room (Nat.le_of_ble_eq_true rfl)) dX11_bar_1 ⟨Nat.le_of_ble_eq_true rfl, Nat.le_of_ble_eq_true rfl⟩) hP hD hS hA [] [0, 1, 2, 3, 4, 5, 6] (wr := [(h0, .inr (11, [v0, v1, v2, .ref h1, v3, v4, .ref h3, v5, v6, v7, v8, v9, v10, v11, v12])), (h1, .inr (5, [.ref h6, .ref h2, v13])), (h2, .inl (ty 6, 2, .inr (.inr (.inr (.inr (wy2 h7 h8)))))), (h3, .inr (2, [v14, v15, v16, .ref h4, .ref h5, v17])), (h4, .inl (ty 1, 16, .inl f0)), (h5, .inl (ty 1, 16, .inl f1)), (h6, .inr (8, [v18, .int 2, .int 0, v19, v20, v21, v22, v23, v24, v25, v26, v27, v28, v29, v30, v31, v32, v33]))]) rfl rfl (by decide) (by decide) (fun r u H locs w1 hP hD hS => ?_)
  rcases w1 with ⟨c2, rfl, rfl⟩ | ⟨c3, rfl, rfl⟩
  · have hP : va_P D vwCl [(h0, .inr (11, [v0, v1, v2, .ref h1, v3, v4, .ref h3, v5, v6, v7, v8, v9, v10, v11, v12])), (h1, .inr (5, [.ref h6, .ref h2, v13])), (h2, .inl (ty 6, 2, .inr (.inr (.inr (.inr (wy2 h7 h8)))))), (h3, .inr (2, [v14, v15, v16, .ref h4, .ref h5, v17])), (h4, .inl (ty 1, 16, .inl f0)), (h5, .inl (ty 1, 16, .inl f1)), (h6, .inr (8, [v18, .int 2, .int 0, v19, v20, v21, v22, v23, v24, v25, v26, v27, v28, v29, v30, v31, v32, v33]))] H := hP
    have hD : va_D A [(h0, .inr (11, [v0, v1, v2, .ref h1, v3, v4, .ref h3, v5, v6, v7, v8, v9, v10, v11, v12])), (h1, .inr (5, [.ref h6, .ref h2, v13])), (h2, .inl (ty 6, 2, .inr (.inr (.inr (.inr (wy2 h7 h8)))))), (h3, .inr (2, [v14, v15, v16, .ref h4, .ref h5, v17])), (h4, .inl (ty 1, 16, .inl f0)), (h5, .inl (ty 1, 16, .inl f1)), (h6, .inr (8, [v18, .int 2, .int 0, v19, v20, v21, v22, v23, v24, v25, v26, v27, v28, v29, v30, v31, v32, v33]))] := hD
    refine lv_if_ne (tgt := 10) hx hb dX11_bar_4 (by decide) (fun h9 => absurd (by decide) h9) (fun _ => ?_)
    refine lv_bipush (v := (-2)) hx hb dX11_bar_7 (by decide) ?_
    exact kr_z hx hb hr rfl hlocks hP hD hS [] [] (by decide) rfl (Or.inl ⟨c2, rfl, rfl⟩) (by decide) (by decide) dX11_bar_9
  · have hP : va_P D vwCl [(h0, .inr (11, [v0, v1, v2, .ref h1, v3, v4, .ref h3, v5, v6, v7, v8, v9, v10, v11, v12])), (h1, .inr (5, [.ref h6, .ref h2, v13])), (h2, .inl (ty 6, 2, .inr (.inr (.inr (.inr (wy2 h7 h8)))))), (h3, .inr (2, [v14, v15, v16, .ref h4, .ref h5, v17])), (h4, .inl (ty 1, 16, .inl f0)), (h5, .inl (ty 1, 16, .inl f1)), (h6, .inr (8, [v18, .int 2, .int 0, v19, v20, v21, v22, v23, v24, v25, v26, v27, v28, v29, v30, v31, v32, v33]))] H := hP
    have hD : va_D A [(h0, .inr (11, [v0, v1, v2, .ref h1, v3, v4, .ref h3, v5, v6, v7, v8, v9, v10, v11, v12])), (h1, .inr (5, [.ref h6, .ref h2, v13])), (h2, .inl (ty 6, 2, .inr (.inr (.inr (.inr (wy2 h7 h8)))))), (h3, .inr (2, [v14, v15, v16, .ref h4, .ref h5, v17])), (h4, .inl (ty 1, 16, .inl f0)), (h5, .inl (ty 1, 16, .inl f1)), (h6, .inr (8, [v18, .int 2, .int 0, v19, v20, v21, v22, v23, v24, v25, v26, v27, v28, v29, v30, v31, v32, v33]))] := hD
    refine lv_if_ne (tgt := 10) hx hb dX11_bar_4 (by decide) (fun _ => ?_) (fun h9 => absurd h9 (by decide))
    refine lv_aload_n hx hb dX11_bar_10 rfl (lv_at hl 0 rfl) ?_
    refine va_get (D := D) (ci := 11) (v := .ref h3) (C := RX11) (T := TX11) (N := 15) hx hb hB inB_X11 hown hK.1 hP 0 rfl rfl 6 (by decide) (hB _ mw_102) (fun _ h9 => h9) rfl dX11_bar_11 ?_
    refine lv_aload_n hx hb dX11_bar_14 rfl (lv_at hl 0 rfl) ?_
    refine va_get (D := D) (ci := 11) (v := .ref h1) (C := RX11) (T := TX11) (N := 15) hx hb hB inB_X11 hown hK.1 hP 0 rfl rfl 3 (by decide) (hB _ mw_85) (fun _ h9 => h9) rfl dX11_bar_15 ?_
    refine va_get (D := D) (ci := 5) (v := .ref h6) (C := RX5) (T := TX5) (N := 3) hx hb hB inB_X5 hown hK.1 hP 1 rfl rfl 0 (by decide) (hB _ mw_150) (fun _ h9 => h9) rfl dX11_bar_18 ?_
    refine lv_aload_n hx hb dX11_bar_21 rfl (lv_at hl 0 rfl) ?_
    refine va_get (D := D) (ci := 11) (v := .ref h1) (C := RX11) (T := TX11) (N := 15) hx hb hB inB_X11 hown hK.1 hP 0 rfl rfl 3 (by decide) (hB _ mw_85) (fun _ h9 => h9) rfl dX11_bar_22 ?_
    refine va_get (D := D) (ci := 5) (v := .ref h2) (C := RX5) (T := TX5) (N := 3) hx hb hB inB_X5 hown hK.1 hP 1 rfl rfl 1 (by decide) (hB _ mw_267) (fun _ h9 => h9) rfl dX11_bar_25 ?_
    refine lv_iload_n hx hb dX11_bar_28 rfl (lv_at hl 1 rfl) ?_
    rcases ps_2 p0 c3 with rfl | rfl
    · refine va_aldA hx hb hK.1 hP 2 6 rfl rfl (by unfold vp_in; decide) dX11_bar_29 ?_
      refine tp_v (v := .ref h7) rfl ?_
      refine kc_i (va_runV (As := [.ref h6, .ref h7]) (rest := []) ⟨hx, hb, hml, hown, hB⟩ (c47_X2_isWhole l D ty H.size h3 h4 h5 h6 h7 v14 v15 v16 v17 f0 f1 v18 v19 v20 v21 v22 v23 v24 v25 v26 v27 v28 v29 v30 v31 v32 v33) (cwV 2 hB (bw_V mw_281 mw_282 mw_283 mw_92 mw_280) rfl rfl rfl (by decide +kernel) ⟨Nat.le_of_ble_eq_true rfl, Nat.le_of_ble_eq_true rfl⟩) (kp_V hK hP hD [3, 4, 5, 6] (by decide) rfl 3 rfl rfl rfl) rfl rfl hl.1 rfl (lv_room (Nat.le_of_ble_eq_true rfl)) dX11_bar_30 ⟨Nat.le_of_ble_eq_true rfl, Nat.le_of_ble_eq_true rfl⟩) hP hD hS hA [3, 4, 5, 6] [0, 1, 2] (wr := [(h0, .inr (11, [v0, v1, v2, .ref h1, v3, v4, .ref h3, v5, v6, v7, v8, v9, v10, v11, v12])), (h1, .inr (5, [.ref h6, .ref h2, v13])), (h2, .inl (ty 6, 2, .inr (.inr (.inr (.inr (wy2 h7 h8))))))]) rfl rfl (by decide) (by decide) (fun r u H locs w4 hP hD hS => ?_)
      obtain ⟨rfl, rfl⟩ := w4
      have hP : va_P D vwCl [(h0, .inr (11, [v0, v1, v2, .ref h1, v3, v4, .ref h3, v5, v6, v7, v8, v9, v10, v11, v12])), (h1, .inr (5, [.ref h6, .ref h2, v13])), (h2, .inl (ty 6, 2, .inr (.inr (.inr (.inr (wy2 h7 h8)))))), (h3, .inr (2, [v14, v15, v16, .ref h4, .ref h5, v17])), (h5, .inl (ty 1, 16, .inl (kf 0))), (h6, .inr (8, [v18, .int 2, .int 0, v19, v20, v21, v22, v23, v24, v25, v26, v27, v28, v29, v30, v31, v32, v33])), (h4, .inl (ty 1, 16, .inl (kf 0)))] H := hP
      have hD : va_D A [(h0, .inr (11, [v0, v1, v2, .ref h1, v3, v4, .ref h3, v5, v6, v7, v8, v9, v10, v11, v12])), (h1, .inr (5, [.ref h6, .ref h2, v13])), (h2, .inl (ty 6, 2, .inr (.inr (.inr (.inr (wy2 h7 h8)))))), (h3, .inr (2, [v14, v15, v16, .ref h4, .ref h5, v17])), (h5, .inl (ty 1, 16, .inl (kf 0))), (h6, .inr (8, [v18, .int 2, .int 0, v19, v20, v21, v22, v23, v24, v25, v26, v27, v28, v29, v30, v31, v32, v33])), (h4, .inl (ty 1, 16, .inl (kf 0)))] := hD
      refine lv_if_eq (tgt := 62) hx hb dX11_bar_33 (by decide) (fun _ => ?_) (fun h9 => absurd (by decide) h9)
      refine lv_bipush (v := (-3)) hx hb dX11_bar_62 (by decide) ?_
      exact kr_z hx hb hr rfl hlocks hP hD hS [] [] (by decide) rfl (Or.inr ⟨(Or.inl ⟨c3, rfl⟩), rfl, rfl⟩) (by decide) (by decide) dX11_bar_64
    · refine va_aldA hx hb hK.1 hP 2 6 rfl rfl (by unfold vp_in; decide) dX11_bar_29 ?_
      refine tp_v (v := .ref h8) rfl ?_
      refine kc_i (va_runV (As := [.ref h6, .ref h8]) (rest := []) ⟨hx, hb, hml, hown, hB⟩ (c47_X2_isWhole l D ty H.size h3 h4 h5 h6 h8 v14 v15 v16 v17 f0 f1 v18 v19 v20 v21 v22 v23 v24 v25 v26 v27 v28 v29 v30 v31 v32 v33) (cwV 2 hB (bw_V mw_281 mw_282 mw_283 mw_92 mw_280) rfl rfl rfl (by decide +kernel) ⟨Nat.le_of_ble_eq_true rfl, Nat.le_of_ble_eq_true rfl⟩) (kp_V hK hP hD [3, 4, 5, 6] (by decide) rfl 3 rfl rfl rfl) rfl rfl hl.1 rfl (lv_room (Nat.le_of_ble_eq_true rfl)) dX11_bar_30 ⟨Nat.le_of_ble_eq_true rfl, Nat.le_of_ble_eq_true rfl⟩) hP hD hS hA [3, 4, 5, 6] [0, 1, 2] (wr := [(h0, .inr (11, [v0, v1, v2, .ref h1, v3, v4, .ref h3, v5, v6, v7, v8, v9, v10, v11, v12])), (h1, .inr (5, [.ref h6, .ref h2, v13])), (h2, .inl (ty 6, 2, .inr (.inr (.inr (.inr (wy2 h7 h8))))))]) rfl rfl (by decide) (by decide) (fun r u H locs w5 hP hD hS => ?_)
      obtain ⟨rfl, rfl⟩ := w5
      have hP : va_P D vwCl [(h0, .inr (11, [v0, v1, v2, .ref h1, v3, v4, .ref h3, v5, v6, v7, v8, v9, v10, v11, v12])), (h1, .inr (5, [.ref h6, .ref h2, v13])), (h2, .inl (ty 6, 2, .inr (.inr (.inr (.inr (wy2 h7 h8)))))), (h3, .inr (2, [v14, v15, v16, .ref h4, .ref h5, v17])), (h5, .inl (ty 1, 16, .inl (kf 0))), (h6, .inr (8, [v18, .int 2, .int 0, v19, v20, v21, v22, v23, v24, v25, v26, v27, v28, v29, v30, v31, v32, v33])), (h4, .inl (ty 1, 16, .inl (kf 0)))] H := hP
      have hD : va_D A [(h0, .inr (11, [v0, v1, v2, .ref h1, v3, v4, .ref h3, v5, v6, v7, v8, v9, v10, v11, v12])), (h1, .inr (5, [.ref h6, .ref h2, v13])), (h2, .inl (ty 6, 2, .inr (.inr (.inr (.inr (wy2 h7 h8)))))), (h3, .inr (2, [v14, v15, v16, .ref h4, .ref h5, v17])), (h5, .inl (ty 1, 16, .inl (kf 0))), (h6, .inr (8, [v18, .int 2, .int 0, v19, v20, v21, v22, v23, v24, v25, v26, v27, v28, v29, v30, v31, v32, v33])), (h4, .inl (ty 1, 16, .inl (kf 0)))] := hD
      refine lv_if_eq (tgt := 62) hx hb dX11_bar_33 (by decide) (fun _ => ?_) (fun h9 => absurd (by decide) h9)
      refine lv_bipush (v := (-3)) hx hb dX11_bar_62 (by decide) ?_
      exact kr_z hx hb hr rfl hlocks hP hD hS [] [] (by decide) rfl (Or.inr ⟨(Or.inr ⟨c3, rfl⟩), rfl, rfl⟩) (by decide) (by decide) dX11_bar_64
