set_option maxHeartbeats 4000000 in
set_option maxRecDepth 100000 in
theorem c135_X11_back (l : Launch) (D : va_G) (ty : Nat → ClassId) (sz : Nat) (h0 : Nat) (h1 : Nat) (h2 : Nat) (h3 : Nat) (h4 : Nat) (p0 : Int32) (v0 : Value) (v1 : Value) (v2 : Value) (v3 : Value) (v4 : Value) (v5 : Value) (v6 : Value) (v7 : Value) (v8 : Value) (v9 : Value) (v10 : Value) (v11 : Value) (v12 : Value) (v13 : Value) (v14 : Value) (v15 : Value) (v16 : Value) (v17 : Value) (v18 : Value) (v19 : Value) : cQ l yX11_back cX11_back 2 (some .int) 0 0 [.ref h0, .int p0] D ty [(h0, .inr (11, [v0, v1, v2, v3, .ref h1, v4, v5, v6, v7, v8, v9, v10, v11, v12, v13])), (h1, .inl (ty 5, 3, .inr (.inr (.inr (.inr (va_up (va_up (va_up kn 0 (some h2)) 1 (some h3)) 2 (some h4))))))), (h2, .inr (5, [v14, v15, .int 0])), (h3, .inr (5, [v16, v17, .int 0])), (h4, .inr (5, [v18, v19, .int 0]))] sz (qI (fun (r : Int32) (u : va_W) => ((((p0 < 0)) ∨ ((¬ (p0 < 0)) ∧ (¬ (p0 < 3)))) ∧ (-2) = r ∧ [] = u) ∨ ((((¬ (p0 < 0)) ∧ (p0 < 3) ∧ (p0 = 0)) ∨ ((¬ (p0 < 0)) ∧ (p0 < 3) ∧ (p0 = 1)) ∨ ((¬ (p0 < 0)) ∧ (p0 < 3) ∧ (p0 = 2))) ∧ (-6) = r ∧ [] = u))) 0 0 := by
  refine cQ.of (by decide) (Nat.le_of_ble_eq_true rfl) (fun p e s m below meth c A ls C hsz hP hK hD hA hl => ?_)
  obtain ⟨hx, hb, hml, hown, hB, hr, hlocks, hin⟩ := C
  have hown : s.vm.findClass RX11 = some m.cls := hown
  have hS : va_S A s.heap s.heap [] := va_S.rf
  have hl : lv_has ls 2 [(0, .ref h0), (1, .int p0)] := hl
  refine lv_iload_n hx hb dX11_back_0 rfl (lv_at hl 1 rfl) ?_
  refine lv_if_lt (tgt := 9) hx hb dX11_back_1 (by decide) (fun c1 => ?_) (fun c1 => ?_)
  · refine lv_bipush (v := (-2)) hx hb dX11_back_9 (by decide) ?_
    exact kr_z hx hb hr rfl hlocks hP hD hS [] [] (by decide) rfl (Or.inl ⟨(Or.inl c1), rfl, rfl⟩) (by decide) (by decide) dX11_back_11
  · refine lv_iload_n hx hb dX11_back_4 rfl (lv_at hl 1 rfl) ?_
    refine lv_iconst (v := 3) hx hb dX11_back_5 (by decide) ?_
    refine lv_icmp_lt (tgt := 12) hx hb dX11_back_6 (by decide) (fun c2 => ?_) (fun c2 => ?_)
    · refine lv_aload_n hx hb dX11_back_12 rfl (lv_at hl 0 rfl) ?_
      refine va_get (D := D) (ci := 11) (v := .ref h1) (C := RX11) (T := TX11) (N := 15) hx hb hB inB_X11 hown hK.1 hP 0 rfl rfl 4 (by decide) (hB _ mw_87) (fun _ h9 => h9) rfl dX11_back_13 ?_
      refine lv_iload_n hx hb dX11_back_16 rfl (lv_at hl 1 rfl) ?_
      rcases ps_4 p0 c1 c2 with rfl | rfl | rfl
      · refine va_aldq hx hb hK.1 hP 1 5 rfl rfl (by unfold vp_in; decide) dX11_back_17 ?_
        refine tp_v (v := .ref h2) rfl ?_
        refine va_get (D := D) (ci := 5) (v := .int 0) (C := RX5) (T := TX5) (N := 3) hx hb hB inB_X5 hown hK.1 hP 2 rfl rfl 2 (by decide) (hB _ mw_435) (fun _ h9 => h9) rfl dX11_back_18 ?_
        refine lv_if_ne (tgt := 27) hx hb dX11_back_21 (by decide) (fun h9 => absurd (by decide) h9) (fun _ => ?_)
        refine lv_bipush (v := (-6)) hx hb dX11_back_24 (by decide) ?_
        exact kr_z hx hb hr rfl hlocks hP hD hS [] [] (by decide) rfl (Or.inr ⟨(Or.inl ⟨c1, c2, rfl⟩), rfl, rfl⟩) (by decide) (by decide) dX11_back_26
      · refine va_aldq hx hb hK.1 hP 1 5 rfl rfl (by unfold vp_in; decide) dX11_back_17 ?_
        refine tp_v (v := .ref h3) rfl ?_
        refine va_get (D := D) (ci := 5) (v := .int 0) (C := RX5) (T := TX5) (N := 3) hx hb hB inB_X5 hown hK.1 hP 3 rfl rfl 2 (by decide) (hB _ mw_435) (fun _ h9 => h9) rfl dX11_back_18 ?_
        refine lv_if_ne (tgt := 27) hx hb dX11_back_21 (by decide) (fun h9 => absurd (by decide) h9) (fun _ => ?_)
        refine lv_bipush (v := (-6)) hx hb dX11_back_24 (by decide) ?_
        exact kr_z hx hb hr rfl hlocks hP hD hS [] [] (by decide) rfl (Or.inr ⟨(Or.inr (Or.inl ⟨c1, c2, rfl⟩)), rfl, rfl⟩) (by decide) (by decide) dX11_back_26
      · refine va_aldq hx hb hK.1 hP 1 5 rfl rfl (by unfold vp_in; decide) dX11_back_17 ?_
        refine tp_v (v := .ref h4) rfl ?_
        refine va_get (D := D) (ci := 5) (v := .int 0) (C := RX5) (T := TX5) (N := 3) hx hb hB inB_X5 hown hK.1 hP 4 rfl rfl 2 (by decide) (hB _ mw_435) (fun _ h9 => h9) rfl dX11_back_18 ?_
        refine lv_if_ne (tgt := 27) hx hb dX11_back_21 (by decide) (fun h9 => absurd (by decide) h9) (fun _ => ?_)
        refine lv_bipush (v := (-6)) hx hb dX11_back_24 (by decide) ?_
        exact kr_z hx hb hr rfl hlocks hP hD hS [] [] (by decide) rfl (Or.inr ⟨(Or.inr (Or.inr ⟨c1, c2, rfl⟩)), rfl, rfl⟩) (by decide) (by decide) dX11_back_26
    · refine lv_bipush (v := (-2)) hx hb dX11_back_9 (by decide) ?_
      exact kr_z hx hb hr rfl hlocks hP hD hS [] [] (by decide) rfl (Or.inl ⟨(Or.inr ⟨c1, c2⟩), rfl, rfl⟩) (by decide) (by decide) dX11_back_11
set_option maxHeartbeats 4000000 in
set_option maxRecDepth 100000 in
theorem c137_X4_makeRow (l : Launch) (D : va_G) (ty : Nat → ClassId) (sz : Nat) (h0 : Nat) (h1 : Nat) (p0 : Int32) (p1 : Int32) (v0 : Value) (v1 : Value) (g0 : Nat → Int64) : cQ l yX4_makeRow cX4_makeRow 3 none 1 24 [.ref h0, .int p0, .int p1] D ty [(h0, .inr (4, [v0, v1, .ref h1])), (h1, .inl (ty 2, 60, .inr (.inl g0)))] sz (qV (fun (u : va_W) => [] = u)) 0 0 := by
  refine cQ.of (by decide) (Nat.le_of_ble_eq_true rfl) (fun p e s m below meth c A ls C hsz hP hK hD hA hl => ?_)
  obtain ⟨hx, hb, hml, hown, hB, hr, hlocks, hin⟩ := C
  have hown : s.vm.findClass RX4 = some m.cls := hown
  have hS : va_S A s.heap s.heap [] := va_S.rf
  have hl : lv_has ls 3 [(0, .ref h0), (1, .int p0), (2, .int p1)] := hl
  refine lv_aload_n hx hb dX4_makeRow_0 rfl (lv_at hl 0 rfl) ?_
  refine lv_iload_n hx hb dX4_makeRow_1 rfl (lv_at hl 1 rfl) ?_
  refine wy_put (D := D) (ci := 4) (v := .int p0) (fty := .int) (C := RX4) (T := TX4) (N := 3) hx hb hB inB_X4 tyX4 tyX4_ok nmX4 hown hK hP hD hS 0 rfl rfl 0 (by decide) mw_144 (fun _ h9 => h9) rfl (by decide +kernel) rfl rfl (Nat.le_of_ble_eq_true rfl) dX4_makeRow_2 (ws' := [(h0, .inr (4, [.int p0, v1, .ref h1])), (h1, .inl (ty 2, 60, .inr (.inl g0)))]) rfl (fun H locs hP hD hS => ?_)
  refine lv_aload_n hx hb dX4_makeRow_5 rfl (lv_at hl 0 rfl) ?_
  refine lv_iload_n hx hb dX4_makeRow_6 rfl (lv_at hl 2 rfl) ?_
  refine wy_put (D := D) (ci := 4) (v := .int p1) (fty := .int) (C := RX4) (T := TX4) (N := 3) hx hb hB inB_X4 tyX4 tyX4_ok nmX4 hown hK hP hD hS 0 rfl rfl 1 (by decide) mw_145 (fun _ h9 => h9) rfl (by decide +kernel) rfl rfl (Nat.le_of_ble_eq_true rfl) dX4_makeRow_7 (ws' := [(h0, .inr (4, [.int p0, .int p1, .ref h1])), (h1, .inl (ty 2, 60, .inr (.inl g0)))]) rfl (fun H locs hP hD hS => ?_)
  refine lv_aload_n hx hb dX4_makeRow_10 rfl (lv_at hl 0 rfl) ?_
  refine va_get (D := D) (ci := 4) (v := .ref h1) (C := RX4) (T := TX4) (N := 3) hx hb hB inB_X4 hown hK.1 hP 0 rfl rfl 2 (by decide) (hB _ mw_147) (fun _ h9 => h9) rfl dX4_makeRow_11 ?_
  refine lv_lconst (v := 0) hx hb dX4_makeRow_14 (by decide) ?_
  refine kc_v (va_runS (As := [.ref h1, .long 0]) (rest := []) ⟨hx, hb, hml, hown, hB⟩ (c_fillJ l D ty H.size h1 60 g0 0 (by decide)) (va_cwS 2 hB (bw_S mw_437 mw_438 mw_161 mw_436) rfl rfl rfl (by decide +kernel) ⟨Nat.le_of_ble_eq_true rfl, Nat.le_of_ble_eq_true rfl⟩) (kp_S hK hP hD [1] (by decide) rfl) rfl rfl hl.1 rfl (lv_room (Nat.le_of_ble_eq_true rfl)) dX4_makeRow_15 ⟨Nat.le_of_ble_eq_true rfl, Nat.le_of_ble_eq_true rfl⟩) hP hD hS hA [1] [0] (wr := [(h0, .inr (4, [.int p0, .int p1, .ref h1]))]) rfl rfl (by decide) (by decide) (fun u H locs w1 hP hD hS => ?_)
  subst w1
  have hP : va_P D vwCl [(h0, .inr (4, [.int p0, .int p1, .ref h1])), (h1, .inl (ty 2, 60, .inr (.inl (kj 0))))] H := hP
  have hD : va_D A [(h0, .inr (4, [.int p0, .int p1, .ref h1])), (h1, .inl (ty 2, 60, .inr (.inl (kj 0))))] := hD
  exact kr_v hx hb hr hlocks hP hD hS [] [] (by decide) rfl rfl (by decide) (by decide) dX4_makeRow_18
set_option maxHeartbeats 4000000 in
set_option maxRecDepth 100000 in
theorem c136_X11_row (l : Launch) (D : va_G) (ty : Nat → ClassId) (sz : Nat) (h0 : Nat) (h1 : Nat) (h2 : Nat) (h3 : Nat) (h4 : Nat) (h5 : Nat) (h6 : Nat) (h7 : Nat) (h8 : Nat) (h9 : Nat) (p0 : Int32) (p1 : Int32) (p2 : Int32) (v0 : Value) (v1 : Value) (v2 : Value) (v3 : Value) (v4 : Value) (v5 : Value) (v6 : Value) (v7 : Value) (v8 : Value) (v9 : Value) (v10 : Value) (v11 : Value) (v12 : Value) (v13 : Value) (v14 : Value) (v15 : Value) (g0 : Nat → Int64) (v16 : Value) (v17 : Value) (g1 : Nat → Int64) (v18 : Value) (v19 : Value) (g2 : Nat → Int64) (v20 : Value) (v21 : Value) (g3 : Nat → Int64) : cQ l yX11_row cX11_row 4 (some .int) 2 46 [.ref h0, .int p0, .int p1, .int p2] D ty [(h0, .inr (11, [v0, v1, v2, v3, v4, .ref h1, v5, v6, v7, v8, v9, v10, v11, v12, v13])), (h1, .inl (ty 4, 4, .inr (.inr (.inr (.inr (va_up (va_up (va_up (va_up kn 0 (some h2)) 1 (some h4)) 2 (some h6)) 3 (some h8))))))), (h2, .inr (4, [v14, v15, .ref h3])), (h3, .inl (ty 2, 60, .inr (.inl g0))), (h4, .inr (4, [v16, v17, .ref h5])), (h5, .inl (ty 2, 60, .inr (.inl g1))), (h6, .inr (4, [v18, v19, .ref h7])), (h7, .inl (ty 2, 60, .inr (.inl g2))), (h8, .inr (4, [v20, v21, .ref h9])), (h9, .inl (ty 2, 60, .inr (.inl g3)))] sz (qI (fun (r : Int32) (u : va_W) => ((((((p0 < 0)) ∨ ((¬ (p0 < 0)) ∧ (4 ≤ p0)))) ∨ (((¬ (p0 < 0)) ∧ (¬ (4 ≤ p0))) ∧ (p1 < 0)) ∨ (((¬ (p0 < 0)) ∧ (¬ (4 ≤ p0))) ∧ (¬ (p1 < 0)) ∧ (4 ≤ p1)) ∨ (((¬ (p0 < 0)) ∧ (¬ (4 ≤ p0))) ∧ (¬ (p1 < 0)) ∧ (¬ (4 ≤ p1)) ∧ (¬ (p2 ≤ 60)))) ∧ (-2) = r ∧ [] = u) ∨ (((((¬ (p0 < 0)) ∧ (¬ (4 ≤ p0))) ∧ (¬ (p1 < 0)) ∧ (¬ (4 ≤ p1)) ∧ (p2 ≤ 60) ∧ (0 ≤ p2) ∧ (p0 = 0)) ∨ (((¬ (p0 < 0)) ∧ (¬ (4 ≤ p0))) ∧ (¬ (p1 < 0)) ∧ (¬ (4 ≤ p1)) ∧ (p2 ≤ 60) ∧ (0 ≤ p2) ∧ (p0 = 1)) ∨ (((¬ (p0 < 0)) ∧ (¬ (4 ≤ p0))) ∧ (¬ (p1 < 0)) ∧ (¬ (4 ≤ p1)) ∧ (p2 ≤ 60) ∧ (0 ≤ p2) ∧ (p0 = 2)) ∨ (((¬ (p0 < 0)) ∧ (¬ (4 ≤ p0))) ∧ (¬ (p1 < 0)) ∧ (¬ (4 ≤ p1)) ∧ (p2 ≤ 60) ∧ (0 ≤ p2) ∧ (p0 = 3))) ∧ 0 = r ∧ [] = u) ∨ ((((¬ (p0 < 0)) ∧ (¬ (4 ≤ p0))) ∧ (¬ (p1 < 0)) ∧ (¬ (4 ≤ p1)) ∧ (p2 ≤ 60) ∧ (¬ (0 ≤ p2))) ∧ (-3) = r ∧ [] = u))) 0 0 := by
  refine cQ.of (by decide) (Nat.le_of_ble_eq_true rfl) (fun p e s m below meth c A ls C hsz hP hK hD hA hl => ?_)
  obtain ⟨hx, hb, hml, hown, hB, hr, hlocks, hin⟩ := C
  have hown : s.vm.findClass RX11 = some m.cls := hown
  have hS : va_S A s.heap s.heap [] := va_S.rf
  have hl : lv_has ls 4 [(0, .ref h0), (1, .int p0), (2, .int p1), (3, .int p2)] := hl
  refine lv_iload_n hx hb dX11_row_0 rfl (lv_at hl 1 rfl) ?_
  refine kc_i (va_runS (As := [.int p0]) (rest := []) ⟨hx, hb, hml, hown, hB⟩ (c41_X11_isSlot l D ty s.heap.size p0) (va_cwS 1 hB (bw_S mw_261 mw_262 mw_216 mw_260) rfl rfl rfl (by decide +kernel) ⟨Nat.le_of_ble_eq_true rfl, Nat.le_of_ble_eq_true rfl⟩) (kp_S hK hP hD [] (by decide) rfl) rfl rfl hl.1 rfl (lv_room (Nat.le_of_ble_eq_true rfl)) dX11_row_1 ⟨Nat.le_of_ble_eq_true rfl, Nat.le_of_ble_eq_true rfl⟩) hP hD hS hA [] [0, 1, 2, 3, 4, 5, 6, 7, 8, 9] (wr := [(h0, .inr (11, [v0, v1, v2, v3, v4, .ref h1, v5, v6, v7, v8, v9, v10, v11, v12, v13])), (h1, .inl (ty 4, 4, .inr (.inr (.inr (.inr (va_up (va_up (va_up (va_up kn 0 (some h2)) 1 (some h4)) 2 (some h6)) 3 (some h8))))))), (h2, .inr (4, [v14, v15, .ref h3])), (h3, .inl (ty 2, 60, .inr (.inl g0))), (h4, .inr (4, [v16, v17, .ref h5])), (h5, .inl (ty 2, 60, .inr (.inl g1))), (h6, .inr (4, [v18, v19, .ref h7])), (h7, .inl (ty 2, 60, .inr (.inl g2))), (h8, .inr (4, [v20, v21, .ref h9])), (h9, .inl (ty 2, 60, .inr (.inl g3)))]) rfl rfl (by decide) (by decide) (fun r u H locs w1 hP hD hS => ?_)
  rcases w1 with ⟨c2, rfl, rfl⟩ | ⟨c3, rfl, rfl⟩
  · have hP : va_P D vwCl [(h0, .inr (11, [v0, v1, v2, v3, v4, .ref h1, v5, v6, v7, v8, v9, v10, v11, v12, v13])), (h1, .inl (ty 4, 4, .inr (.inr (.inr (.inr (va_up (va_up (va_up (va_up kn 0 (some h2)) 1 (some h4)) 2 (some h6)) 3 (some h8))))))), (h2, .inr (4, [v14, v15, .ref h3])), (h3, .inl (ty 2, 60, .inr (.inl g0))), (h4, .inr (4, [v16, v17, .ref h5])), (h5, .inl (ty 2, 60, .inr (.inl g1))), (h6, .inr (4, [v18, v19, .ref h7])), (h7, .inl (ty 2, 60, .inr (.inl g2))), (h8, .inr (4, [v20, v21, .ref h9])), (h9, .inl (ty 2, 60, .inr (.inl g3)))] H := hP
    have hD : va_D A [(h0, .inr (11, [v0, v1, v2, v3, v4, .ref h1, v5, v6, v7, v8, v9, v10, v11, v12, v13])), (h1, .inl (ty 4, 4, .inr (.inr (.inr (.inr (va_up (va_up (va_up (va_up kn 0 (some h2)) 1 (some h4)) 2 (some h6)) 3 (some h8))))))), (h2, .inr (4, [v14, v15, .ref h3])), (h3, .inl (ty 2, 60, .inr (.inl g0))), (h4, .inr (4, [v16, v17, .ref h5])), (h5, .inl (ty 2, 60, .inr (.inl g1))), (h6, .inr (4, [v18, v19, .ref h7])), (h7, .inl (ty 2, 60, .inr (.inl g2))), (h8, .inr (4, [v20, v21, .ref h9])), (h9, .inl (ty 2, 60, .inr (.inl g3)))] := hD
    refine lv_if_eq (tgt := 22) hx hb dX11_row_4 (by decide) (fun _ => ?_) (fun h9 => absurd (by decide) h9)
    refine lv_bipush (v := (-2)) hx hb dX11_row_22 (by decide) ?_
    exact kr_z hx hb hr rfl hlocks hP hD hS [] [] (by decide) rfl (Or.inl ⟨(Or.inl c2), rfl, rfl⟩) (by decide) (by decide) dX11_row_24
  · have hP : va_P D vwCl [(h0, .inr (11, [v0, v1, v2, v3, v4, .ref h1, v5, v6, v7, v8, v9, v10, v11, v12, v13])), (h1, .inl (ty 4, 4, .inr (.inr (.inr (.inr (va_up (va_up (va_up (va_up kn 0 (some h2)) 1 (some h4)) 2 (some h6)) 3 (some h8))))))), (h2, .inr (4, [v14, v15, .ref h3])), (h3, .inl (ty 2, 60, .inr (.inl g0))), (h4, .inr (4, [v16, v17, .ref h5])), (h5, .inl (ty 2, 60, .inr (.inl g1))), (h6, .inr (4, [v18, v19, .ref h7])), (h7, .inl (ty 2, 60, .inr (.inl g2))), (h8, .inr (4, [v20, v21, .ref h9])), (h9, .inl (ty 2, 60, .inr (.inl g3)))] H := hP
    have hD : va_D A [(h0, .inr (11, [v0, v1, v2, v3, v4, .ref h1, v5, v6, v7, v8, v9, v10, v11, v12, v13])), (h1, .inl (ty 4, 4, .inr (.inr (.inr (.inr (va_up (va_up (va_up (va_up kn 0 (some h2)) 1 (some h4)) 2 (some h6)) 3 (some h8))))))), (h2, .inr (4, [v14, v15, .ref h3])), (h3, .inl (ty 2, 60, .inr (.inl g0))), (h4, .inr (4, [v16, v17, .ref h5])), (h5, .inl (ty 2, 60, .inr (.inl g1))), (h6, .inr (4, [v18, v19, .ref h7])), (h7, .inl (ty 2, 60, .inr (.inl g2))), (h8, .inr (4, [v20, v21, .ref h9])), (h9, .inl (ty 2, 60, .inr (.inl g3)))] := hD
    refine lv_if_eq (tgt := 22) hx hb dX11_row_4 (by decide) (fun h9 => absurd h9 (by decide)) (fun _ => ?_)
    refine lv_iload_n hx hb dX11_row_7 rfl (lv_at hl 2 rfl) ?_
    refine lv_if_lt (tgt := 22) hx hb dX11_row_8 (by decide) (fun c4 => ?_) (fun c4 => ?_)
    · refine lv_bipush (v := (-2)) hx hb dX11_row_22 (by decide) ?_
      exact kr_z hx hb hr rfl hlocks hP hD hS [] [] (by decide) rfl (Or.inl ⟨(Or.inr (Or.inl ⟨c3, c4⟩)), rfl, rfl⟩) (by decide) (by decide) dX11_row_24
    · refine lv_iload_n hx hb dX11_row_11 rfl (lv_at hl 2 rfl) ?_
      refine lv_iconst (v := 4) hx hb dX11_row_12 (by decide) ?_
      refine lv_icmp_ge (tgt := 22) hx hb dX11_row_13 (by decide) (fun c5 => ?_) (fun c5 => ?_)
      · refine lv_bipush (v := (-2)) hx hb dX11_row_22 (by decide) ?_
        exact kr_z hx hb hr rfl hlocks hP hD hS [] [] (by decide) rfl (Or.inl ⟨(Or.inr (Or.inr (Or.inl ⟨c3, c4, c5⟩))), rfl, rfl⟩) (by decide) (by decide) dX11_row_24
      · refine lv_iload_n hx hb dX11_row_16 rfl (lv_at hl 3 rfl) ?_
        refine lv_bipush (v := 60) hx hb dX11_row_17 (by decide) ?_
        refine lv_icmp_le (tgt := 25) hx hb dX11_row_19 (by decide) (fun c6 => ?_) (fun c6 => ?_)
        · refine lv_iload_n hx hb dX11_row_25 rfl (lv_at hl 3 rfl) ?_
          refine lv_if_ge (tgt := 32) hx hb dX11_row_26 (by decide) (fun c7 => ?_) (fun c7 => ?_)
          · refine lv_aload_n hx hb dX11_row_32 rfl (lv_at hl 0 rfl) ?_
            refine va_get (D := D) (ci := 11) (v := .ref h1) (C := RX11) (T := TX11) (N := 15) hx hb hB inB_X11 hown hK.1 hP 0 rfl rfl 5 (by decide) (hB _ mw_89) (fun _ h9 => h9) rfl dX11_row_33 ?_
            refine lv_iload_n hx hb dX11_row_36 rfl (lv_at hl 1 rfl) ?_
            rcases ps_1 p0 c3 with rfl | rfl | rfl | rfl
            · refine va_aldq hx hb hK.1 hP 1 4 rfl rfl (by unfold vp_in; decide) dX11_row_37 ?_
              refine tp_v (v := .ref h2) rfl ?_
              refine lv_iload_n hx hb dX11_row_38 rfl (lv_at hl 2 rfl) ?_
              refine lv_iload_n hx hb dX11_row_39 rfl (lv_at hl 3 rfl) ?_
              refine kc_v (va_runV (As := [.int p1, .int p2]) (rest := []) ⟨hx, hb, hml, hown, hB⟩ (c137_X4_makeRow l D ty H.size h2 h3 p1 p2 v14 v15 g0) (cwV 2 hB (bw_V mw_440 mw_441 mw_442 mw_142 mw_439) rfl rfl rfl (by decide +kernel) ⟨Nat.le_of_ble_eq_true rfl, Nat.le_of_ble_eq_true rfl⟩) (kp_V hK hP hD [2, 3] (by decide) rfl 2 rfl rfl rfl) rfl rfl hl.1 rfl (lv_room (Nat.le_of_ble_eq_true rfl)) dX11_row_40 ⟨Nat.le_of_ble_eq_true rfl, Nat.le_of_ble_eq_true rfl⟩) hP hD hS hA [2, 3] [0, 1, 4, 5, 6, 7, 8, 9] (wr := [(h0, .inr (11, [v0, v1, v2, v3, v4, .ref h1, v5, v6, v7, v8, v9, v10, v11, v12, v13])), (h1, .inl (ty 4, 4, .inr (.inr (.inr (.inr (va_up (va_up (va_up (va_up kn 0 (some h2)) 1 (some h4)) 2 (some h6)) 3 (some h8))))))), (h4, .inr (4, [v16, v17, .ref h5])), (h5, .inl (ty 2, 60, .inr (.inl g1))), (h6, .inr (4, [v18, v19, .ref h7])), (h7, .inl (ty 2, 60, .inr (.inl g2))), (h8, .inr (4, [v20, v21, .ref h9])), (h9, .inl (ty 2, 60, .inr (.inl g3)))]) rfl rfl (by decide) (by decide) (fun u H locs w8 hP hD hS => ?_)
              subst w8
              have hP : va_P D vwCl [(h0, .inr (11, [v0, v1, v2, v3, v4, .ref h1, v5, v6, v7, v8, v9, v10, v11, v12, v13])), (h1, .inl (ty 4, 4, .inr (.inr (.inr (.inr (va_up (va_up (va_up (va_up kn 0 (some h2)) 1 (some h4)) 2 (some h6)) 3 (some h8))))))), (h4, .inr (4, [v16, v17, .ref h5])), (h5, .inl (ty 2, 60, .inr (.inl g1))), (h6, .inr (4, [v18, v19, .ref h7])), (h7, .inl (ty 2, 60, .inr (.inl g2))), (h8, .inr (4, [v20, v21, .ref h9])), (h9, .inl (ty 2, 60, .inr (.inl g3)))] H := hP
              have hD : va_D A [(h0, .inr (11, [v0, v1, v2, v3, v4, .ref h1, v5, v6, v7, v8, v9, v10, v11, v12, v13])), (h1, .inl (ty 4, 4, .inr (.inr (.inr (.inr (va_up (va_up (va_up (va_up kn 0 (some h2)) 1 (some h4)) 2 (some h6)) 3 (some h8))))))), (h4, .inr (4, [v16, v17, .ref h5])), (h5, .inl (ty 2, 60, .inr (.inl g1))), (h6, .inr (4, [v18, v19, .ref h7])), (h7, .inl (ty 2, 60, .inr (.inl g2))), (h8, .inr (4, [v20, v21, .ref h9])), (h9, .inl (ty 2, 60, .inr (.inl g3)))] := hD
              refine lv_iconst (v := 0) hx hb dX11_row_43 (by decide) ?_
              exact kr_z hx hb hr rfl hlocks hP hD hS [] [] (by decide) rfl (Or.inr (Or.inl ⟨(Or.inl ⟨c3, c4, c5, c6, c7, rfl⟩), rfl, rfl⟩)) (by decide) (by decide) dX11_row_44
            · refine va_aldq hx hb hK.1 hP 1 4 rfl rfl (by unfold vp_in; decide) dX11_row_37 ?_
              refine tp_v (v := .ref h4) rfl ?_
              refine lv_iload_n hx hb dX11_row_38 rfl (lv_at hl 2 rfl) ?_
              refine lv_iload_n hx hb dX11_row_39 rfl (lv_at hl 3 rfl) ?_
              refine kc_v (va_runV (As := [.int p1, .int p2]) (rest := []) ⟨hx, hb, hml, hown, hB⟩ (c137_X4_makeRow l D ty H.size h4 h5 p1 p2 v16 v17 g1) (cwV 2 hB (bw_V mw_440 mw_441 mw_442 mw_142 mw_439) rfl rfl rfl (by decide +kernel) ⟨Nat.le_of_ble_eq_true rfl, Nat.le_of_ble_eq_true rfl⟩) (kp_V hK hP hD [4, 5] (by decide) rfl 4 rfl rfl rfl) rfl rfl hl.1 rfl (lv_room (Nat.le_of_ble_eq_true rfl)) dX11_row_40 ⟨Nat.le_of_ble_eq_true rfl, Nat.le_of_ble_eq_true rfl⟩) hP hD hS hA [4, 5] [0, 1, 2, 3, 6, 7, 8, 9] (wr := [(h0, .inr (11, [v0, v1, v2, v3, v4, .ref h1, v5, v6, v7, v8, v9, v10, v11, v12, v13])), (h1, .inl (ty 4, 4, .inr (.inr (.inr (.inr (va_up (va_up (va_up (va_up kn 0 (some h2)) 1 (some h4)) 2 (some h6)) 3 (some h8))))))), (h2, .inr (4, [v14, v15, .ref h3])), (h3, .inl (ty 2, 60, .inr (.inl g0))), (h6, .inr (4, [v18, v19, .ref h7])), (h7, .inl (ty 2, 60, .inr (.inl g2))), (h8, .inr (4, [v20, v21, .ref h9])), (h9, .inl (ty 2, 60, .inr (.inl g3)))]) rfl rfl (by decide) (by decide) (fun u H locs w9 hP hD hS => ?_)
              subst w9
              have hP : va_P D vwCl [(h0, .inr (11, [v0, v1, v2, v3, v4, .ref h1, v5, v6, v7, v8, v9, v10, v11, v12, v13])), (h1, .inl (ty 4, 4, .inr (.inr (.inr (.inr (va_up (va_up (va_up (va_up kn 0 (some h2)) 1 (some h4)) 2 (some h6)) 3 (some h8))))))), (h2, .inr (4, [v14, v15, .ref h3])), (h3, .inl (ty 2, 60, .inr (.inl g0))), (h6, .inr (4, [v18, v19, .ref h7])), (h7, .inl (ty 2, 60, .inr (.inl g2))), (h8, .inr (4, [v20, v21, .ref h9])), (h9, .inl (ty 2, 60, .inr (.inl g3)))] H := hP
              have hD : va_D A [(h0, .inr (11, [v0, v1, v2, v3, v4, .ref h1, v5, v6, v7, v8, v9, v10, v11, v12, v13])), (h1, .inl (ty 4, 4, .inr (.inr (.inr (.inr (va_up (va_up (va_up (va_up kn 0 (some h2)) 1 (some h4)) 2 (some h6)) 3 (some h8))))))), (h2, .inr (4, [v14, v15, .ref h3])), (h3, .inl (ty 2, 60, .inr (.inl g0))), (h6, .inr (4, [v18, v19, .ref h7])), (h7, .inl (ty 2, 60, .inr (.inl g2))), (h8, .inr (4, [v20, v21, .ref h9])), (h9, .inl (ty 2, 60, .inr (.inl g3)))] := hD
              refine lv_iconst (v := 0) hx hb dX11_row_43 (by decide) ?_
              exact kr_z hx hb hr rfl hlocks hP hD hS [] [] (by decide) rfl (Or.inr (Or.inl ⟨(Or.inr (Or.inl ⟨c3, c4, c5, c6, c7, rfl⟩)), rfl, rfl⟩)) (by decide) (by decide) dX11_row_44
            · refine va_aldq hx hb hK.1 hP 1 4 rfl rfl (by unfold vp_in; decide) dX11_row_37 ?_
              refine tp_v (v := .ref h6) rfl ?_
              refine lv_iload_n hx hb dX11_row_38 rfl (lv_at hl 2 rfl) ?_
              refine lv_iload_n hx hb dX11_row_39 rfl (lv_at hl 3 rfl) ?_
              refine kc_v (va_runV (As := [.int p1, .int p2]) (rest := []) ⟨hx, hb, hml, hown, hB⟩ (c137_X4_makeRow l D ty H.size h6 h7 p1 p2 v18 v19 g2) (cwV 2 hB (bw_V mw_440 mw_441 mw_442 mw_142 mw_439) rfl rfl rfl (by decide +kernel) ⟨Nat.le_of_ble_eq_true rfl, Nat.le_of_ble_eq_true rfl⟩) (kp_V hK hP hD [6, 7] (by decide) rfl 6 rfl rfl rfl) rfl rfl hl.1 rfl (lv_room (Nat.le_of_ble_eq_true rfl)) dX11_row_40 ⟨Nat.le_of_ble_eq_true rfl, Nat.le_of_ble_eq_true rfl⟩) hP hD hS hA [6, 7] [0, 1, 2, 3, 4, 5, 8, 9] (wr := [(h0, .inr (11, [v0, v1, v2, v3, v4, .ref h1, v5, v6, v7, v8, v9, v10, v11, v12, v13])), (h1, .inl (ty 4, 4, .inr (.inr (.inr (.inr (va_up (va_up (va_up (va_up kn 0 (some h2)) 1 (some h4)) 2 (some h6)) 3 (some h8))))))), (h2, .inr (4, [v14, v15, .ref h3])), (h3, .inl (ty 2, 60, .inr (.inl g0))), (h4, .inr (4, [v16, v17, .ref h5])), (h5, .inl (ty 2, 60, .inr (.inl g1))), (h8, .inr (4, [v20, v21, .ref h9])), (h9, .inl (ty 2, 60, .inr (.inl g3)))]) rfl rfl (by decide) (by decide) (fun u H locs w10 hP hD hS => ?_)
              subst w10
              have hP : va_P D vwCl [(h0, .inr (11, [v0, v1, v2, v3, v4, .ref h1, v5, v6, v7, v8, v9, v10, v11, v12, v13])), (h1, .inl (ty 4, 4, .inr (.inr (.inr (.inr (va_up (va_up (va_up (va_up kn 0 (some h2)) 1 (some h4)) 2 (some h6)) 3 (some h8))))))), (h2, .inr (4, [v14, v15, .ref h3])), (h3, .inl (ty 2, 60, .inr (.inl g0))), (h4, .inr (4, [v16, v17, .ref h5])), (h5, .inl (ty 2, 60, .inr (.inl g1))), (h8, .inr (4, [v20, v21, .ref h9])), (h9, .inl (ty 2, 60, .inr (.inl g3)))] H := hP
              have hD : va_D A [(h0, .inr (11, [v0, v1, v2, v3, v4, .ref h1, v5, v6, v7, v8, v9, v10, v11, v12, v13])), (h1, .inl (ty 4, 4, .inr (.inr (.inr (.inr (va_up (va_up (va_up (va_up kn 0 (some h2)) 1 (some h4)) 2 (some h6)) 3 (some h8))))))), (h2, .inr (4, [v14, v15, .ref h3])), (h3, .inl (ty 2, 60, .inr (.inl g0))), (h4, .inr (4, [v16, v17, .ref h5])), (h5, .inl (ty 2, 60, .inr (.inl g1))), (h8, .inr (4, [v20, v21, .ref h9])), (h9, .inl (ty 2, 60, .inr (.inl g3)))] := hD
              refine lv_iconst (v := 0) hx hb dX11_row_43 (by decide) ?_
              exact kr_z hx hb hr rfl hlocks hP hD hS [] [] (by decide) rfl (Or.inr (Or.inl ⟨(Or.inr (Or.inr (Or.inl ⟨c3, c4, c5, c6, c7, rfl⟩))), rfl, rfl⟩)) (by decide) (by decide) dX11_row_44
            · refine va_aldq hx hb hK.1 hP 1 4 rfl rfl (by unfold vp_in; decide) dX11_row_37 ?_
              refine tp_v (v := .ref h8) rfl ?_
              refine lv_iload_n hx hb dX11_row_38 rfl (lv_at hl 2 rfl) ?_
              refine lv_iload_n hx hb dX11_row_39 rfl (lv_at hl 3 rfl) ?_
              refine kc_v (va_runV (As := [.int p1, .int p2]) (rest := []) ⟨hx, hb, hml, hown, hB⟩ (c137_X4_makeRow l D ty H.size h8 h9 p1 p2 v20 v21 g3) (cwV 2 hB (bw_V mw_440 mw_441 mw_442 mw_142 mw_439) rfl rfl rfl (by decide +kernel) ⟨Nat.le_of_ble_eq_true rfl, Nat.le_of_ble_eq_true rfl⟩) (kp_V hK hP hD [8, 9] (by decide) rfl 8 rfl rfl rfl) rfl rfl hl.1 rfl (lv_room (Nat.le_of_ble_eq_true rfl)) dX11_row_40 ⟨Nat.le_of_ble_eq_true rfl, Nat.le_of_ble_eq_true rfl⟩) hP hD hS hA [8, 9] [0, 1, 2, 3, 4, 5, 6, 7] (wr := [(h0, .inr (11, [v0, v1, v2, v3, v4, .ref h1, v5, v6, v7, v8, v9, v10, v11, v12, v13])), (h1, .inl (ty 4, 4, .inr (.inr (.inr (.inr (va_up (va_up (va_up (va_up kn 0 (some h2)) 1 (some h4)) 2 (some h6)) 3 (some h8))))))), (h2, .inr (4, [v14, v15, .ref h3])), (h3, .inl (ty 2, 60, .inr (.inl g0))), (h4, .inr (4, [v16, v17, .ref h5])), (h5, .inl (ty 2, 60, .inr (.inl g1))), (h6, .inr (4, [v18, v19, .ref h7])), (h7, .inl (ty 2, 60, .inr (.inl g2)))]) rfl rfl (by decide) (by decide) (fun u H locs w11 hP hD hS => ?_)
              subst w11
              have hP : va_P D vwCl [(h0, .inr (11, [v0, v1, v2, v3, v4, .ref h1, v5, v6, v7, v8, v9, v10, v11, v12, v13])), (h1, .inl (ty 4, 4, .inr (.inr (.inr (.inr (va_up (va_up (va_up (va_up kn 0 (some h2)) 1 (some h4)) 2 (some h6)) 3 (some h8))))))), (h2, .inr (4, [v14, v15, .ref h3])), (h3, .inl (ty 2, 60, .inr (.inl g0))), (h4, .inr (4, [v16, v17, .ref h5])), (h5, .inl (ty 2, 60, .inr (.inl g1))), (h6, .inr (4, [v18, v19, .ref h7])), (h7, .inl (ty 2, 60, .inr (.inl g2)))] H := hP
              have hD : va_D A [(h0, .inr (11, [v0, v1, v2, v3, v4, .ref h1, v5, v6, v7, v8, v9, v10, v11, v12, v13])), (h1, .inl (ty 4, 4, .inr (.inr (.inr (.inr (va_up (va_up (va_up (va_up kn 0 (some h2)) 1 (some h4)) 2 (some h6)) 3 (some h8))))))), (h2, .inr (4, [v14, v15, .ref h3])), (h3, .inl (ty 2, 60, .inr (.inl g0))), (h4, .inr (4, [v16, v17, .ref h5])), (h5, .inl (ty 2, 60, .inr (.inl g1))), (h6, .inr (4, [v18, v19, .ref h7])), (h7, .inl (ty 2, 60, .inr (.inl g2)))] := hD
              refine lv_iconst (v := 0) hx hb dX11_row_43 (by decide) ?_
              exact kr_z hx hb hr rfl hlocks hP hD hS [] [] (by decide) rfl (Or.inr (Or.inl ⟨(Or.inr (Or.inr (Or.inr ⟨c3, c4, c5, c6, c7, rfl⟩))), rfl, rfl⟩)) (by decide) (by decide) dX11_row_44
          · refine lv_bipush (v := (-3)) hx hb dX11_row_29 (by decide) ?_
            exact kr_z hx hb hr rfl hlocks hP hD hS [] [] (by decide) rfl (Or.inr (Or.inr ⟨⟨c3, c4, c5, c6, c7⟩, rfl, rfl⟩)) (by decide) (by decide) dX11_row_31
        · refine lv_bipush (v := (-2)) hx hb dX11_row_22 (by decide) ?_
          exact kr_z hx hb hr rfl hlocks hP hD hS [] [] (by decide) rfl (Or.inl ⟨(Or.inr (Or.inr (Or.inr ⟨c3, c4, c5, c6⟩))), rfl, rfl⟩) (by decide) (by decide) dX11_row_24
set_option maxHeartbeats 4000000 in
set_option maxRecDepth 100000 in
theorem c138_X11_write (l : Launch) (D : va_G) (ty : Nat → ClassId) (sz : Nat) (h0 : Nat) (h1 : Nat) (h2 : Nat) (h3 : Nat) (h4 : Nat) (h5 : Nat) (p0 : Int32) (p1 : Int32) (k0 : Int64) (v0 : Value) (v1 : Value) (v2 : Value) (v3 : Value) (v4 : Value) (v5 : Value) (v6 : Value) (v7 : Value) (v8 : Value) (v9 : Value) (v10 : Value) (v11 : Value) (v12 : Value) (v13 : Value) (v14 : Value) (v15 : Value) (v16 : Value) (v17 : Value) (v18 : Value) (v19 : Value) (v20 : Value) (v21 : Value) : cQ l yX11_write cX11_write 6 (some .int) 1 20 [.ref h0, .int p0, .int p1, .long k0] D ty [(h0, .inr (11, [v0, v1, v2, v3, v4, .ref h1, v5, v6, v7, v8, v9, v10, v11, v12, v13])), (h1, .inl (ty 4, 4, .inr (.inr (.inr (.inr (va_up (va_up (va_up (va_up kn 0 (some h2)) 1 (some h3)) 2 (some h4)) 3 (some h5))))))), (h2, .inr (4, [.int (-1), v14, v15])), (h3, .inr (4, [.int (-1), v16, v17])), (h4, .inr (4, [.int (-1), v18, v19])), (h5, .inr (4, [.int (-1), v20, v21]))] sz (qI (fun (r : Int32) (u : va_W) => (((((p0 < 0)) ∨ ((¬ (p0 < 0)) ∧ (4 ≤ p0)))) ∧ (-2) = r ∧ [] = u) ∨ (((((¬ (p0 < 0)) ∧ (¬ (4 ≤ p0))) ∧ (p0 = 0)) ∨ (((¬ (p0 < 0)) ∧ (¬ (4 ≤ p0))) ∧ (p0 = 1)) ∨ (((¬ (p0 < 0)) ∧ (¬ (4 ≤ p0))) ∧ (p0 = 2)) ∨ (((¬ (p0 < 0)) ∧ (¬ (4 ≤ p0))) ∧ (p0 = 3))) ∧ (-6) = r ∧ [] = u))) 0 0 := by
  refine cQ.of (by decide) (Nat.le_of_ble_eq_true rfl) (fun p e s m below meth c A ls C hsz hP hK hD hA hl => ?_)
  obtain ⟨hx, hb, hml, hown, hB, hr, hlocks, hin⟩ := C
  have hown : s.vm.findClass RX11 = some m.cls := hown
  have hS : va_S A s.heap s.heap [] := va_S.rf
  have hl : lv_has ls 6 [(0, .ref h0), (1, .int p0), (2, .int p1), (3, .long k0)] := hl
  refine lv_iload_n hx hb dX11_write_0 rfl (lv_at hl 1 rfl) ?_
  refine kc_i (va_runS (As := [.int p0]) (rest := []) ⟨hx, hb, hml, hown, hB⟩ (c41_X11_isSlot l D ty s.heap.size p0) (va_cwS 1 hB (bw_S mw_261 mw_262 mw_216 mw_260) rfl rfl rfl (by decide +kernel) ⟨Nat.le_of_ble_eq_true rfl, Nat.le_of_ble_eq_true rfl⟩) (kp_S hK hP hD [] (by decide) rfl) rfl rfl hl.1 rfl (lv_room (Nat.le_of_ble_eq_true rfl)) dX11_write_1 ⟨Nat.le_of_ble_eq_true rfl, Nat.le_of_ble_eq_true rfl⟩) hP hD hS hA [] [0, 1, 2, 3, 4, 5] (wr := [(h0, .inr (11, [v0, v1, v2, v3, v4, .ref h1, v5, v6, v7, v8, v9, v10, v11, v12, v13])), (h1, .inl (ty 4, 4, .inr (.inr (.inr (.inr (va_up (va_up (va_up (va_up kn 0 (some h2)) 1 (some h3)) 2 (some h4)) 3 (some h5))))))), (h2, .inr (4, [.int (-1), v14, v15])), (h3, .inr (4, [.int (-1), v16, v17])), (h4, .inr (4, [.int (-1), v18, v19])), (h5, .inr (4, [.int (-1), v20, v21]))]) rfl rfl (by decide) (by decide) (fun r u H locs w1 hP hD hS => ?_)
  rcases w1 with ⟨c2, rfl, rfl⟩ | ⟨c3, rfl, rfl⟩
  · have hP : va_P D vwCl [(h0, .inr (11, [v0, v1, v2, v3, v4, .ref h1, v5, v6, v7, v8, v9, v10, v11, v12, v13])), (h1, .inl (ty 4, 4, .inr (.inr (.inr (.inr (va_up (va_up (va_up (va_up kn 0 (some h2)) 1 (some h3)) 2 (some h4)) 3 (some h5))))))), (h2, .inr (4, [.int (-1), v14, v15])), (h3, .inr (4, [.int (-1), v16, v17])), (h4, .inr (4, [.int (-1), v18, v19])), (h5, .inr (4, [.int (-1), v20, v21]))] H := hP
    have hD : va_D A [(h0, .inr (11, [v0, v1, v2, v3, v4, .ref h1, v5, v6, v7, v8, v9, v10, v11, v12, v13])), (h1, .inl (ty 4, 4, .inr (.inr (.inr (.inr (va_up (va_up (va_up (va_up kn 0 (some h2)) 1 (some h3)) 2 (some h4)) 3 (some h5))))))), (h2, .inr (4, [.int (-1), v14, v15])), (h3, .inr (4, [.int (-1), v16, v17])), (h4, .inr (4, [.int (-1), v18, v19])), (h5, .inr (4, [.int (-1), v20, v21]))] := hD
    refine lv_if_ne (tgt := 10) hx hb dX11_write_4 (by decide) (fun h9 => absurd (by decide) h9) (fun _ => ?_)
    refine lv_bipush (v := (-2)) hx hb dX11_write_7 (by decide) ?_
    exact kr_z hx hb hr rfl hlocks hP hD hS [] [] (by decide) rfl (Or.inl ⟨c2, rfl, rfl⟩) (by decide) (by decide) dX11_write_9
  · have hP : va_P D vwCl [(h0, .inr (11, [v0, v1, v2, v3, v4, .ref h1, v5, v6, v7, v8, v9, v10, v11, v12, v13])), (h1, .inl (ty 4, 4, .inr (.inr (.inr (.inr (va_up (va_up (va_up (va_up kn 0 (some h2)) 1 (some h3)) 2 (some h4)) 3 (some h5))))))), (h2, .inr (4, [.int (-1), v14, v15])), (h3, .inr (4, [.int (-1), v16, v17])), (h4, .inr (4, [.int (-1), v18, v19])), (h5, .inr (4, [.int (-1), v20, v21]))] H := hP
    have hD : va_D A [(h0, .inr (11, [v0, v1, v2, v3, v4, .ref h1, v5, v6, v7, v8, v9, v10, v11, v12, v13])), (h1, .inl (ty 4, 4, .inr (.inr (.inr (.inr (va_up (va_up (va_up (va_up kn 0 (some h2)) 1 (some h3)) 2 (some h4)) 3 (some h5))))))), (h2, .inr (4, [.int (-1), v14, v15])), (h3, .inr (4, [.int (-1), v16, v17])), (h4, .inr (4, [.int (-1), v18, v19])), (h5, .inr (4, [.int (-1), v20, v21]))] := hD
    refine lv_if_ne (tgt := 10) hx hb dX11_write_4 (by decide) (fun _ => ?_) (fun h9 => absurd h9 (by decide))
    refine lv_aload_n hx hb dX11_write_10 rfl (lv_at hl 0 rfl) ?_
    refine va_get (D := D) (ci := 11) (v := .ref h1) (C := RX11) (T := TX11) (N := 15) hx hb hB inB_X11 hown hK.1 hP 0 rfl rfl 5 (by decide) (hB _ mw_89) (fun _ h9 => h9) rfl dX11_write_11 ?_
    refine lv_iload_n hx hb dX11_write_14 rfl (lv_at hl 1 rfl) ?_
    rcases ps_1 p0 c3 with rfl | rfl | rfl | rfl
    · refine va_aldq hx hb hK.1 hP 1 4 rfl rfl (by unfold vp_in; decide) dX11_write_15 ?_
      refine tp_v (v := .ref h2) rfl ?_
      refine lv_astore (lv' := [(5, .ref h2), (0, .ref h0), (1, .int 0), (2, .int p1), (3, .long k0)]) hx hb dX11_write_16 hl (by decide) rfl (fun ls hl => ?_)
      refine lv_aload hx hb dX11_write_18 (lv_at hl 0 rfl) ?_
      refine kc_i (va_runV (As := []) (rest := []) ⟨hx, hb, hml, hown, hB⟩ (c42_X4_isThere l D ty H.size h2 v14 v15) (cwV 0 hB (bw_V mw_264 mw_265 mw_266 mw_142 mw_263) rfl rfl rfl (by decide +kernel) ⟨Nat.le_of_ble_eq_true rfl, Nat.le_of_ble_eq_true rfl⟩) (kp_V hK hP hD [2] (by decide) rfl 2 rfl rfl rfl) rfl rfl hl.1 rfl (lv_room (Nat.le_of_ble_eq_true rfl)) dX11_write_20 ⟨Nat.le_of_ble_eq_true rfl, Nat.le_of_ble_eq_true rfl⟩) hP hD hS hA [2] [0, 1, 3, 4, 5] (wr := [(h0, .inr (11, [v0, v1, v2, v3, v4, .ref h1, v5, v6, v7, v8, v9, v10, v11, v12, v13])), (h1, .inl (ty 4, 4, .inr (.inr (.inr (.inr (va_up (va_up (va_up (va_up kn 0 (some h2)) 1 (some h3)) 2 (some h4)) 3 (some h5))))))), (h3, .inr (4, [.int (-1), v16, v17])), (h4, .inr (4, [.int (-1), v18, v19])), (h5, .inr (4, [.int (-1), v20, v21]))]) rfl rfl (by decide) (by decide) (fun r u H locs w4 hP hD hS => ?_)
      obtain ⟨rfl, rfl⟩ := w4
      have hP : va_P D vwCl [(h0, .inr (11, [v0, v1, v2, v3, v4, .ref h1, v5, v6, v7, v8, v9, v10, v11, v12, v13])), (h1, .inl (ty 4, 4, .inr (.inr (.inr (.inr (va_up (va_up (va_up (va_up kn 0 (some h2)) 1 (some h3)) 2 (some h4)) 3 (some h5))))))), (h3, .inr (4, [.int (-1), v16, v17])), (h4, .inr (4, [.int (-1), v18, v19])), (h5, .inr (4, [.int (-1), v20, v21])), (h2, .inr (4, [.int (-1), v14, v15]))] H := hP
      have hD : va_D A [(h0, .inr (11, [v0, v1, v2, v3, v4, .ref h1, v5, v6, v7, v8, v9, v10, v11, v12, v13])), (h1, .inl (ty 4, 4, .inr (.inr (.inr (.inr (va_up (va_up (va_up (va_up kn 0 (some h2)) 1 (some h3)) 2 (some h4)) 3 (some h5))))))), (h3, .inr (4, [.int (-1), v16, v17])), (h4, .inr (4, [.int (-1), v18, v19])), (h5, .inr (4, [.int (-1), v20, v21])), (h2, .inr (4, [.int (-1), v14, v15]))] := hD
      refine lv_if_ne (tgt := 29) hx hb dX11_write_23 (by decide) (fun h9 => absurd (by decide) h9) (fun _ => ?_)
      refine lv_bipush (v := (-6)) hx hb dX11_write_26 (by decide) ?_
      exact kr_z hx hb hr rfl hlocks hP hD hS [] [] (by decide) rfl (Or.inr ⟨(Or.inl ⟨c3, rfl⟩), rfl, rfl⟩) (by decide) (by decide) dX11_write_28
    · refine va_aldq hx hb hK.1 hP 1 4 rfl rfl (by unfold vp_in; decide) dX11_write_15 ?_
      refine tp_v (v := .ref h3) rfl ?_
      refine lv_astore (lv' := [(5, .ref h3), (0, .ref h0), (1, .int 1), (2, .int p1), (3, .long k0)]) hx hb dX11_write_16 hl (by decide) rfl (fun ls hl => ?_)
      refine lv_aload hx hb dX11_write_18 (lv_at hl 0 rfl) ?_
      refine kc_i (va_runV (As := []) (rest := []) ⟨hx, hb, hml, hown, hB⟩ (c42_X4_isThere l D ty H.size h3 v16 v17) (cwV 0 hB (bw_V mw_264 mw_265 mw_266 mw_142 mw_263) rfl rfl rfl (by decide +kernel) ⟨Nat.le_of_ble_eq_true rfl, Nat.le_of_ble_eq_true rfl⟩) (kp_V hK hP hD [3] (by decide) rfl 3 rfl rfl rfl) rfl rfl hl.1 rfl (lv_room (Nat.le_of_ble_eq_true rfl)) dX11_write_20 ⟨Nat.le_of_ble_eq_true rfl, Nat.le_of_ble_eq_true rfl⟩) hP hD hS hA [3] [0, 1, 2, 4, 5] (wr := [(h0, .inr (11, [v0, v1, v2, v3, v4, .ref h1, v5, v6, v7, v8, v9, v10, v11, v12, v13])), (h1, .inl (ty 4, 4, .inr (.inr (.inr (.inr (va_up (va_up (va_up (va_up kn 0 (some h2)) 1 (some h3)) 2 (some h4)) 3 (some h5))))))), (h2, .inr (4, [.int (-1), v14, v15])), (h4, .inr (4, [.int (-1), v18, v19])), (h5, .inr (4, [.int (-1), v20, v21]))]) rfl rfl (by decide) (by decide) (fun r u H locs w5 hP hD hS => ?_)
      obtain ⟨rfl, rfl⟩ := w5
      have hP : va_P D vwCl [(h0, .inr (11, [v0, v1, v2, v3, v4, .ref h1, v5, v6, v7, v8, v9, v10, v11, v12, v13])), (h1, .inl (ty 4, 4, .inr (.inr (.inr (.inr (va_up (va_up (va_up (va_up kn 0 (some h2)) 1 (some h3)) 2 (some h4)) 3 (some h5))))))), (h2, .inr (4, [.int (-1), v14, v15])), (h4, .inr (4, [.int (-1), v18, v19])), (h5, .inr (4, [.int (-1), v20, v21])), (h3, .inr (4, [.int (-1), v16, v17]))] H := hP
      have hD : va_D A [(h0, .inr (11, [v0, v1, v2, v3, v4, .ref h1, v5, v6, v7, v8, v9, v10, v11, v12, v13])), (h1, .inl (ty 4, 4, .inr (.inr (.inr (.inr (va_up (va_up (va_up (va_up kn 0 (some h2)) 1 (some h3)) 2 (some h4)) 3 (some h5))))))), (h2, .inr (4, [.int (-1), v14, v15])), (h4, .inr (4, [.int (-1), v18, v19])), (h5, .inr (4, [.int (-1), v20, v21])), (h3, .inr (4, [.int (-1), v16, v17]))] := hD
      refine lv_if_ne (tgt := 29) hx hb dX11_write_23 (by decide) (fun h9 => absurd (by decide) h9) (fun _ => ?_)
      refine lv_bipush (v := (-6)) hx hb dX11_write_26 (by decide) ?_
      exact kr_z hx hb hr rfl hlocks hP hD hS [] [] (by decide) rfl (Or.inr ⟨(Or.inr (Or.inl ⟨c3, rfl⟩)), rfl, rfl⟩) (by decide) (by decide) dX11_write_28
    · refine va_aldq hx hb hK.1 hP 1 4 rfl rfl (by unfold vp_in; decide) dX11_write_15 ?_
      refine tp_v (v := .ref h4) rfl ?_
      refine lv_astore (lv' := [(5, .ref h4), (0, .ref h0), (1, .int 2), (2, .int p1), (3, .long k0)]) hx hb dX11_write_16 hl (by decide) rfl (fun ls hl => ?_)
      refine lv_aload hx hb dX11_write_18 (lv_at hl 0 rfl) ?_
      refine kc_i (va_runV (As := []) (rest := []) ⟨hx, hb, hml, hown, hB⟩ (c42_X4_isThere l D ty H.size h4 v18 v19) (cwV 0 hB (bw_V mw_264 mw_265 mw_266 mw_142 mw_263) rfl rfl rfl (by decide +kernel) ⟨Nat.le_of_ble_eq_true rfl, Nat.le_of_ble_eq_true rfl⟩) (kp_V hK hP hD [4] (by decide) rfl 4 rfl rfl rfl) rfl rfl hl.1 rfl (lv_room (Nat.le_of_ble_eq_true rfl)) dX11_write_20 ⟨Nat.le_of_ble_eq_true rfl, Nat.le_of_ble_eq_true rfl⟩) hP hD hS hA [4] [0, 1, 2, 3, 5] (wr := [(h0, .inr (11, [v0, v1, v2, v3, v4, .ref h1, v5, v6, v7, v8, v9, v10, v11, v12, v13])), (h1, .inl (ty 4, 4, .inr (.inr (.inr (.inr (va_up (va_up (va_up (va_up kn 0 (some h2)) 1 (some h3)) 2 (some h4)) 3 (some h5))))))), (h2, .inr (4, [.int (-1), v14, v15])), (h3, .inr (4, [.int (-1), v16, v17])), (h5, .inr (4, [.int (-1), v20, v21]))]) rfl rfl (by decide) (by decide) (fun r u H locs w6 hP hD hS => ?_)
      obtain ⟨rfl, rfl⟩ := w6
      have hP : va_P D vwCl [(h0, .inr (11, [v0, v1, v2, v3, v4, .ref h1, v5, v6, v7, v8, v9, v10, v11, v12, v13])), (h1, .inl (ty 4, 4, .inr (.inr (.inr (.inr (va_up (va_up (va_up (va_up kn 0 (some h2)) 1 (some h3)) 2 (some h4)) 3 (some h5))))))), (h2, .inr (4, [.int (-1), v14, v15])), (h3, .inr (4, [.int (-1), v16, v17])), (h5, .inr (4, [.int (-1), v20, v21])), (h4, .inr (4, [.int (-1), v18, v19]))] H := hP
      have hD : va_D A [(h0, .inr (11, [v0, v1, v2, v3, v4, .ref h1, v5, v6, v7, v8, v9, v10, v11, v12, v13])), (h1, .inl (ty 4, 4, .inr (.inr (.inr (.inr (va_up (va_up (va_up (va_up kn 0 (some h2)) 1 (some h3)) 2 (some h4)) 3 (some h5))))))), (h2, .inr (4, [.int (-1), v14, v15])), (h3, .inr (4, [.int (-1), v16, v17])), (h5, .inr (4, [.int (-1), v20, v21])), (h4, .inr (4, [.int (-1), v18, v19]))] := hD
      refine lv_if_ne (tgt := 29) hx hb dX11_write_23 (by decide) (fun h9 => absurd (by decide) h9) (fun _ => ?_)
      refine lv_bipush (v := (-6)) hx hb dX11_write_26 (by decide) ?_
      exact kr_z hx hb hr rfl hlocks hP hD hS [] [] (by decide) rfl (Or.inr ⟨(Or.inr (Or.inr (Or.inl ⟨c3, rfl⟩))), rfl, rfl⟩) (by decide) (by decide) dX11_write_28
    · refine va_aldq hx hb hK.1 hP 1 4 rfl rfl (by unfold vp_in; decide) dX11_write_15 ?_
      refine tp_v (v := .ref h5) rfl ?_
      refine lv_astore (lv' := [(5, .ref h5), (0, .ref h0), (1, .int 3), (2, .int p1), (3, .long k0)]) hx hb dX11_write_16 hl (by decide) rfl (fun ls hl => ?_)
      refine lv_aload hx hb dX11_write_18 (lv_at hl 0 rfl) ?_
      refine kc_i (va_runV (As := []) (rest := []) ⟨hx, hb, hml, hown, hB⟩ (c42_X4_isThere l D ty H.size h5 v20 v21) (cwV 0 hB (bw_V mw_264 mw_265 mw_266 mw_142 mw_263) rfl rfl rfl (by decide +kernel) ⟨Nat.le_of_ble_eq_true rfl, Nat.le_of_ble_eq_true rfl⟩) (kp_V hK hP hD [5] (by decide) rfl 5 rfl rfl rfl) rfl rfl hl.1 rfl (lv_room (Nat.le_of_ble_eq_true rfl)) dX11_write_20 ⟨Nat.le_of_ble_eq_true rfl, Nat.le_of_ble_eq_true rfl⟩) hP hD hS hA [5] [0, 1, 2, 3, 4] (wr := [(h0, .inr (11, [v0, v1, v2, v3, v4, .ref h1, v5, v6, v7, v8, v9, v10, v11, v12, v13])), (h1, .inl (ty 4, 4, .inr (.inr (.inr (.inr (va_up (va_up (va_up (va_up kn 0 (some h2)) 1 (some h3)) 2 (some h4)) 3 (some h5))))))), (h2, .inr (4, [.int (-1), v14, v15])), (h3, .inr (4, [.int (-1), v16, v17])), (h4, .inr (4, [.int (-1), v18, v19]))]) rfl rfl (by decide) (by decide) (fun r u H locs w7 hP hD hS => ?_)
      obtain ⟨rfl, rfl⟩ := w7
      have hP : va_P D vwCl [(h0, .inr (11, [v0, v1, v2, v3, v4, .ref h1, v5, v6, v7, v8, v9, v10, v11, v12, v13])), (h1, .inl (ty 4, 4, .inr (.inr (.inr (.inr (va_up (va_up (va_up (va_up kn 0 (some h2)) 1 (some h3)) 2 (some h4)) 3 (some h5))))))), (h2, .inr (4, [.int (-1), v14, v15])), (h3, .inr (4, [.int (-1), v16, v17])), (h4, .inr (4, [.int (-1), v18, v19])), (h5, .inr (4, [.int (-1), v20, v21]))] H := hP
      have hD : va_D A [(h0, .inr (11, [v0, v1, v2, v3, v4, .ref h1, v5, v6, v7, v8, v9, v10, v11, v12, v13])), (h1, .inl (ty 4, 4, .inr (.inr (.inr (.inr (va_up (va_up (va_up (va_up kn 0 (some h2)) 1 (some h3)) 2 (some h4)) 3 (some h5))))))), (h2, .inr (4, [.int (-1), v14, v15])), (h3, .inr (4, [.int (-1), v16, v17])), (h4, .inr (4, [.int (-1), v18, v19])), (h5, .inr (4, [.int (-1), v20, v21]))] := hD
      refine lv_if_ne (tgt := 29) hx hb dX11_write_23 (by decide) (fun h9 => absurd (by decide) h9) (fun _ => ?_)
      refine lv_bipush (v := (-6)) hx hb dX11_write_26 (by decide) ?_
      exact kr_z hx hb hr rfl hlocks hP hD hS [] [] (by decide) rfl (Or.inr ⟨(Or.inr (Or.inr (Or.inr ⟨c3, rfl⟩))), rfl, rfl⟩) (by decide) (by decide) dX11_write_28
set_option maxHeartbeats 4000000 in
set_option maxRecDepth 100000 in
theorem c139_X11_paste (l : Launch) (D : va_G) (ty : Nat → ClassId) (sz : Nat) (h0 : Nat) (h1 : Nat) (h2 : Nat) (h3 : Nat) (h4 : Nat) (h5 : Nat) (p0 : Int32) (p1 : Int32) (p2 : Int32) (p3 : Int32) (p4 : Int32) (v0 : Value) (v1 : Value) (v2 : Value) (v3 : Value) (v4 : Value) (v5 : Value) (v6 : Value) (v7 : Value) (v8 : Value) (v9 : Value) (v10 : Value) (v11 : Value) (v12 : Value) (v13 : Value) (v14 : Value) (v15 : Value) (v16 : Value) (v17 : Value) (v18 : Value) (v19 : Value) (v20 : Value) (v21 : Value) : cQ l yX11_paste cX11_paste 8 (some .int) 1 20 [.ref h0, .int p0, .int p1, .int p2, .int p3, .int p4] D ty [(h0, .inr (11, [v0, v1, v2, v3, v4, .ref h1, v5, v6, v7, v8, v9, v10, v11, v12, v13])), (h1, .inl (ty 4, 4, .inr (.inr (.inr (.inr (va_up (va_up (va_up (va_up kn 0 (some h2)) 1 (some h3)) 2 (some h4)) 3 (some h5))))))), (h2, .inr (4, [.int (-1), v14, v15])), (h3, .inr (4, [.int (-1), v16, v17])), (h4, .inr (4, [.int (-1), v18, v19])), (h5, .inr (4, [.int (-1), v20, v21]))] sz (qI (fun (r : Int32) (u : va_W) => ((((((p0 < 0)) ∨ ((¬ (p0 < 0)) ∧ (4 ≤ p0)))) ∨ (((¬ (p0 < 0)) ∧ (¬ (4 ≤ p0))) ∧ (((p2 < 0)) ∨ ((¬ (p2 < 0)) ∧ (4 ≤ p2))))) ∧ (-2) = r ∧ [] = u) ∨ (((((¬ (p0 < 0)) ∧ (¬ (4 ≤ p0))) ∧ ((¬ (p2 < 0)) ∧ (¬ (4 ≤ p2))) ∧ (p0 = 0) ∧ (p2 = 0)) ∨ (((¬ (p0 < 0)) ∧ (¬ (4 ≤ p0))) ∧ ((¬ (p2 < 0)) ∧ (¬ (4 ≤ p2))) ∧ (p0 = 0) ∧ (p2 = 1)) ∨ (((¬ (p0 < 0)) ∧ (¬ (4 ≤ p0))) ∧ ((¬ (p2 < 0)) ∧ (¬ (4 ≤ p2))) ∧ (p0 = 0) ∧ (p2 = 2)) ∨ (((¬ (p0 < 0)) ∧ (¬ (4 ≤ p0))) ∧ ((¬ (p2 < 0)) ∧ (¬ (4 ≤ p2))) ∧ (p0 = 0) ∧ (p2 = 3)) ∨ (((¬ (p0 < 0)) ∧ (¬ (4 ≤ p0))) ∧ ((¬ (p2 < 0)) ∧ (¬ (4 ≤ p2))) ∧ (p0 = 1) ∧ (p2 = 0)) ∨ (((¬ (p0 < 0)) ∧ (¬ (4 ≤ p0))) ∧ ((¬ (p2 < 0)) ∧ (¬ (4 ≤ p2))) ∧ (p0 = 1) ∧ (p2 = 1)) ∨ (((¬ (p0 < 0)) ∧ (¬ (4 ≤ p0))) ∧ ((¬ (p2 < 0)) ∧ (¬ (4 ≤ p2))) ∧ (p0 = 1) ∧ (p2 = 2)) ∨ (((¬ (p0 < 0)) ∧ (¬ (4 ≤ p0))) ∧ ((¬ (p2 < 0)) ∧ (¬ (4 ≤ p2))) ∧ (p0 = 1) ∧ (p2 = 3)) ∨ (((¬ (p0 < 0)) ∧ (¬ (4 ≤ p0))) ∧ ((¬ (p2 < 0)) ∧ (¬ (4 ≤ p2))) ∧ (p0 = 2) ∧ (p2 = 0)) ∨ (((¬ (p0 < 0)) ∧ (¬ (4 ≤ p0))) ∧ ((¬ (p2 < 0)) ∧ (¬ (4 ≤ p2))) ∧ (p0 = 2) ∧ (p2 = 1)) ∨ (((¬ (p0 < 0)) ∧ (¬ (4 ≤ p0))) ∧ ((¬ (p2 < 0)) ∧ (¬ (4 ≤ p2))) ∧ (p0 = 2) ∧ (p2 = 2)) ∨ (((¬ (p0 < 0)) ∧ (¬ (4 ≤ p0))) ∧ ((¬ (p2 < 0)) ∧ (¬ (4 ≤ p2))) ∧ (p0 = 2) ∧ (p2 = 3)) ∨ (((¬ (p0 < 0)) ∧ (¬ (4 ≤ p0))) ∧ ((¬ (p2 < 0)) ∧ (¬ (4 ≤ p2))) ∧ (p0 = 3) ∧ (p2 = 0)) ∨ (((¬ (p0 < 0)) ∧ (¬ (4 ≤ p0))) ∧ ((¬ (p2 < 0)) ∧ (¬ (4 ≤ p2))) ∧ (p0 = 3) ∧ (p2 = 1)) ∨ (((¬ (p0 < 0)) ∧ (¬ (4 ≤ p0))) ∧ ((¬ (p2 < 0)) ∧ (¬ (4 ≤ p2))) ∧ (p0 = 3) ∧ (p2 = 2)) ∨ (((¬ (p0 < 0)) ∧ (¬ (4 ≤ p0))) ∧ ((¬ (p2 < 0)) ∧ (¬ (4 ≤ p2))) ∧ (p0 = 3) ∧ (p2 = 3))) ∧ (-6) = r ∧ [] = u))) 0 0 := by
  refine cQ.of (by decide) (Nat.le_of_ble_eq_true rfl) (fun p e s m below meth c A ls C hsz hP hK hD hA hl => ?_)
  obtain ⟨hx, hb, hml, hown, hB, hr, hlocks, hin⟩ := C
  have hown : s.vm.findClass RX11 = some m.cls := hown
  have hS : va_S A s.heap s.heap [] := va_S.rf
  have hl : lv_has ls 8 [(0, .ref h0), (1, .int p0), (2, .int p1), (3, .int p2), (4, .int p3), (5, .int p4)] := hl
  refine lv_iload_n hx hb dX11_paste_0 rfl (lv_at hl 1 rfl) ?_
  refine kc_i (va_runS (As := [.int p0]) (rest := []) ⟨hx, hb, hml, hown, hB⟩ (c41_X11_isSlot l D ty s.heap.size p0) (va_cwS 1 hB (bw_S mw_261 mw_262 mw_216 mw_260) rfl rfl rfl (by decide +kernel) ⟨Nat.le_of_ble_eq_true rfl, Nat.le_of_ble_eq_true rfl⟩) (kp_S hK hP hD [] (by decide) rfl) rfl rfl hl.1 rfl (lv_room (Nat.le_of_ble_eq_true rfl)) dX11_paste_1 ⟨Nat.le_of_ble_eq_true rfl, Nat.le_of_ble_eq_true rfl⟩) hP hD hS hA [] [0, 1, 2, 3, 4, 5] (wr := [(h0, .inr (11, [v0, v1, v2, v3, v4, .ref h1, v5, v6, v7, v8, v9, v10, v11, v12, v13])), (h1, .inl (ty 4, 4, .inr (.inr (.inr (.inr (va_up (va_up (va_up (va_up kn 0 (some h2)) 1 (some h3)) 2 (some h4)) 3 (some h5))))))), (h2, .inr (4, [.int (-1), v14, v15])), (h3, .inr (4, [.int (-1), v16, v17])), (h4, .inr (4, [.int (-1), v18, v19])), (h5, .inr (4, [.int (-1), v20, v21]))]) rfl rfl (by decide) (by decide) (fun r u H locs w1 hP hD hS => ?_)
  rcases w1 with ⟨c2, rfl, rfl⟩ | ⟨c3, rfl, rfl⟩
  · have hP : va_P D vwCl [(h0, .inr (11, [v0, v1, v2, v3, v4, .ref h1, v5, v6, v7, v8, v9, v10, v11, v12, v13])), (h1, .inl (ty 4, 4, .inr (.inr (.inr (.inr (va_up (va_up (va_up (va_up kn 0 (some h2)) 1 (some h3)) 2 (some h4)) 3 (some h5))))))), (h2, .inr (4, [.int (-1), v14, v15])), (h3, .inr (4, [.int (-1), v16, v17])), (h4, .inr (4, [.int (-1), v18, v19])), (h5, .inr (4, [.int (-1), v20, v21]))] H := hP
    have hD : va_D A [(h0, .inr (11, [v0, v1, v2, v3, v4, .ref h1, v5, v6, v7, v8, v9, v10, v11, v12, v13])), (h1, .inl (ty 4, 4, .inr (.inr (.inr (.inr (va_up (va_up (va_up (va_up kn 0 (some h2)) 1 (some h3)) 2 (some h4)) 3 (some h5))))))), (h2, .inr (4, [.int (-1), v14, v15])), (h3, .inr (4, [.int (-1), v16, v17])), (h4, .inr (4, [.int (-1), v18, v19])), (h5, .inr (4, [.int (-1), v20, v21]))] := hD
    refine lv_if_eq (tgt := 14) hx hb dX11_paste_4 (by decide) (fun _ => ?_) (fun h9 => absurd (by decide) h9)
    refine lv_bipush (v := (-2)) hx hb dX11_paste_14 (by decide) ?_
    exact kr_z hx hb hr rfl hlocks hP hD hS [] [] (by decide) rfl (Or.inl ⟨(Or.inl c2), rfl, rfl⟩) (by decide) (by decide) dX11_paste_16
  · have hP : va_P D vwCl [(h0, .inr (11, [v0, v1, v2, v3, v4, .ref h1, v5, v6, v7, v8, v9, v10, v11, v12, v13])), (h1, .inl (ty 4, 4, .inr (.inr (.inr (.inr (va_up (va_up (va_up (va_up kn 0 (some h2)) 1 (some h3)) 2 (some h4)) 3 (some h5))))))), (h2, .inr (4, [.int (-1), v14, v15])), (h3, .inr (4, [.int (-1), v16, v17])), (h4, .inr (4, [.int (-1), v18, v19])), (h5, .inr (4, [.int (-1), v20, v21]))] H := hP
    have hD : va_D A [(h0, .inr (11, [v0, v1, v2, v3, v4, .ref h1, v5, v6, v7, v8, v9, v10, v11, v12, v13])), (h1, .inl (ty 4, 4, .inr (.inr (.inr (.inr (va_up (va_up (va_up (va_up kn 0 (some h2)) 1 (some h3)) 2 (some h4)) 3 (some h5))))))), (h2, .inr (4, [.int (-1), v14, v15])), (h3, .inr (4, [.int (-1), v16, v17])), (h4, .inr (4, [.int (-1), v18, v19])), (h5, .inr (4, [.int (-1), v20, v21]))] := hD
    refine lv_if_eq (tgt := 14) hx hb dX11_paste_4 (by decide) (fun h9 => absurd h9 (by decide)) (fun _ => ?_)
    refine lv_iload_n hx hb dX11_paste_7 rfl (lv_at hl 3 rfl) ?_
    refine kc_i (va_runS (As := [.int p2]) (rest := []) ⟨hx, hb, hml, hown, hB⟩ (c41_X11_isSlot l D ty H.size p2) (va_cwS 1 hB (bw_S mw_261 mw_262 mw_216 mw_260) rfl rfl rfl (by decide +kernel) ⟨Nat.le_of_ble_eq_true rfl, Nat.le_of_ble_eq_true rfl⟩) (kp_S hK hP hD [] (by decide) rfl) rfl rfl hl.1 rfl (lv_room (Nat.le_of_ble_eq_true rfl)) dX11_paste_8 ⟨Nat.le_of_ble_eq_true rfl, Nat.le_of_ble_eq_true rfl⟩) hP hD hS hA [] [0, 1, 2, 3, 4, 5] (wr := [(h0, .inr (11, [v0, v1, v2, v3, v4, .ref h1, v5, v6, v7, v8, v9, v10, v11, v12, v13])), (h1, .inl (ty 4, 4, .inr (.inr (.inr (.inr (va_up (va_up (va_up (va_up kn 0 (some h2)) 1 (some h3)) 2 (some h4)) 3 (some h5))))))), (h2, .inr (4, [.int (-1), v14, v15])), (h3, .inr (4, [.int (-1), v16, v17])), (h4, .inr (4, [.int (-1), v18, v19])), (h5, .inr (4, [.int (-1), v20, v21]))]) rfl rfl (by decide) (by decide) (fun r u H locs w4 hP hD hS => ?_)
    rcases w4 with ⟨c5, rfl, rfl⟩ | ⟨c6, rfl, rfl⟩
    · have hP : va_P D vwCl [(h0, .inr (11, [v0, v1, v2, v3, v4, .ref h1, v5, v6, v7, v8, v9, v10, v11, v12, v13])), (h1, .inl (ty 4, 4, .inr (.inr (.inr (.inr (va_up (va_up (va_up (va_up kn 0 (some h2)) 1 (some h3)) 2 (some h4)) 3 (some h5))))))), (h2, .inr (4, [.int (-1), v14, v15])), (h3, .inr (4, [.int (-1), v16, v17])), (h4, .inr (4, [.int (-1), v18, v19])), (h5, .inr (4, [.int (-1), v20, v21]))] H := hP
      have hD : va_D A [(h0, .inr (11, [v0, v1, v2, v3, v4, .ref h1, v5, v6, v7, v8, v9, v10, v11, v12, v13])), (h1, .inl (ty 4, 4, .inr (.inr (.inr (.inr (va_up (va_up (va_up (va_up kn 0 (some h2)) 1 (some h3)) 2 (some h4)) 3 (some h5))))))), (h2, .inr (4, [.int (-1), v14, v15])), (h3, .inr (4, [.int (-1), v16, v17])), (h4, .inr (4, [.int (-1), v18, v19])), (h5, .inr (4, [.int (-1), v20, v21]))] := hD
      refine lv_if_ne (tgt := 17) hx hb dX11_paste_11 (by decide) (fun h9 => absurd (by decide) h9) (fun _ => ?_)
      refine lv_bipush (v := (-2)) hx hb dX11_paste_14 (by decide) ?_
      exact kr_z hx hb hr rfl hlocks hP hD hS [] [] (by decide) rfl (Or.inl ⟨(Or.inr ⟨c3, c5⟩), rfl, rfl⟩) (by decide) (by decide) dX11_paste_16
    · have hP : va_P D vwCl [(h0, .inr (11, [v0, v1, v2, v3, v4, .ref h1, v5, v6, v7, v8, v9, v10, v11, v12, v13])), (h1, .inl (ty 4, 4, .inr (.inr (.inr (.inr (va_up (va_up (va_up (va_up kn 0 (some h2)) 1 (some h3)) 2 (some h4)) 3 (some h5))))))), (h2, .inr (4, [.int (-1), v14, v15])), (h3, .inr (4, [.int (-1), v16, v17])), (h4, .inr (4, [.int (-1), v18, v19])), (h5, .inr (4, [.int (-1), v20, v21]))] H := hP
      have hD : va_D A [(h0, .inr (11, [v0, v1, v2, v3, v4, .ref h1, v5, v6, v7, v8, v9, v10, v11, v12, v13])), (h1, .inl (ty 4, 4, .inr (.inr (.inr (.inr (va_up (va_up (va_up (va_up kn 0 (some h2)) 1 (some h3)) 2 (some h4)) 3 (some h5))))))), (h2, .inr (4, [.int (-1), v14, v15])), (h3, .inr (4, [.int (-1), v16, v17])), (h4, .inr (4, [.int (-1), v18, v19])), (h5, .inr (4, [.int (-1), v20, v21]))] := hD
      refine lv_if_ne (tgt := 17) hx hb dX11_paste_11 (by decide) (fun _ => ?_) (fun h9 => absurd h9 (by decide))
      refine lv_aload_n hx hb dX11_paste_17 rfl (lv_at hl 0 rfl) ?_
      refine va_get (D := D) (ci := 11) (v := .ref h1) (C := RX11) (T := TX11) (N := 15) hx hb hB inB_X11 hown hK.1 hP 0 rfl rfl 5 (by decide) (hB _ mw_89) (fun _ h9 => h9) rfl dX11_paste_18 ?_
      refine lv_iload_n hx hb dX11_paste_21 rfl (lv_at hl 1 rfl) ?_
      rcases ps_1 p0 c3 with rfl | rfl | rfl | rfl
      · refine va_aldq hx hb hK.1 hP 1 4 rfl rfl (by unfold vp_in; decide) dX11_paste_22 ?_
        refine tp_v (v := .ref h2) rfl ?_
        refine lv_astore (lv' := [(6, .ref h2), (0, .ref h0), (1, .int 0), (2, .int p1), (3, .int p2), (4, .int p3), (5, .int p4)]) hx hb dX11_paste_23 hl (by decide) rfl (fun ls hl => ?_)
        refine lv_aload_n hx hb dX11_paste_25 rfl (lv_at hl 1 rfl) ?_
        refine va_get (D := D) (ci := 11) (v := .ref h1) (C := RX11) (T := TX11) (N := 15) hx hb hB inB_X11 hown hK.1 hP 0 rfl rfl 5 (by decide) (hB _ mw_89) (fun _ h9 => h9) rfl dX11_paste_26 ?_
        refine lv_iload_n hx hb dX11_paste_29 rfl (lv_at hl 4 rfl) ?_
        rcases ps_1 p2 c6 with rfl | rfl | rfl | rfl
        · refine va_aldq hx hb hK.1 hP 1 4 rfl rfl (by unfold vp_in; decide) dX11_paste_30 ?_
          refine tp_v (v := .ref h2) rfl ?_
          refine lv_astore (lv' := [(7, .ref h2), (6, .ref h2), (0, .ref h0), (1, .int 0), (2, .int p1), (3, .int 0), (4, .int p3), (5, .int p4)]) hx hb dX11_paste_31 hl (by decide) rfl (fun ls hl => ?_)
          refine lv_aload hx hb dX11_paste_33 (lv_at hl 1 rfl) ?_
          refine kc_i (va_runV (As := []) (rest := []) ⟨hx, hb, hml, hown, hB⟩ (c42_X4_isThere l D ty H.size h2 v14 v15) (cwV 0 hB (bw_V mw_264 mw_265 mw_266 mw_142 mw_263) rfl rfl rfl (by decide +kernel) ⟨Nat.le_of_ble_eq_true rfl, Nat.le_of_ble_eq_true rfl⟩) (kp_V hK hP hD [2] (by decide) rfl 2 rfl rfl rfl) rfl rfl hl.1 rfl (lv_room (Nat.le_of_ble_eq_true rfl)) dX11_paste_35 ⟨Nat.le_of_ble_eq_true rfl, Nat.le_of_ble_eq_true rfl⟩) hP hD hS hA [2] [0, 1, 3, 4, 5] (wr := [(h0, .inr (11, [v0, v1, v2, v3, v4, .ref h1, v5, v6, v7, v8, v9, v10, v11, v12, v13])), (h1, .inl (ty 4, 4, .inr (.inr (.inr (.inr (va_up (va_up (va_up (va_up kn 0 (some h2)) 1 (some h3)) 2 (some h4)) 3 (some h5))))))), (h3, .inr (4, [.int (-1), v16, v17])), (h4, .inr (4, [.int (-1), v18, v19])), (h5, .inr (4, [.int (-1), v20, v21]))]) rfl rfl (by decide) (by decide) (fun r u H locs w7 hP hD hS => ?_)
          obtain ⟨rfl, rfl⟩ := w7
          have hP : va_P D vwCl [(h0, .inr (11, [v0, v1, v2, v3, v4, .ref h1, v5, v6, v7, v8, v9, v10, v11, v12, v13])), (h1, .inl (ty 4, 4, .inr (.inr (.inr (.inr (va_up (va_up (va_up (va_up kn 0 (some h2)) 1 (some h3)) 2 (some h4)) 3 (some h5))))))), (h3, .inr (4, [.int (-1), v16, v17])), (h4, .inr (4, [.int (-1), v18, v19])), (h5, .inr (4, [.int (-1), v20, v21])), (h2, .inr (4, [.int (-1), v14, v15]))] H := hP
          have hD : va_D A [(h0, .inr (11, [v0, v1, v2, v3, v4, .ref h1, v5, v6, v7, v8, v9, v10, v11, v12, v13])), (h1, .inl (ty 4, 4, .inr (.inr (.inr (.inr (va_up (va_up (va_up (va_up kn 0 (some h2)) 1 (some h3)) 2 (some h4)) 3 (some h5))))))), (h3, .inr (4, [.int (-1), v16, v17])), (h4, .inr (4, [.int (-1), v18, v19])), (h5, .inr (4, [.int (-1), v20, v21])), (h2, .inr (4, [.int (-1), v14, v15]))] := hD
          refine lv_if_eq (tgt := 49) hx hb dX11_paste_38 (by decide) (fun _ => ?_) (fun h9 => absurd (by decide) h9)
          refine lv_bipush (v := (-6)) hx hb dX11_paste_49 (by decide) ?_
          exact kr_z hx hb hr rfl hlocks hP hD hS [] [] (by decide) rfl (Or.inr ⟨(Or.inl ⟨c3, c6, rfl, rfl⟩), rfl, rfl⟩) (by decide) (by decide) dX11_paste_51
        · refine va_aldq hx hb hK.1 hP 1 4 rfl rfl (by unfold vp_in; decide) dX11_paste_30 ?_
          refine tp_v (v := .ref h3) rfl ?_
          refine lv_astore (lv' := [(7, .ref h3), (6, .ref h2), (0, .ref h0), (1, .int 0), (2, .int p1), (3, .int 1), (4, .int p3), (5, .int p4)]) hx hb dX11_paste_31 hl (by decide) rfl (fun ls hl => ?_)
          refine lv_aload hx hb dX11_paste_33 (lv_at hl 1 rfl) ?_
          refine kc_i (va_runV (As := []) (rest := []) ⟨hx, hb, hml, hown, hB⟩ (c42_X4_isThere l D ty H.size h2 v14 v15) (cwV 0 hB (bw_V mw_264 mw_265 mw_266 mw_142 mw_263) rfl rfl rfl (by decide +kernel) ⟨Nat.le_of_ble_eq_true rfl, Nat.le_of_ble_eq_true rfl⟩) (kp_V hK hP hD [2] (by decide) rfl 2 rfl rfl rfl) rfl rfl hl.1 rfl (lv_room (Nat.le_of_ble_eq_true rfl)) dX11_paste_35 ⟨Nat.le_of_ble_eq_true rfl, Nat.le_of_ble_eq_true rfl⟩) hP hD hS hA [2] [0, 1, 3, 4, 5] (wr := [(h0, .inr (11, [v0, v1, v2, v3, v4, .ref h1, v5, v6, v7, v8, v9, v10, v11, v12, v13])), (h1, .inl (ty 4, 4, .inr (.inr (.inr (.inr (va_up (va_up (va_up (va_up kn 0 (some h2)) 1 (some h3)) 2 (some h4)) 3 (some h5))))))), (h3, .inr (4, [.int (-1), v16, v17])), (h4, .inr (4, [.int (-1), v18, v19])), (h5, .inr (4, [.int (-1), v20, v21]))]) rfl rfl (by decide) (by decide) (fun r u H locs w8 hP hD hS => ?_)
          obtain ⟨rfl, rfl⟩ := w8
          have hP : va_P D vwCl [(h0, .inr (11, [v0, v1, v2, v3, v4, .ref h1, v5, v6, v7, v8, v9, v10, v11, v12, v13])), (h1, .inl (ty 4, 4, .inr (.inr (.inr (.inr (va_up (va_up (va_up (va_up kn 0 (some h2)) 1 (some h3)) 2 (some h4)) 3 (some h5))))))), (h3, .inr (4, [.int (-1), v16, v17])), (h4, .inr (4, [.int (-1), v18, v19])), (h5, .inr (4, [.int (-1), v20, v21])), (h2, .inr (4, [.int (-1), v14, v15]))] H := hP
          have hD : va_D A [(h0, .inr (11, [v0, v1, v2, v3, v4, .ref h1, v5, v6, v7, v8, v9, v10, v11, v12, v13])), (h1, .inl (ty 4, 4, .inr (.inr (.inr (.inr (va_up (va_up (va_up (va_up kn 0 (some h2)) 1 (some h3)) 2 (some h4)) 3 (some h5))))))), (h3, .inr (4, [.int (-1), v16, v17])), (h4, .inr (4, [.int (-1), v18, v19])), (h5, .inr (4, [.int (-1), v20, v21])), (h2, .inr (4, [.int (-1), v14, v15]))] := hD
          refine lv_if_eq (tgt := 49) hx hb dX11_paste_38 (by decide) (fun _ => ?_) (fun h9 => absurd (by decide) h9)
          refine lv_bipush (v := (-6)) hx hb dX11_paste_49 (by decide) ?_
          exact kr_z hx hb hr rfl hlocks hP hD hS [] [] (by decide) rfl (Or.inr ⟨(Or.inr (Or.inl ⟨c3, c6, rfl, rfl⟩)), rfl, rfl⟩) (by decide) (by decide) dX11_paste_51
        · refine va_aldq hx hb hK.1 hP 1 4 rfl rfl (by unfold vp_in; decide) dX11_paste_30 ?_
          refine tp_v (v := .ref h4) rfl ?_
          refine lv_astore (lv' := [(7, .ref h4), (6, .ref h2), (0, .ref h0), (1, .int 0), (2, .int p1), (3, .int 2), (4, .int p3), (5, .int p4)]) hx hb dX11_paste_31 hl (by decide) rfl (fun ls hl => ?_)
          refine lv_aload hx hb dX11_paste_33 (lv_at hl 1 rfl) ?_
          refine kc_i (va_runV (As := []) (rest := []) ⟨hx, hb, hml, hown, hB⟩ (c42_X4_isThere l D ty H.size h2 v14 v15) (cwV 0 hB (bw_V mw_264 mw_265 mw_266 mw_142 mw_263) rfl rfl rfl (by decide +kernel) ⟨Nat.le_of_ble_eq_true rfl, Nat.le_of_ble_eq_true rfl⟩) (kp_V hK hP hD [2] (by decide) rfl 2 rfl rfl rfl) rfl rfl hl.1 rfl (lv_room (Nat.le_of_ble_eq_true rfl)) dX11_paste_35 ⟨Nat.le_of_ble_eq_true rfl, Nat.le_of_ble_eq_true rfl⟩) hP hD hS hA [2] [0, 1, 3, 4, 5] (wr := [(h0, .inr (11, [v0, v1, v2, v3, v4, .ref h1, v5, v6, v7, v8, v9, v10, v11, v12, v13])), (h1, .inl (ty 4, 4, .inr (.inr (.inr (.inr (va_up (va_up (va_up (va_up kn 0 (some h2)) 1 (some h3)) 2 (some h4)) 3 (some h5))))))), (h3, .inr (4, [.int (-1), v16, v17])), (h4, .inr (4, [.int (-1), v18, v19])), (h5, .inr (4, [.int (-1), v20, v21]))]) rfl rfl (by decide) (by decide) (fun r u H locs w9 hP hD hS => ?_)
          obtain ⟨rfl, rfl⟩ := w9
          have hP : va_P D vwCl [(h0, .inr (11, [v0, v1, v2, v3, v4, .ref h1, v5, v6, v7, v8, v9, v10, v11, v12, v13])), (h1, .inl (ty 4, 4, .inr (.inr (.inr (.inr (va_up (va_up (va_up (va_up kn 0 (some h2)) 1 (some h3)) 2 (some h4)) 3 (some h5))))))), (h3, .inr (4, [.int (-1), v16, v17])), (h4, .inr (4, [.int (-1), v18, v19])), (h5, .inr (4, [.int (-1), v20, v21])), (h2, .inr (4, [.int (-1), v14, v15]))] H := hP
          have hD : va_D A [(h0, .inr (11, [v0, v1, v2, v3, v4, .ref h1, v5, v6, v7, v8, v9, v10, v11, v12, v13])), (h1, .inl (ty 4, 4, .inr (.inr (.inr (.inr (va_up (va_up (va_up (va_up kn 0 (some h2)) 1 (some h3)) 2 (some h4)) 3 (some h5))))))), (h3, .inr (4, [.int (-1), v16, v17])), (h4, .inr (4, [.int (-1), v18, v19])), (h5, .inr (4, [.int (-1), v20, v21])), (h2, .inr (4, [.int (-1), v14, v15]))] := hD
          refine lv_if_eq (tgt := 49) hx hb dX11_paste_38 (by decide) (fun _ => ?_) (fun h9 => absurd (by decide) h9)
          refine lv_bipush (v := (-6)) hx hb dX11_paste_49 (by decide) ?_
          exact kr_z hx hb hr rfl hlocks hP hD hS [] [] (by decide) rfl (Or.inr ⟨(Or.inr (Or.inr (Or.inl ⟨c3, c6, rfl, rfl⟩))), rfl, rfl⟩) (by decide) (by decide) dX11_paste_51
        · refine va_aldq hx hb hK.1 hP 1 4 rfl rfl (by unfold vp_in; decide) dX11_paste_30 ?_
          refine tp_v (v := .ref h5) rfl ?_
          refine lv_astore (lv' := [(7, .ref h5), (6, .ref h2), (0, .ref h0), (1, .int 0), (2, .int p1), (3, .int 3), (4, .int p3), (5, .int p4)]) hx hb dX11_paste_31 hl (by decide) rfl (fun ls hl => ?_)
          refine lv_aload hx hb dX11_paste_33 (lv_at hl 1 rfl) ?_
          refine kc_i (va_runV (As := []) (rest := []) ⟨hx, hb, hml, hown, hB⟩ (c42_X4_isThere l D ty H.size h2 v14 v15) (cwV 0 hB (bw_V mw_264 mw_265 mw_266 mw_142 mw_263) rfl rfl rfl (by decide +kernel) ⟨Nat.le_of_ble_eq_true rfl, Nat.le_of_ble_eq_true rfl⟩) (kp_V hK hP hD [2] (by decide) rfl 2 rfl rfl rfl) rfl rfl hl.1 rfl (lv_room (Nat.le_of_ble_eq_true rfl)) dX11_paste_35 ⟨Nat.le_of_ble_eq_true rfl, Nat.le_of_ble_eq_true rfl⟩) hP hD hS hA [2] [0, 1, 3, 4, 5] (wr := [(h0, .inr (11, [v0, v1, v2, v3, v4, .ref h1, v5, v6, v7, v8, v9, v10, v11, v12, v13])), (h1, .inl (ty 4, 4, .inr (.inr (.inr (.inr (va_up (va_up (va_up (va_up kn 0 (some h2)) 1 (some h3)) 2 (some h4)) 3 (some h5))))))), (h3, .inr (4, [.int (-1), v16, v17])), (h4, .inr (4, [.int (-1), v18, v19])), (h5, .inr (4, [.int (-1), v20, v21]))]) rfl rfl (by decide) (by decide) (fun r u H locs w10 hP hD hS => ?_)
          obtain ⟨rfl, rfl⟩ := w10
          have hP : va_P D vwCl [(h0, .inr (11, [v0, v1, v2, v3, v4, .ref h1, v5, v6, v7, v8, v9, v10, v11, v12, v13])), (h1, .inl (ty 4, 4, .inr (.inr (.inr (.inr (va_up (va_up (va_up (va_up kn 0 (some h2)) 1 (some h3)) 2 (some h4)) 3 (some h5))))))), (h3, .inr (4, [.int (-1), v16, v17])), (h4, .inr (4, [.int (-1), v18, v19])), (h5, .inr (4, [.int (-1), v20, v21])), (h2, .inr (4, [.int (-1), v14, v15]))] H := hP
          have hD : va_D A [(h0, .inr (11, [v0, v1, v2, v3, v4, .ref h1, v5, v6, v7, v8, v9, v10, v11, v12, v13])), (h1, .inl (ty 4, 4, .inr (.inr (.inr (.inr (va_up (va_up (va_up (va_up kn 0 (some h2)) 1 (some h3)) 2 (some h4)) 3 (some h5))))))), (h3, .inr (4, [.int (-1), v16, v17])), (h4, .inr (4, [.int (-1), v18, v19])), (h5, .inr (4, [.int (-1), v20, v21])), (h2, .inr (4, [.int (-1), v14, v15]))] := hD
          refine lv_if_eq (tgt := 49) hx hb dX11_paste_38 (by decide) (fun _ => ?_) (fun h9 => absurd (by decide) h9)
          refine lv_bipush (v := (-6)) hx hb dX11_paste_49 (by decide) ?_
          exact kr_z hx hb hr rfl hlocks hP hD hS [] [] (by decide) rfl (Or.inr ⟨(Or.inr (Or.inr (Or.inr (Or.inl ⟨c3, c6, rfl, rfl⟩)))), rfl, rfl⟩) (by decide) (by decide) dX11_paste_51
      · refine va_aldq hx hb hK.1 hP 1 4 rfl rfl (by unfold vp_in; decide) dX11_paste_22 ?_
        refine tp_v (v := .ref h3) rfl ?_
        refine lv_astore (lv' := [(6, .ref h3), (0, .ref h0), (1, .int 1), (2, .int p1), (3, .int p2), (4, .int p3), (5, .int p4)]) hx hb dX11_paste_23 hl (by decide) rfl (fun ls hl => ?_)
        refine lv_aload_n hx hb dX11_paste_25 rfl (lv_at hl 1 rfl) ?_
        refine va_get (D := D) (ci := 11) (v := .ref h1) (C := RX11) (T := TX11) (N := 15) hx hb hB inB_X11 hown hK.1 hP 0 rfl rfl 5 (by decide) (hB _ mw_89) (fun _ h9 => h9) rfl dX11_paste_26 ?_
        refine lv_iload_n hx hb dX11_paste_29 rfl (lv_at hl 4 rfl) ?_
        rcases ps_1 p2 c6 with rfl | rfl | rfl | rfl
        · refine va_aldq hx hb hK.1 hP 1 4 rfl rfl (by unfold vp_in; decide) dX11_paste_30 ?_
          refine tp_v (v := .ref h2) rfl ?_
          refine lv_astore (lv' := [(7, .ref h2), (6, .ref h3), (0, .ref h0), (1, .int 1), (2, .int p1), (3, .int 0), (4, .int p3), (5, .int p4)]) hx hb dX11_paste_31 hl (by decide) rfl (fun ls hl => ?_)
          refine lv_aload hx hb dX11_paste_33 (lv_at hl 1 rfl) ?_
          refine kc_i (va_runV (As := []) (rest := []) ⟨hx, hb, hml, hown, hB⟩ (c42_X4_isThere l D ty H.size h3 v16 v17) (cwV 0 hB (bw_V mw_264 mw_265 mw_266 mw_142 mw_263) rfl rfl rfl (by decide +kernel) ⟨Nat.le_of_ble_eq_true rfl, Nat.le_of_ble_eq_true rfl⟩) (kp_V hK hP hD [3] (by decide) rfl 3 rfl rfl rfl) rfl rfl hl.1 rfl (lv_room (Nat.le_of_ble_eq_true rfl)) dX11_paste_35 ⟨Nat.le_of_ble_eq_true rfl, Nat.le_of_ble_eq_true rfl⟩) hP hD hS hA [3] [0, 1, 2, 4, 5] (wr := [(h0, .inr (11, [v0, v1, v2, v3, v4, .ref h1, v5, v6, v7, v8, v9, v10, v11, v12, v13])), (h1, .inl (ty 4, 4, .inr (.inr (.inr (.inr (va_up (va_up (va_up (va_up kn 0 (some h2)) 1 (some h3)) 2 (some h4)) 3 (some h5))))))), (h2, .inr (4, [.int (-1), v14, v15])), (h4, .inr (4, [.int (-1), v18, v19])), (h5, .inr (4, [.int (-1), v20, v21]))]) rfl rfl (by decide) (by decide) (fun r u H locs w11 hP hD hS => ?_)
          obtain ⟨rfl, rfl⟩ := w11
          have hP : va_P D vwCl [(h0, .inr (11, [v0, v1, v2, v3, v4, .ref h1, v5, v6, v7, v8, v9, v10, v11, v12, v13])), (h1, .inl (ty 4, 4, .inr (.inr (.inr (.inr (va_up (va_up (va_up (va_up kn 0 (some h2)) 1 (some h3)) 2 (some h4)) 3 (some h5))))))), (h2, .inr (4, [.int (-1), v14, v15])), (h4, .inr (4, [.int (-1), v18, v19])), (h5, .inr (4, [.int (-1), v20, v21])), (h3, .inr (4, [.int (-1), v16, v17]))] H := hP
          have hD : va_D A [(h0, .inr (11, [v0, v1, v2, v3, v4, .ref h1, v5, v6, v7, v8, v9, v10, v11, v12, v13])), (h1, .inl (ty 4, 4, .inr (.inr (.inr (.inr (va_up (va_up (va_up (va_up kn 0 (some h2)) 1 (some h3)) 2 (some h4)) 3 (some h5))))))), (h2, .inr (4, [.int (-1), v14, v15])), (h4, .inr (4, [.int (-1), v18, v19])), (h5, .inr (4, [.int (-1), v20, v21])), (h3, .inr (4, [.int (-1), v16, v17]))] := hD
          refine lv_if_eq (tgt := 49) hx hb dX11_paste_38 (by decide) (fun _ => ?_) (fun h9 => absurd (by decide) h9)
          refine lv_bipush (v := (-6)) hx hb dX11_paste_49 (by decide) ?_
          exact kr_z hx hb hr rfl hlocks hP hD hS [] [] (by decide) rfl (Or.inr ⟨(Or.inr (Or.inr (Or.inr (Or.inr (Or.inl ⟨c3, c6, rfl, rfl⟩))))), rfl, rfl⟩) (by decide) (by decide) dX11_paste_51
        · refine va_aldq hx hb hK.1 hP 1 4 rfl rfl (by unfold vp_in; decide) dX11_paste_30 ?_
          refine tp_v (v := .ref h3) rfl ?_
          refine lv_astore (lv' := [(7, .ref h3), (6, .ref h3), (0, .ref h0), (1, .int 1), (2, .int p1), (3, .int 1), (4, .int p3), (5, .int p4)]) hx hb dX11_paste_31 hl (by decide) rfl (fun ls hl => ?_)
          refine lv_aload hx hb dX11_paste_33 (lv_at hl 1 rfl) ?_
          refine kc_i (va_runV (As := []) (rest := []) ⟨hx, hb, hml, hown, hB⟩ (c42_X4_isThere l D ty H.size h3 v16 v17) (cwV 0 hB (bw_V mw_264 mw_265 mw_266 mw_142 mw_263) rfl rfl rfl (by decide +kernel) ⟨Nat.le_of_ble_eq_true rfl, Nat.le_of_ble_eq_true rfl⟩) (kp_V hK hP hD [3] (by decide) rfl 3 rfl rfl rfl) rfl rfl hl.1 rfl (lv_room (Nat.le_of_ble_eq_true rfl)) dX11_paste_35 ⟨Nat.le_of_ble_eq_true rfl, Nat.le_of_ble_eq_true rfl⟩) hP hD hS hA [3] [0, 1, 2, 4, 5] (wr := [(h0, .inr (11, [v0, v1, v2, v3, v4, .ref h1, v5, v6, v7, v8, v9, v10, v11, v12, v13])), (h1, .inl (ty 4, 4, .inr (.inr (.inr (.inr (va_up (va_up (va_up (va_up kn 0 (some h2)) 1 (some h3)) 2 (some h4)) 3 (some h5))))))), (h2, .inr (4, [.int (-1), v14, v15])), (h4, .inr (4, [.int (-1), v18, v19])), (h5, .inr (4, [.int (-1), v20, v21]))]) rfl rfl (by decide) (by decide) (fun r u H locs w12 hP hD hS => ?_)
          obtain ⟨rfl, rfl⟩ := w12
          have hP : va_P D vwCl [(h0, .inr (11, [v0, v1, v2, v3, v4, .ref h1, v5, v6, v7, v8, v9, v10, v11, v12, v13])), (h1, .inl (ty 4, 4, .inr (.inr (.inr (.inr (va_up (va_up (va_up (va_up kn 0 (some h2)) 1 (some h3)) 2 (some h4)) 3 (some h5))))))), (h2, .inr (4, [.int (-1), v14, v15])), (h4, .inr (4, [.int (-1), v18, v19])), (h5, .inr (4, [.int (-1), v20, v21])), (h3, .inr (4, [.int (-1), v16, v17]))] H := hP
          have hD : va_D A [(h0, .inr (11, [v0, v1, v2, v3, v4, .ref h1, v5, v6, v7, v8, v9, v10, v11, v12, v13])), (h1, .inl (ty 4, 4, .inr (.inr (.inr (.inr (va_up (va_up (va_up (va_up kn 0 (some h2)) 1 (some h3)) 2 (some h4)) 3 (some h5))))))), (h2, .inr (4, [.int (-1), v14, v15])), (h4, .inr (4, [.int (-1), v18, v19])), (h5, .inr (4, [.int (-1), v20, v21])), (h3, .inr (4, [.int (-1), v16, v17]))] := hD
          refine lv_if_eq (tgt := 49) hx hb dX11_paste_38 (by decide) (fun _ => ?_) (fun h9 => absurd (by decide) h9)
          refine lv_bipush (v := (-6)) hx hb dX11_paste_49 (by decide) ?_
          exact kr_z hx hb hr rfl hlocks hP hD hS [] [] (by decide) rfl (Or.inr ⟨(Or.inr (Or.inr (Or.inr (Or.inr (Or.inr (Or.inl ⟨c3, c6, rfl, rfl⟩)))))), rfl, rfl⟩) (by decide) (by decide) dX11_paste_51
        · refine va_aldq hx hb hK.1 hP 1 4 rfl rfl (by unfold vp_in; decide) dX11_paste_30 ?_
          refine tp_v (v := .ref h4) rfl ?_
          refine lv_astore (lv' := [(7, .ref h4), (6, .ref h3), (0, .ref h0), (1, .int 1), (2, .int p1), (3, .int 2), (4, .int p3), (5, .int p4)]) hx hb dX11_paste_31 hl (by decide) rfl (fun ls hl => ?_)
          refine lv_aload hx hb dX11_paste_33 (lv_at hl 1 rfl) ?_
          refine kc_i (va_runV (As := []) (rest := []) ⟨hx, hb, hml, hown, hB⟩ (c42_X4_isThere l D ty H.size h3 v16 v17) (cwV 0 hB (bw_V mw_264 mw_265 mw_266 mw_142 mw_263) rfl rfl rfl (by decide +kernel) ⟨Nat.le_of_ble_eq_true rfl, Nat.le_of_ble_eq_true rfl⟩) (kp_V hK hP hD [3] (by decide) rfl 3 rfl rfl rfl) rfl rfl hl.1 rfl (lv_room (Nat.le_of_ble_eq_true rfl)) dX11_paste_35 ⟨Nat.le_of_ble_eq_true rfl, Nat.le_of_ble_eq_true rfl⟩) hP hD hS hA [3] [0, 1, 2, 4, 5] (wr := [(h0, .inr (11, [v0, v1, v2, v3, v4, .ref h1, v5, v6, v7, v8, v9, v10, v11, v12, v13])), (h1, .inl (ty 4, 4, .inr (.inr (.inr (.inr (va_up (va_up (va_up (va_up kn 0 (some h2)) 1 (some h3)) 2 (some h4)) 3 (some h5))))))), (h2, .inr (4, [.int (-1), v14, v15])), (h4, .inr (4, [.int (-1), v18, v19])), (h5, .inr (4, [.int (-1), v20, v21]))]) rfl rfl (by decide) (by decide) (fun r u H locs w13 hP hD hS => ?_)
          obtain ⟨rfl, rfl⟩ := w13
          have hP : va_P D vwCl [(h0, .inr (11, [v0, v1, v2, v3, v4, .ref h1, v5, v6, v7, v8, v9, v10, v11, v12, v13])), (h1, .inl (ty 4, 4, .inr (.inr (.inr (.inr (va_up (va_up (va_up (va_up kn 0 (some h2)) 1 (some h3)) 2 (some h4)) 3 (some h5))))))), (h2, .inr (4, [.int (-1), v14, v15])), (h4, .inr (4, [.int (-1), v18, v19])), (h5, .inr (4, [.int (-1), v20, v21])), (h3, .inr (4, [.int (-1), v16, v17]))] H := hP
          have hD : va_D A [(h0, .inr (11, [v0, v1, v2, v3, v4, .ref h1, v5, v6, v7, v8, v9, v10, v11, v12, v13])), (h1, .inl (ty 4, 4, .inr (.inr (.inr (.inr (va_up (va_up (va_up (va_up kn 0 (some h2)) 1 (some h3)) 2 (some h4)) 3 (some h5))))))), (h2, .inr (4, [.int (-1), v14, v15])), (h4, .inr (4, [.int (-1), v18, v19])), (h5, .inr (4, [.int (-1), v20, v21])), (h3, .inr (4, [.int (-1), v16, v17]))] := hD
          refine lv_if_eq (tgt := 49) hx hb dX11_paste_38 (by decide) (fun _ => ?_) (fun h9 => absurd (by decide) h9)
          refine lv_bipush (v := (-6)) hx hb dX11_paste_49 (by decide) ?_
          exact kr_z hx hb hr rfl hlocks hP hD hS [] [] (by decide) rfl (Or.inr ⟨(Or.inr (Or.inr (Or.inr (Or.inr (Or.inr (Or.inr (Or.inl ⟨c3, c6, rfl, rfl⟩))))))), rfl, rfl⟩) (by decide) (by decide) dX11_paste_51
        · refine va_aldq hx hb hK.1 hP 1 4 rfl rfl (by unfold vp_in; decide) dX11_paste_30 ?_
          refine tp_v (v := .ref h5) rfl ?_
          refine lv_astore (lv' := [(7, .ref h5), (6, .ref h3), (0, .ref h0), (1, .int 1), (2, .int p1), (3, .int 3), (4, .int p3), (5, .int p4)]) hx hb dX11_paste_31 hl (by decide) rfl (fun ls hl => ?_)
          refine lv_aload hx hb dX11_paste_33 (lv_at hl 1 rfl) ?_
          refine kc_i (va_runV (As := []) (rest := []) ⟨hx, hb, hml, hown, hB⟩ (c42_X4_isThere l D ty H.size h3 v16 v17) (cwV 0 hB (bw_V mw_264 mw_265 mw_266 mw_142 mw_263) rfl rfl rfl (by decide +kernel) ⟨Nat.le_of_ble_eq_true rfl, Nat.le_of_ble_eq_true rfl⟩) (kp_V hK hP hD [3] (by decide) rfl 3 rfl rfl rfl) rfl rfl hl.1 rfl (lv_room (Nat.le_of_ble_eq_true rfl)) dX11_paste_35 ⟨Nat.le_of_ble_eq_true rfl, Nat.le_of_ble_eq_true rfl⟩) hP hD hS hA [3] [0, 1, 2, 4, 5] (wr := [(h0, .inr (11, [v0, v1, v2, v3, v4, .ref h1, v5, v6, v7, v8, v9, v10, v11, v12, v13])), (h1, .inl (ty 4, 4, .inr (.inr (.inr (.inr (va_up (va_up (va_up (va_up kn 0 (some h2)) 1 (some h3)) 2 (some h4)) 3 (some h5))))))), (h2, .inr (4, [.int (-1), v14, v15])), (h4, .inr (4, [.int (-1), v18, v19])), (h5, .inr (4, [.int (-1), v20, v21]))]) rfl rfl (by decide) (by decide) (fun r u H locs w14 hP hD hS => ?_)
          obtain ⟨rfl, rfl⟩ := w14
          have hP : va_P D vwCl [(h0, .inr (11, [v0, v1, v2, v3, v4, .ref h1, v5, v6, v7, v8, v9, v10, v11, v12, v13])), (h1, .inl (ty 4, 4, .inr (.inr (.inr (.inr (va_up (va_up (va_up (va_up kn 0 (some h2)) 1 (some h3)) 2 (some h4)) 3 (some h5))))))), (h2, .inr (4, [.int (-1), v14, v15])), (h4, .inr (4, [.int (-1), v18, v19])), (h5, .inr (4, [.int (-1), v20, v21])), (h3, .inr (4, [.int (-1), v16, v17]))] H := hP
          have hD : va_D A [(h0, .inr (11, [v0, v1, v2, v3, v4, .ref h1, v5, v6, v7, v8, v9, v10, v11, v12, v13])), (h1, .inl (ty 4, 4, .inr (.inr (.inr (.inr (va_up (va_up (va_up (va_up kn 0 (some h2)) 1 (some h3)) 2 (some h4)) 3 (some h5))))))), (h2, .inr (4, [.int (-1), v14, v15])), (h4, .inr (4, [.int (-1), v18, v19])), (h5, .inr (4, [.int (-1), v20, v21])), (h3, .inr (4, [.int (-1), v16, v17]))] := hD
          refine lv_if_eq (tgt := 49) hx hb dX11_paste_38 (by decide) (fun _ => ?_) (fun h9 => absurd (by decide) h9)
          refine lv_bipush (v := (-6)) hx hb dX11_paste_49 (by decide) ?_
          exact kr_z hx hb hr rfl hlocks hP hD hS [] [] (by decide) rfl (Or.inr ⟨(Or.inr (Or.inr (Or.inr (Or.inr (Or.inr (Or.inr (Or.inr (Or.inl ⟨c3, c6, rfl, rfl⟩)))))))), rfl, rfl⟩) (by decide) (by decide) dX11_paste_51
      · refine va_aldq hx hb hK.1 hP 1 4 rfl rfl (by unfold vp_in; decide) dX11_paste_22 ?_
        refine tp_v (v := .ref h4) rfl ?_
        refine lv_astore (lv' := [(6, .ref h4), (0, .ref h0), (1, .int 2), (2, .int p1), (3, .int p2), (4, .int p3), (5, .int p4)]) hx hb dX11_paste_23 hl (by decide) rfl (fun ls hl => ?_)
        refine lv_aload_n hx hb dX11_paste_25 rfl (lv_at hl 1 rfl) ?_
        refine va_get (D := D) (ci := 11) (v := .ref h1) (C := RX11) (T := TX11) (N := 15) hx hb hB inB_X11 hown hK.1 hP 0 rfl rfl 5 (by decide) (hB _ mw_89) (fun _ h9 => h9) rfl dX11_paste_26 ?_
        refine lv_iload_n hx hb dX11_paste_29 rfl (lv_at hl 4 rfl) ?_
        rcases ps_1 p2 c6 with rfl | rfl | rfl | rfl
        · refine va_aldq hx hb hK.1 hP 1 4 rfl rfl (by unfold vp_in; decide) dX11_paste_30 ?_
          refine tp_v (v := .ref h2) rfl ?_
          refine lv_astore (lv' := [(7, .ref h2), (6, .ref h4), (0, .ref h0), (1, .int 2), (2, .int p1), (3, .int 0), (4, .int p3), (5, .int p4)]) hx hb dX11_paste_31 hl (by decide) rfl (fun ls hl => ?_)
          refine lv_aload hx hb dX11_paste_33 (lv_at hl 1 rfl) ?_
          refine kc_i (va_runV (As := []) (rest := []) ⟨hx, hb, hml, hown, hB⟩ (c42_X4_isThere l D ty H.size h4 v18 v19) (cwV 0 hB (bw_V mw_264 mw_265 mw_266 mw_142 mw_263) rfl rfl rfl (by decide +kernel) ⟨Nat.le_of_ble_eq_true rfl, Nat.le_of_ble_eq_true rfl⟩) (kp_V hK hP hD [4] (by decide) rfl 4 rfl rfl rfl) rfl rfl hl.1 rfl (lv_room (Nat.le_of_ble_eq_true rfl)) dX11_paste_35 ⟨Nat.le_of_ble_eq_true rfl, Nat.le_of_ble_eq_true rfl⟩) hP hD hS hA [4] [0, 1, 2, 3, 5] (wr := [(h0, .inr (11, [v0, v1, v2, v3, v4, .ref h1, v5, v6, v7, v8, v9, v10, v11, v12, v13])), (h1, .inl (ty 4, 4, .inr (.inr (.inr (.inr (va_up (va_up (va_up (va_up kn 0 (some h2)) 1 (some h3)) 2 (some h4)) 3 (some h5))))))), (h2, .inr (4, [.int (-1), v14, v15])), (h3, .inr (4, [.int (-1), v16, v17])), (h5, .inr (4, [.int (-1), v20, v21]))]) rfl rfl (by decide) (by decide) (fun r u H locs w15 hP hD hS => ?_)
          obtain ⟨rfl, rfl⟩ := w15
          have hP : va_P D vwCl [(h0, .inr (11, [v0, v1, v2, v3, v4, .ref h1, v5, v6, v7, v8, v9, v10, v11, v12, v13])), (h1, .inl (ty 4, 4, .inr (.inr (.inr (.inr (va_up (va_up (va_up (va_up kn 0 (some h2)) 1 (some h3)) 2 (some h4)) 3 (some h5))))))), (h2, .inr (4, [.int (-1), v14, v15])), (h3, .inr (4, [.int (-1), v16, v17])), (h5, .inr (4, [.int (-1), v20, v21])), (h4, .inr (4, [.int (-1), v18, v19]))] H := hP
          have hD : va_D A [(h0, .inr (11, [v0, v1, v2, v3, v4, .ref h1, v5, v6, v7, v8, v9, v10, v11, v12, v13])), (h1, .inl (ty 4, 4, .inr (.inr (.inr (.inr (va_up (va_up (va_up (va_up kn 0 (some h2)) 1 (some h3)) 2 (some h4)) 3 (some h5))))))), (h2, .inr (4, [.int (-1), v14, v15])), (h3, .inr (4, [.int (-1), v16, v17])), (h5, .inr (4, [.int (-1), v20, v21])), (h4, .inr (4, [.int (-1), v18, v19]))] := hD
          refine lv_if_eq (tgt := 49) hx hb dX11_paste_38 (by decide) (fun _ => ?_) (fun h9 => absurd (by decide) h9)
          refine lv_bipush (v := (-6)) hx hb dX11_paste_49 (by decide) ?_
          exact kr_z hx hb hr rfl hlocks hP hD hS [] [] (by decide) rfl (Or.inr ⟨(Or.inr (Or.inr (Or.inr (Or.inr (Or.inr (Or.inr (Or.inr (Or.inr (Or.inl ⟨c3, c6, rfl, rfl⟩))))))))), rfl, rfl⟩) (by decide) (by decide) dX11_paste_51
        · refine va_aldq hx hb hK.1 hP 1 4 rfl rfl (by unfold vp_in; decide) dX11_paste_30 ?_
          refine tp_v (v := .ref h3) rfl ?_
          refine lv_astore (lv' := [(7, .ref h3), (6, .ref h4), (0, .ref h0), (1, .int 2), (2, .int p1), (3, .int 1), (4, .int p3), (5, .int p4)]) hx hb dX11_paste_31 hl (by decide) rfl (fun ls hl => ?_)
          refine lv_aload hx hb dX11_paste_33 (lv_at hl 1 rfl) ?_
          refine kc_i (va_runV (As := []) (rest := []) ⟨hx, hb, hml, hown, hB⟩ (c42_X4_isThere l D ty H.size h4 v18 v19) (cwV 0 hB (bw_V mw_264 mw_265 mw_266 mw_142 mw_263) rfl rfl rfl (by decide +kernel) ⟨Nat.le_of_ble_eq_true rfl, Nat.le_of_ble_eq_true rfl⟩) (kp_V hK hP hD [4] (by decide) rfl 4 rfl rfl rfl) rfl rfl hl.1 rfl (lv_room (Nat.le_of_ble_eq_true rfl)) dX11_paste_35 ⟨Nat.le_of_ble_eq_true rfl, Nat.le_of_ble_eq_true rfl⟩) hP hD hS hA [4] [0, 1, 2, 3, 5] (wr := [(h0, .inr (11, [v0, v1, v2, v3, v4, .ref h1, v5, v6, v7, v8, v9, v10, v11, v12, v13])), (h1, .inl (ty 4, 4, .inr (.inr (.inr (.inr (va_up (va_up (va_up (va_up kn 0 (some h2)) 1 (some h3)) 2 (some h4)) 3 (some h5))))))), (h2, .inr (4, [.int (-1), v14, v15])), (h3, .inr (4, [.int (-1), v16, v17])), (h5, .inr (4, [.int (-1), v20, v21]))]) rfl rfl (by decide) (by decide) (fun r u H locs w16 hP hD hS => ?_)
          obtain ⟨rfl, rfl⟩ := w16
          have hP : va_P D vwCl [(h0, .inr (11, [v0, v1, v2, v3, v4, .ref h1, v5, v6, v7, v8, v9, v10, v11, v12, v13])), (h1, .inl (ty 4, 4, .inr (.inr (.inr (.inr (va_up (va_up (va_up (va_up kn 0 (some h2)) 1 (some h3)) 2 (some h4)) 3 (some h5))))))), (h2, .inr (4, [.int (-1), v14, v15])), (h3, .inr (4, [.int (-1), v16, v17])), (h5, .inr (4, [.int (-1), v20, v21])), (h4, .inr (4, [.int (-1), v18, v19]))] H := hP
          have hD : va_D A [(h0, .inr (11, [v0, v1, v2, v3, v4, .ref h1, v5, v6, v7, v8, v9, v10, v11, v12, v13])), (h1, .inl (ty 4, 4, .inr (.inr (.inr (.inr (va_up (va_up (va_up (va_up kn 0 (some h2)) 1 (some h3)) 2 (some h4)) 3 (some h5))))))), (h2, .inr (4, [.int (-1), v14, v15])), (h3, .inr (4, [.int (-1), v16, v17])), (h5, .inr (4, [.int (-1), v20, v21])), (h4, .inr (4, [.int (-1), v18, v19]))] := hD
          refine lv_if_eq (tgt := 49) hx hb dX11_paste_38 (by decide) (fun _ => ?_) (fun h9 => absurd (by decide) h9)
          refine lv_bipush (v := (-6)) hx hb dX11_paste_49 (by decide) ?_
          exact kr_z hx hb hr rfl hlocks hP hD hS [] [] (by decide) rfl (Or.inr ⟨(Or.inr (Or.inr (Or.inr (Or.inr (Or.inr (Or.inr (Or.inr (Or.inr (Or.inr (Or.inl ⟨c3, c6, rfl, rfl⟩)))))))))), rfl, rfl⟩) (by decide) (by decide) dX11_paste_51
        · refine va_aldq hx hb hK.1 hP 1 4 rfl rfl (by unfold vp_in; decide) dX11_paste_30 ?_
          refine tp_v (v := .ref h4) rfl ?_
          refine lv_astore (lv' := [(7, .ref h4), (6, .ref h4), (0, .ref h0), (1, .int 2), (2, .int p1), (3, .int 2), (4, .int p3), (5, .int p4)]) hx hb dX11_paste_31 hl (by decide) rfl (fun ls hl => ?_)
          refine lv_aload hx hb dX11_paste_33 (lv_at hl 1 rfl) ?_
          refine kc_i (va_runV (As := []) (rest := []) ⟨hx, hb, hml, hown, hB⟩ (c42_X4_isThere l D ty H.size h4 v18 v19) (cwV 0 hB (bw_V mw_264 mw_265 mw_266 mw_142 mw_263) rfl rfl rfl (by decide +kernel) ⟨Nat.le_of_ble_eq_true rfl, Nat.le_of_ble_eq_true rfl⟩) (kp_V hK hP hD [4] (by decide) rfl 4 rfl rfl rfl) rfl rfl hl.1 rfl (lv_room (Nat.le_of_ble_eq_true rfl)) dX11_paste_35 ⟨Nat.le_of_ble_eq_true rfl, Nat.le_of_ble_eq_true rfl⟩) hP hD hS hA [4] [0, 1, 2, 3, 5] (wr := [(h0, .inr (11, [v0, v1, v2, v3, v4, .ref h1, v5, v6, v7, v8, v9, v10, v11, v12, v13])), (h1, .inl (ty 4, 4, .inr (.inr (.inr (.inr (va_up (va_up (va_up (va_up kn 0 (some h2)) 1 (some h3)) 2 (some h4)) 3 (some h5))))))), (h2, .inr (4, [.int (-1), v14, v15])), (h3, .inr (4, [.int (-1), v16, v17])), (h5, .inr (4, [.int (-1), v20, v21]))]) rfl rfl (by decide) (by decide) (fun r u H locs w17 hP hD hS => ?_)
          obtain ⟨rfl, rfl⟩ := w17
          have hP : va_P D vwCl [(h0, .inr (11, [v0, v1, v2, v3, v4, .ref h1, v5, v6, v7, v8, v9, v10, v11, v12, v13])), (h1, .inl (ty 4, 4, .inr (.inr (.inr (.inr (va_up (va_up (va_up (va_up kn 0 (some h2)) 1 (some h3)) 2 (some h4)) 3 (some h5))))))), (h2, .inr (4, [.int (-1), v14, v15])), (h3, .inr (4, [.int (-1), v16, v17])), (h5, .inr (4, [.int (-1), v20, v21])), (h4, .inr (4, [.int (-1), v18, v19]))] H := hP
          have hD : va_D A [(h0, .inr (11, [v0, v1, v2, v3, v4, .ref h1, v5, v6, v7, v8, v9, v10, v11, v12, v13])), (h1, .inl (ty 4, 4, .inr (.inr (.inr (.inr (va_up (va_up (va_up (va_up kn 0 (some h2)) 1 (some h3)) 2 (some h4)) 3 (some h5))))))), (h2, .inr (4, [.int (-1), v14, v15])), (h3, .inr (4, [.int (-1), v16, v17])), (h5, .inr (4, [.int (-1), v20, v21])), (h4, .inr (4, [.int (-1), v18, v19]))] := hD
          refine lv_if_eq (tgt := 49) hx hb dX11_paste_38 (by decide) (fun _ => ?_) (fun h9 => absurd (by decide) h9)
          refine lv_bipush (v := (-6)) hx hb dX11_paste_49 (by decide) ?_
          exact kr_z hx hb hr rfl hlocks hP hD hS [] [] (by decide) rfl (Or.inr ⟨(Or.inr (Or.inr (Or.inr (Or.inr (Or.inr (Or.inr (Or.inr (Or.inr (Or.inr (Or.inr (Or.inl ⟨c3, c6, rfl, rfl⟩))))))))))), rfl, rfl⟩) (by decide) (by decide) dX11_paste_51
        · refine va_aldq hx hb hK.1 hP 1 4 rfl rfl (by unfold vp_in; decide) dX11_paste_30 ?_
          refine tp_v (v := .ref h5) rfl ?_
          refine lv_astore (lv' := [(7, .ref h5), (6, .ref h4), (0, .ref h0), (1, .int 2), (2, .int p1), (3, .int 3), (4, .int p3), (5, .int p4)]) hx hb dX11_paste_31 hl (by decide) rfl (fun ls hl => ?_)
          refine lv_aload hx hb dX11_paste_33 (lv_at hl 1 rfl) ?_
          refine kc_i (va_runV (As := []) (rest := []) ⟨hx, hb, hml, hown, hB⟩ (c42_X4_isThere l D ty H.size h4 v18 v19) (cwV 0 hB (bw_V mw_264 mw_265 mw_266 mw_142 mw_263) rfl rfl rfl (by decide +kernel) ⟨Nat.le_of_ble_eq_true rfl, Nat.le_of_ble_eq_true rfl⟩) (kp_V hK hP hD [4] (by decide) rfl 4 rfl rfl rfl) rfl rfl hl.1 rfl (lv_room (Nat.le_of_ble_eq_true rfl)) dX11_paste_35 ⟨Nat.le_of_ble_eq_true rfl, Nat.le_of_ble_eq_true rfl⟩) hP hD hS hA [4] [0, 1, 2, 3, 5] (wr := [(h0, .inr (11, [v0, v1, v2, v3, v4, .ref h1, v5, v6, v7, v8, v9, v10, v11, v12, v13])), (h1, .inl (ty 4, 4, .inr (.inr (.inr (.inr (va_up (va_up (va_up (va_up kn 0 (some h2)) 1 (some h3)) 2 (some h4)) 3 (some h5))))))), (h2, .inr (4, [.int (-1), v14, v15])), (h3, .inr (4, [.int (-1), v16, v17])), (h5, .inr (4, [.int (-1), v20, v21]))]) rfl rfl (by decide) (by decide) (fun r u H locs w18 hP hD hS => ?_)
          obtain ⟨rfl, rfl⟩ := w18
          have hP : va_P D vwCl [(h0, .inr (11, [v0, v1, v2, v3, v4, .ref h1, v5, v6, v7, v8, v9, v10, v11, v12, v13])), (h1, .inl (ty 4, 4, .inr (.inr (.inr (.inr (va_up (va_up (va_up (va_up kn 0 (some h2)) 1 (some h3)) 2 (some h4)) 3 (some h5))))))), (h2, .inr (4, [.int (-1), v14, v15])), (h3, .inr (4, [.int (-1), v16, v17])), (h5, .inr (4, [.int (-1), v20, v21])), (h4, .inr (4, [.int (-1), v18, v19]))] H := hP
          have hD : va_D A [(h0, .inr (11, [v0, v1, v2, v3, v4, .ref h1, v5, v6, v7, v8, v9, v10, v11, v12, v13])), (h1, .inl (ty 4, 4, .inr (.inr (.inr (.inr (va_up (va_up (va_up (va_up kn 0 (some h2)) 1 (some h3)) 2 (some h4)) 3 (some h5))))))), (h2, .inr (4, [.int (-1), v14, v15])), (h3, .inr (4, [.int (-1), v16, v17])), (h5, .inr (4, [.int (-1), v20, v21])), (h4, .inr (4, [.int (-1), v18, v19]))] := hD
          refine lv_if_eq (tgt := 49) hx hb dX11_paste_38 (by decide) (fun _ => ?_) (fun h9 => absurd (by decide) h9)
          refine lv_bipush (v := (-6)) hx hb dX11_paste_49 (by decide) ?_
          exact kr_z hx hb hr rfl hlocks hP hD hS [] [] (by decide) rfl (Or.inr ⟨(Or.inr (Or.inr (Or.inr (Or.inr (Or.inr (Or.inr (Or.inr (Or.inr (Or.inr (Or.inr (Or.inr (Or.inl ⟨c3, c6, rfl, rfl⟩)))))))))))), rfl, rfl⟩) (by decide) (by decide) dX11_paste_51
      · refine va_aldq hx hb hK.1 hP 1 4 rfl rfl (by unfold vp_in; decide) dX11_paste_22 ?_
        refine tp_v (v := .ref h5) rfl ?_
        refine lv_astore (lv' := [(6, .ref h5), (0, .ref h0), (1, .int 3), (2, .int p1), (3, .int p2), (4, .int p3), (5, .int p4)]) hx hb dX11_paste_23 hl (by decide) rfl (fun ls hl => ?_)
        refine lv_aload_n hx hb dX11_paste_25 rfl (lv_at hl 1 rfl) ?_
        refine va_get (D := D) (ci := 11) (v := .ref h1) (C := RX11) (T := TX11) (N := 15) hx hb hB inB_X11 hown hK.1 hP 0 rfl rfl 5 (by decide) (hB _ mw_89) (fun _ h9 => h9) rfl dX11_paste_26 ?_
        refine lv_iload_n hx hb dX11_paste_29 rfl (lv_at hl 4 rfl) ?_
        rcases ps_1 p2 c6 with rfl | rfl | rfl | rfl
        · refine va_aldq hx hb hK.1 hP 1 4 rfl rfl (by unfold vp_in; decide) dX11_paste_30 ?_
          refine tp_v (v := .ref h2) rfl ?_
          refine lv_astore (lv' := [(7, .ref h2), (6, .ref h5), (0, .ref h0), (1, .int 3), (2, .int p1), (3, .int 0), (4, .int p3), (5, .int p4)]) hx hb dX11_paste_31 hl (by decide) rfl (fun ls hl => ?_)
          refine lv_aload hx hb dX11_paste_33 (lv_at hl 1 rfl) ?_
          refine kc_i (va_runV (As := []) (rest := []) ⟨hx, hb, hml, hown, hB⟩ (c42_X4_isThere l D ty H.size h5 v20 v21) (cwV 0 hB (bw_V mw_264 mw_265 mw_266 mw_142 mw_263) rfl rfl rfl (by decide +kernel) ⟨Nat.le_of_ble_eq_true rfl, Nat.le_of_ble_eq_true rfl⟩) (kp_V hK hP hD [5] (by decide) rfl 5 rfl rfl rfl) rfl rfl hl.1 rfl (lv_room (Nat.le_of_ble_eq_true rfl)) dX11_paste_35 ⟨Nat.le_of_ble_eq_true rfl, Nat.le_of_ble_eq_true rfl⟩) hP hD hS hA [5] [0, 1, 2, 3, 4] (wr := [(h0, .inr (11, [v0, v1, v2, v3, v4, .ref h1, v5, v6, v7, v8, v9, v10, v11, v12, v13])), (h1, .inl (ty 4, 4, .inr (.inr (.inr (.inr (va_up (va_up (va_up (va_up kn 0 (some h2)) 1 (some h3)) 2 (some h4)) 3 (some h5))))))), (h2, .inr (4, [.int (-1), v14, v15])), (h3, .inr (4, [.int (-1), v16, v17])), (h4, .inr (4, [.int (-1), v18, v19]))]) rfl rfl (by decide) (by decide) (fun r u H locs w19 hP hD hS => ?_)
          obtain ⟨rfl, rfl⟩ := w19
          have hP : va_P D vwCl [(h0, .inr (11, [v0, v1, v2, v3, v4, .ref h1, v5, v6, v7, v8, v9, v10, v11, v12, v13])), (h1, .inl (ty 4, 4, .inr (.inr (.inr (.inr (va_up (va_up (va_up (va_up kn 0 (some h2)) 1 (some h3)) 2 (some h4)) 3 (some h5))))))), (h2, .inr (4, [.int (-1), v14, v15])), (h3, .inr (4, [.int (-1), v16, v17])), (h4, .inr (4, [.int (-1), v18, v19])), (h5, .inr (4, [.int (-1), v20, v21]))] H := hP
          have hD : va_D A [(h0, .inr (11, [v0, v1, v2, v3, v4, .ref h1, v5, v6, v7, v8, v9, v10, v11, v12, v13])), (h1, .inl (ty 4, 4, .inr (.inr (.inr (.inr (va_up (va_up (va_up (va_up kn 0 (some h2)) 1 (some h3)) 2 (some h4)) 3 (some h5))))))), (h2, .inr (4, [.int (-1), v14, v15])), (h3, .inr (4, [.int (-1), v16, v17])), (h4, .inr (4, [.int (-1), v18, v19])), (h5, .inr (4, [.int (-1), v20, v21]))] := hD
          refine lv_if_eq (tgt := 49) hx hb dX11_paste_38 (by decide) (fun _ => ?_) (fun h9 => absurd (by decide) h9)
          refine lv_bipush (v := (-6)) hx hb dX11_paste_49 (by decide) ?_
          exact kr_z hx hb hr rfl hlocks hP hD hS [] [] (by decide) rfl (Or.inr ⟨(Or.inr (Or.inr (Or.inr (Or.inr (Or.inr (Or.inr (Or.inr (Or.inr (Or.inr (Or.inr (Or.inr (Or.inr (Or.inl ⟨c3, c6, rfl, rfl⟩))))))))))))), rfl, rfl⟩) (by decide) (by decide) dX11_paste_51
        · refine va_aldq hx hb hK.1 hP 1 4 rfl rfl (by unfold vp_in; decide) dX11_paste_30 ?_
          refine tp_v (v := .ref h3) rfl ?_
          refine lv_astore (lv' := [(7, .ref h3), (6, .ref h5), (0, .ref h0), (1, .int 3), (2, .int p1), (3, .int 1), (4, .int p3), (5, .int p4)]) hx hb dX11_paste_31 hl (by decide) rfl (fun ls hl => ?_)
          refine lv_aload hx hb dX11_paste_33 (lv_at hl 1 rfl) ?_
          refine kc_i (va_runV (As := []) (rest := []) ⟨hx, hb, hml, hown, hB⟩ (c42_X4_isThere l D ty H.size h5 v20 v21) (cwV 0 hB (bw_V mw_264 mw_265 mw_266 mw_142 mw_263) rfl rfl rfl (by decide +kernel) ⟨Nat.le_of_ble_eq_true rfl, Nat.le_of_ble_eq_true rfl⟩) (kp_V hK hP hD [5] (by decide) rfl 5 rfl rfl rfl) rfl rfl hl.1 rfl (lv_room (Nat.le_of_ble_eq_true rfl)) dX11_paste_35 ⟨Nat.le_of_ble_eq_true rfl, Nat.le_of_ble_eq_true rfl⟩) hP hD hS hA [5] [0, 1, 2, 3, 4] (wr := [(h0, .inr (11, [v0, v1, v2, v3, v4, .ref h1, v5, v6, v7, v8, v9, v10, v11, v12, v13])), (h1, .inl (ty 4, 4, .inr (.inr (.inr (.inr (va_up (va_up (va_up (va_up kn 0 (some h2)) 1 (some h3)) 2 (some h4)) 3 (some h5))))))), (h2, .inr (4, [.int (-1), v14, v15])), (h3, .inr (4, [.int (-1), v16, v17])), (h4, .inr (4, [.int (-1), v18, v19]))]) rfl rfl (by decide) (by decide) (fun r u H locs w20 hP hD hS => ?_)
          obtain ⟨rfl, rfl⟩ := w20
          have hP : va_P D vwCl [(h0, .inr (11, [v0, v1, v2, v3, v4, .ref h1, v5, v6, v7, v8, v9, v10, v11, v12, v13])), (h1, .inl (ty 4, 4, .inr (.inr (.inr (.inr (va_up (va_up (va_up (va_up kn 0 (some h2)) 1 (some h3)) 2 (some h4)) 3 (some h5))))))), (h2, .inr (4, [.int (-1), v14, v15])), (h3, .inr (4, [.int (-1), v16, v17])), (h4, .inr (4, [.int (-1), v18, v19])), (h5, .inr (4, [.int (-1), v20, v21]))] H := hP
          have hD : va_D A [(h0, .inr (11, [v0, v1, v2, v3, v4, .ref h1, v5, v6, v7, v8, v9, v10, v11, v12, v13])), (h1, .inl (ty 4, 4, .inr (.inr (.inr (.inr (va_up (va_up (va_up (va_up kn 0 (some h2)) 1 (some h3)) 2 (some h4)) 3 (some h5))))))), (h2, .inr (4, [.int (-1), v14, v15])), (h3, .inr (4, [.int (-1), v16, v17])), (h4, .inr (4, [.int (-1), v18, v19])), (h5, .inr (4, [.int (-1), v20, v21]))] := hD
          refine lv_if_eq (tgt := 49) hx hb dX11_paste_38 (by decide) (fun _ => ?_) (fun h9 => absurd (by decide) h9)
          refine lv_bipush (v := (-6)) hx hb dX11_paste_49 (by decide) ?_
          exact kr_z hx hb hr rfl hlocks hP hD hS [] [] (by decide) rfl (Or.inr ⟨(Or.inr (Or.inr (Or.inr (Or.inr (Or.inr (Or.inr (Or.inr (Or.inr (Or.inr (Or.inr (Or.inr (Or.inr (Or.inr (Or.inl ⟨c3, c6, rfl, rfl⟩)))))))))))))), rfl, rfl⟩) (by decide) (by decide) dX11_paste_51
        · refine va_aldq hx hb hK.1 hP 1 4 rfl rfl (by unfold vp_in; decide) dX11_paste_30 ?_
          refine tp_v (v := .ref h4) rfl ?_
          refine lv_astore (lv' := [(7, .ref h4), (6, .ref h5), (0, .ref h0), (1, .int 3), (2, .int p1), (3, .int 2), (4, .int p3), (5, .int p4)]) hx hb dX11_paste_31 hl (by decide) rfl (fun ls hl => ?_)
          refine lv_aload hx hb dX11_paste_33 (lv_at hl 1 rfl) ?_
          refine kc_i (va_runV (As := []) (rest := []) ⟨hx, hb, hml, hown, hB⟩ (c42_X4_isThere l D ty H.size h5 v20 v21) (cwV 0 hB (bw_V mw_264 mw_265 mw_266 mw_142 mw_263) rfl rfl rfl (by decide +kernel) ⟨Nat.le_of_ble_eq_true rfl, Nat.le_of_ble_eq_true rfl⟩) (kp_V hK hP hD [5] (by decide) rfl 5 rfl rfl rfl) rfl rfl hl.1 rfl (lv_room (Nat.le_of_ble_eq_true rfl)) dX11_paste_35 ⟨Nat.le_of_ble_eq_true rfl, Nat.le_of_ble_eq_true rfl⟩) hP hD hS hA [5] [0, 1, 2, 3, 4] (wr := [(h0, .inr (11, [v0, v1, v2, v3, v4, .ref h1, v5, v6, v7, v8, v9, v10, v11, v12, v13])), (h1, .inl (ty 4, 4, .inr (.inr (.inr (.inr (va_up (va_up (va_up (va_up kn 0 (some h2)) 1 (some h3)) 2 (some h4)) 3 (some h5))))))), (h2, .inr (4, [.int (-1), v14, v15])), (h3, .inr (4, [.int (-1), v16, v17])), (h4, .inr (4, [.int (-1), v18, v19]))]) rfl rfl (by decide) (by decide) (fun r u H locs w21 hP hD hS => ?_)
          obtain ⟨rfl, rfl⟩ := w21
          have hP : va_P D vwCl [(h0, .inr (11, [v0, v1, v2, v3, v4, .ref h1, v5, v6, v7, v8, v9, v10, v11, v12, v13])), (h1, .inl (ty 4, 4, .inr (.inr (.inr (.inr (va_up (va_up (va_up (va_up kn 0 (some h2)) 1 (some h3)) 2 (some h4)) 3 (some h5))))))), (h2, .inr (4, [.int (-1), v14, v15])), (h3, .inr (4, [.int (-1), v16, v17])), (h4, .inr (4, [.int (-1), v18, v19])), (h5, .inr (4, [.int (-1), v20, v21]))] H := hP
          have hD : va_D A [(h0, .inr (11, [v0, v1, v2, v3, v4, .ref h1, v5, v6, v7, v8, v9, v10, v11, v12, v13])), (h1, .inl (ty 4, 4, .inr (.inr (.inr (.inr (va_up (va_up (va_up (va_up kn 0 (some h2)) 1 (some h3)) 2 (some h4)) 3 (some h5))))))), (h2, .inr (4, [.int (-1), v14, v15])), (h3, .inr (4, [.int (-1), v16, v17])), (h4, .inr (4, [.int (-1), v18, v19])), (h5, .inr (4, [.int (-1), v20, v21]))] := hD
          refine lv_if_eq (tgt := 49) hx hb dX11_paste_38 (by decide) (fun _ => ?_) (fun h9 => absurd (by decide) h9)
          refine lv_bipush (v := (-6)) hx hb dX11_paste_49 (by decide) ?_
          exact kr_z hx hb hr rfl hlocks hP hD hS [] [] (by decide) rfl (Or.inr ⟨(Or.inr (Or.inr (Or.inr (Or.inr (Or.inr (Or.inr (Or.inr (Or.inr (Or.inr (Or.inr (Or.inr (Or.inr (Or.inr (Or.inr (Or.inl ⟨c3, c6, rfl, rfl⟩))))))))))))))), rfl, rfl⟩) (by decide) (by decide) dX11_paste_51
        · refine va_aldq hx hb hK.1 hP 1 4 rfl rfl (by unfold vp_in; decide) dX11_paste_30 ?_
          refine tp_v (v := .ref h5) rfl ?_
          refine lv_astore (lv' := [(7, .ref h5), (6, .ref h5), (0, .ref h0), (1, .int 3), (2, .int p1), (3, .int 3), (4, .int p3), (5, .int p4)]) hx hb dX11_paste_31 hl (by decide) rfl (fun ls hl => ?_)
          refine lv_aload hx hb dX11_paste_33 (lv_at hl 1 rfl) ?_
          refine kc_i (va_runV (As := []) (rest := []) ⟨hx, hb, hml, hown, hB⟩ (c42_X4_isThere l D ty H.size h5 v20 v21) (cwV 0 hB (bw_V mw_264 mw_265 mw_266 mw_142 mw_263) rfl rfl rfl (by decide +kernel) ⟨Nat.le_of_ble_eq_true rfl, Nat.le_of_ble_eq_true rfl⟩) (kp_V hK hP hD [5] (by decide) rfl 5 rfl rfl rfl) rfl rfl hl.1 rfl (lv_room (Nat.le_of_ble_eq_true rfl)) dX11_paste_35 ⟨Nat.le_of_ble_eq_true rfl, Nat.le_of_ble_eq_true rfl⟩) hP hD hS hA [5] [0, 1, 2, 3, 4] (wr := [(h0, .inr (11, [v0, v1, v2, v3, v4, .ref h1, v5, v6, v7, v8, v9, v10, v11, v12, v13])), (h1, .inl (ty 4, 4, .inr (.inr (.inr (.inr (va_up (va_up (va_up (va_up kn 0 (some h2)) 1 (some h3)) 2 (some h4)) 3 (some h5))))))), (h2, .inr (4, [.int (-1), v14, v15])), (h3, .inr (4, [.int (-1), v16, v17])), (h4, .inr (4, [.int (-1), v18, v19]))]) rfl rfl (by decide) (by decide) (fun r u H locs w22 hP hD hS => ?_)
          obtain ⟨rfl, rfl⟩ := w22
          have hP : va_P D vwCl [(h0, .inr (11, [v0, v1, v2, v3, v4, .ref h1, v5, v6, v7, v8, v9, v10, v11, v12, v13])), (h1, .inl (ty 4, 4, .inr (.inr (.inr (.inr (va_up (va_up (va_up (va_up kn 0 (some h2)) 1 (some h3)) 2 (some h4)) 3 (some h5))))))), (h2, .inr (4, [.int (-1), v14, v15])), (h3, .inr (4, [.int (-1), v16, v17])), (h4, .inr (4, [.int (-1), v18, v19])), (h5, .inr (4, [.int (-1), v20, v21]))] H := hP
          have hD : va_D A [(h0, .inr (11, [v0, v1, v2, v3, v4, .ref h1, v5, v6, v7, v8, v9, v10, v11, v12, v13])), (h1, .inl (ty 4, 4, .inr (.inr (.inr (.inr (va_up (va_up (va_up (va_up kn 0 (some h2)) 1 (some h3)) 2 (some h4)) 3 (some h5))))))), (h2, .inr (4, [.int (-1), v14, v15])), (h3, .inr (4, [.int (-1), v16, v17])), (h4, .inr (4, [.int (-1), v18, v19])), (h5, .inr (4, [.int (-1), v20, v21]))] := hD
          refine lv_if_eq (tgt := 49) hx hb dX11_paste_38 (by decide) (fun _ => ?_) (fun h9 => absurd (by decide) h9)
          refine lv_bipush (v := (-6)) hx hb dX11_paste_49 (by decide) ?_
          exact kr_z hx hb hr rfl hlocks hP hD hS [] [] (by decide) rfl (Or.inr ⟨(Or.inr (Or.inr (Or.inr (Or.inr (Or.inr (Or.inr (Or.inr (Or.inr (Or.inr (Or.inr (Or.inr (Or.inr (Or.inr (Or.inr (Or.inr ⟨c3, c6, rfl, rfl⟩))))))))))))))), rfl, rfl⟩) (by decide) (by decide) dX11_paste_51
set_option maxHeartbeats 4000000 in
set_option maxRecDepth 100000 in
theorem c140_X12_feed (l : Launch) (D : va_G) (ty : Nat → ClassId) (sz : Nat) (h0 : Nat) (h1 : Nat) (h2 : Nat) (p0 : Int32) (p1 : Int32) (p2 : Int32) (p3 : Int32) (p4 : Int32) (v0 : Value) (v1 : Value) (v2 : Value) (v3 : Value) (v4 : Value) (v5 : Value) (v6 : Value) (v7 : Value) (v8 : Value) (v9 : Value) (v10 : Value) (v11 : Value) (v12 : Value) (v13 : Value) (v14 : Value) (v15 : Value) (v16 : Value) (v17 : Value) (v18 : Value) (v19 : Value) (v20 : Value) (v21 : Value) (v22 : Value) (v23 : Value) (v24 : Value) (v25 : Value) (v26 : Value) (v27 : Value) (v28 : Value) (v29 : Value) (v30 : Value) (v31 : Value) (v32 : Value) (v33 : Value) (v34 : Value) (f0 : Nat → Int32) (f1 : Nat → Int32) : cQ l yX12_feed cX12_feed 7 (some .int) 0 0 [.ref h0, .int p0, .int p1, .int p2, .int p3, .int p4] D ty [(h0, .inr (12, [v0, v1, v2, v3, .ref h2, .int 0, .ref h1, v4, v5, v6, v7, v8, v9, v10, v11, v12, v13, v14, v15, v16, v17, v18, v19, v20, v21, v22, v23, v24, v25, v26, v27, v28, v29, v30, v31, v32, v33, v34])), (h1, .inl (ty 1, 5, .inl f0)), (h2, .inl (ty 0, 800, .inl f1))] sz (qI (fun (r : Int32) (u : va_W) => 20 = r ∧ [] = u)) 0 0 := by
  refine cQ.of (by decide) (Nat.le_of_ble_eq_true rfl) (fun p e s m below meth c A ls C hsz hP hK hD hA hl => ?_)
  obtain ⟨hx, hb, hml, hown, hB, hr, hlocks, hin⟩ := C
  have hown : s.vm.findClass RX12 = some m.cls := hown
  have hS : va_S A s.heap s.heap [] := va_S.rf
  have hl : lv_has ls 7 [(0, .ref h0), (1, .int p0), (2, .int p1), (3, .int p2), (4, .int p3), (5, .int p4)] := hl
  refine lv_aload_n hx hb dX12_feed_0 rfl (lv_at hl 0 rfl) ?_
  refine va_get (D := D) (ci := 12) (v := .int 0) (C := RX12) (T := TX12) (N := 38) hx hb hB inB_X12 hown hK.1 hP 0 rfl rfl 5 (by decide) (hB _ mw_443) (fun _ h9 => h9) rfl dX12_feed_1 ?_
  refine lv_bipush (v := 20) hx hb dX12_feed_4 (by decide) ?_
  refine lv_iadd hx hb dX12_feed_6 ?_
  refine tp_i (v := 20) (by decide) ?_
  refine lv_sipush (v := 800) hx hb dX12_feed_7 (by decide) ?_
  refine lv_icmp_le (tgt := 15) hx hb dX12_feed_10 (by decide) (fun _ => ?_) (fun h9 => absurd (by decide) h9)
  refine lv_aload_n hx hb dX12_feed_15 rfl (lv_at hl 0 rfl) ?_
  refine va_get (D := D) (ci := 12) (v := .ref h1) (C := RX12) (T := TX12) (N := 38) hx hb hB inB_X12 hown hK.1 hP 0 rfl rfl 6 (by decide) (hB _ mw_187) (fun _ h9 => h9) rfl dX12_feed_16 ?_
  refine lv_iconst (v := 0) hx hb dX12_feed_19 (by decide) ?_
  refine lv_iload_n hx hb dX12_feed_20 rfl (lv_at hl 1 rfl) ?_
  refine wy_iast hx hb hK hP hD hS 1 1 rfl rfl (by unfold vp_in; decide) dX12_feed_21 (j := 0) (by decide) (ws' := [(h0, .inr (12, [v0, v1, v2, v3, .ref h2, .int 0, .ref h1, v4, v5, v6, v7, v8, v9, v10, v11, v12, v13, v14, v15, v16, v17, v18, v19, v20, v21, v22, v23, v24, v25, v26, v27, v28, v29, v30, v31, v32, v33, v34])), (h1, .inl (ty 1, 5, .inl (upd f0 0 p0))), (h2, .inl (ty 0, 800, .inl f1))]) rfl (fun H locs hP hD hS => ?_)
  refine lv_aload_n hx hb dX12_feed_22 rfl (lv_at hl 0 rfl) ?_
  refine va_get (D := D) (ci := 12) (v := .ref h1) (C := RX12) (T := TX12) (N := 38) hx hb hB inB_X12 hown hK.1 hP 0 rfl rfl 6 (by decide) (hB _ mw_187) (fun _ h9 => h9) rfl dX12_feed_23 ?_
  refine lv_iconst (v := 1) hx hb dX12_feed_26 (by decide) ?_
  refine lv_iload_n hx hb dX12_feed_27 rfl (lv_at hl 2 rfl) ?_
  refine wy_iast hx hb hK hP hD hS 1 1 rfl rfl (by unfold vp_in; decide) dX12_feed_28 (j := 1) (by decide) (ws' := [(h0, .inr (12, [v0, v1, v2, v3, .ref h2, .int 0, .ref h1, v4, v5, v6, v7, v8, v9, v10, v11, v12, v13, v14, v15, v16, v17, v18, v19, v20, v21, v22, v23, v24, v25, v26, v27, v28, v29, v30, v31, v32, v33, v34])), (h1, .inl (ty 1, 5, .inl (upd (upd f0 0 p0) 1 p1))), (h2, .inl (ty 0, 800, .inl f1))]) rfl (fun H locs hP hD hS => ?_)
  refine lv_aload_n hx hb dX12_feed_29 rfl (lv_at hl 0 rfl) ?_
  refine va_get (D := D) (ci := 12) (v := .ref h1) (C := RX12) (T := TX12) (N := 38) hx hb hB inB_X12 hown hK.1 hP 0 rfl rfl 6 (by decide) (hB _ mw_187) (fun _ h9 => h9) rfl dX12_feed_30 ?_
  refine lv_iconst (v := 2) hx hb dX12_feed_33 (by decide) ?_
  refine lv_iload_n hx hb dX12_feed_34 rfl (lv_at hl 3 rfl) ?_
  refine wy_iast hx hb hK hP hD hS 1 1 rfl rfl (by unfold vp_in; decide) dX12_feed_35 (j := 2) (by decide) (ws' := [(h0, .inr (12, [v0, v1, v2, v3, .ref h2, .int 0, .ref h1, v4, v5, v6, v7, v8, v9, v10, v11, v12, v13, v14, v15, v16, v17, v18, v19, v20, v21, v22, v23, v24, v25, v26, v27, v28, v29, v30, v31, v32, v33, v34])), (h1, .inl (ty 1, 5, .inl (upd (upd (upd f0 0 p0) 1 p1) 2 p2))), (h2, .inl (ty 0, 800, .inl f1))]) rfl (fun H locs hP hD hS => ?_)
  refine lv_aload_n hx hb dX12_feed_36 rfl (lv_at hl 0 rfl) ?_
  refine va_get (D := D) (ci := 12) (v := .ref h1) (C := RX12) (T := TX12) (N := 38) hx hb hB inB_X12 hown hK.1 hP 0 rfl rfl 6 (by decide) (hB _ mw_187) (fun _ h9 => h9) rfl dX12_feed_37 ?_
  refine lv_iconst (v := 3) hx hb dX12_feed_40 (by decide) ?_
  refine lv_iload hx hb dX12_feed_41 (lv_at hl 4 rfl) ?_
  refine wy_iast hx hb hK hP hD hS 1 1 rfl rfl (by unfold vp_in; decide) dX12_feed_43 (j := 3) (by decide) (ws' := [(h0, .inr (12, [v0, v1, v2, v3, .ref h2, .int 0, .ref h1, v4, v5, v6, v7, v8, v9, v10, v11, v12, v13, v14, v15, v16, v17, v18, v19, v20, v21, v22, v23, v24, v25, v26, v27, v28, v29, v30, v31, v32, v33, v34])), (h1, .inl (ty 1, 5, .inl (upd (upd (upd (upd f0 0 p0) 1 p1) 2 p2) 3 p3))), (h2, .inl (ty 0, 800, .inl f1))]) rfl (fun H locs hP hD hS => ?_)
  refine lv_aload_n hx hb dX12_feed_44 rfl (lv_at hl 0 rfl) ?_
  refine va_get (D := D) (ci := 12) (v := .ref h1) (C := RX12) (T := TX12) (N := 38) hx hb hB inB_X12 hown hK.1 hP 0 rfl rfl 6 (by decide) (hB _ mw_187) (fun _ h9 => h9) rfl dX12_feed_45 ?_
  refine lv_iconst (v := 4) hx hb dX12_feed_48 (by decide) ?_
  refine lv_iload hx hb dX12_feed_49 (lv_at hl 5 rfl) ?_
  refine wy_iast hx hb hK hP hD hS 1 1 rfl rfl (by unfold vp_in; decide) dX12_feed_51 (j := 4) (by decide) (ws' := [(h0, .inr (12, [v0, v1, v2, v3, .ref h2, .int 0, .ref h1, v4, v5, v6, v7, v8, v9, v10, v11, v12, v13, v14, v15, v16, v17, v18, v19, v20, v21, v22, v23, v24, v25, v26, v27, v28, v29, v30, v31, v32, v33, v34])), (h1, .inl (ty 1, 5, .inl (upd (upd (upd (upd (upd f0 0 p0) 1 p1) 2 p2) 3 p3) 4 p4))), (h2, .inl (ty 0, 800, .inl f1))]) rfl (fun H locs hP hD hS => ?_)
  refine lv_iconst (v := 0) hx hb dX12_feed_52 (by decide) ?_
  refine lv_istore (lv' := [(6, .int 0), (0, .ref h0), (1, .int p0), (2, .int p1), (3, .int p2), (4, .int p3), (5, .int p4)]) hx hb dX12_feed_53 hl (by decide) rfl (fun ls hl => ?_)
  refine lv_iload hx hb dX12_feed_55 (lv_at hl 0 rfl) ?_
  refine lv_bipush (v := 20) hx hb dX12_feed_57 (by decide) ?_
  refine lv_icmp_ge (tgt := 101) hx hb dX12_feed_59 (by decide) (fun h9 => absurd h9 (by decide)) (fun _ => ?_)
  refine lv_aload_n hx hb dX12_feed_62 rfl (lv_at hl 1 rfl) ?_
  refine va_get (D := D) (ci := 12) (v := .ref h2) (C := RX12) (T := TX12) (N := 38) hx hb hB inB_X12 hown hK.1 hP 0 rfl rfl 4 (by decide) (hB _ mw_186) (fun _ h9 => h9) rfl dX12_feed_63 ?_
  refine lv_aload_n hx hb dX12_feed_66 rfl (lv_at hl 1 rfl) ?_
  refine va_get (D := D) (ci := 12) (v := .int 0) (C := RX12) (T := TX12) (N := 38) hx hb hB inB_X12 hown hK.1 hP 0 rfl rfl 5 (by decide) (hB _ mw_443) (fun _ h9 => h9) rfl dX12_feed_67 ?_
  refine lv_iload hx hb dX12_feed_70 (lv_at hl 0 rfl) ?_
  refine lv_iadd hx hb dX12_feed_72 ?_
  refine tp_i (v := 0) (by decide) ?_
  refine lv_aload_n hx hb dX12_feed_73 rfl (lv_at hl 1 rfl) ?_
  refine va_get (D := D) (ci := 12) (v := .ref h1) (C := RX12) (T := TX12) (N := 38) hx hb hB inB_X12 hown hK.1 hP 0 rfl rfl 6 (by decide) (hB _ mw_187) (fun _ h9 => h9) rfl dX12_feed_74 ?_
  refine lv_iload hx hb dX12_feed_77 (lv_at hl 0 rfl) ?_
  refine lv_iconst (v := 4) hx hb dX12_feed_79 (by decide) ?_
  refine lv_idiv hx hb dX12_feed_80 (by decide) ?_
  refine tp_i (v := 0) (by decide) ?_
  refine va_iald hx hb hK.1 hP 1 1 rfl rfl (by unfold vp_in; decide) dX12_feed_81 ?_
  refine tp_i (v := p0) rfl ?_
  refine lv_bipush (v := 24) hx hb dX12_feed_82 (by decide) ?_
  refine lv_bipush (v := 8) hx hb dX12_feed_84 (by decide) ?_
  refine lv_iload hx hb dX12_feed_86 (lv_at hl 0 rfl) ?_
  refine lv_iconst (v := 4) hx hb dX12_feed_88 (by decide) ?_
  refine lv_irem hx hb dX12_feed_89 (by decide) ?_
  refine tp_i (v := 0) (by decide) ?_
  refine lv_imul hx hb dX12_feed_90 ?_
  refine tp_i (v := 0) (by decide) ?_
  refine lv_isub hx hb dX12_feed_91 ?_
  refine tp_i (v := 24) (by decide) ?_
  refine lv_ishr hx hb dX12_feed_92 ?_
  refine lv_i2b (v := (Int8.toInt32 (Int32.toInt8 (p0 >>> (24 &&& 31))))) hx hb dX12_feed_93 rfl ?_
  refine wy_bast hx hb hK hP hD hS 2 0 rfl rfl (by unfold vp_in; decide) dX12_feed_94 (j := 0) (by decide) (y := (vp_nar .byte (Int8.toInt32 (Int32.toInt8 (p0 >>> (24 &&& 31)))))) (by rfl) (ws' := [(h0, .inr (12, [v0, v1, v2, v3, .ref h2, .int 0, .ref h1, v4, v5, v6, v7, v8, v9, v10, v11, v12, v13, v14, v15, v16, v17, v18, v19, v20, v21, v22, v23, v24, v25, v26, v27, v28, v29, v30, v31, v32, v33, v34])), (h1, .inl (ty 1, 5, .inl (upd (upd (upd (upd (upd f0 0 p0) 1 p1) 2 p2) 3 p3) 4 p4))), (h2, .inl (ty 0, 800, .inl (upd f1 0 (vp_nar .byte (Int8.toInt32 (Int32.toInt8 (p0 >>> (24 &&& 31))))))))]) rfl (fun H locs hP hD hS => ?_)
  refine lv_iinc (v := 1) (lv' := [(6, .int 1), (0, .ref h0), (1, .int p0), (2, .int p1), (3, .int p2), (4, .int p3), (5, .int p4)]) hx hb dX12_feed_95 hl (k := 0) rfl (by decide) (by decide) rfl (fun ls hl => ?_)
  refine lv_goto (tgt := 55) hx hb dX12_feed_98 (by decide) ?_
  refine lv_iload hx hb dX12_feed_55 (lv_at hl 0 rfl) ?_
  refine lv_bipush (v := 20) hx hb dX12_feed_57 (by decide) ?_
  refine lv_icmp_ge (tgt := 101) hx hb dX12_feed_59 (by decide) (fun h9 => absurd h9 (by decide)) (fun _ => ?_)
  refine lv_aload_n hx hb dX12_feed_62 rfl (lv_at hl 1 rfl) ?_
  refine va_get (D := D) (ci := 12) (v := .ref h2) (C := RX12) (T := TX12) (N := 38) hx hb hB inB_X12 hown hK.1 hP 0 rfl rfl 4 (by decide) (hB _ mw_186) (fun _ h9 => h9) rfl dX12_feed_63 ?_
  refine lv_aload_n hx hb dX12_feed_66 rfl (lv_at hl 1 rfl) ?_
  refine va_get (D := D) (ci := 12) (v := .int 0) (C := RX12) (T := TX12) (N := 38) hx hb hB inB_X12 hown hK.1 hP 0 rfl rfl 5 (by decide) (hB _ mw_443) (fun _ h9 => h9) rfl dX12_feed_67 ?_
  refine lv_iload hx hb dX12_feed_70 (lv_at hl 0 rfl) ?_
  refine lv_iadd hx hb dX12_feed_72 ?_
  refine tp_i (v := 1) (by decide) ?_
  refine lv_aload_n hx hb dX12_feed_73 rfl (lv_at hl 1 rfl) ?_
  refine va_get (D := D) (ci := 12) (v := .ref h1) (C := RX12) (T := TX12) (N := 38) hx hb hB inB_X12 hown hK.1 hP 0 rfl rfl 6 (by decide) (hB _ mw_187) (fun _ h9 => h9) rfl dX12_feed_74 ?_
  refine lv_iload hx hb dX12_feed_77 (lv_at hl 0 rfl) ?_
  refine lv_iconst (v := 4) hx hb dX12_feed_79 (by decide) ?_
  refine lv_idiv hx hb dX12_feed_80 (by decide) ?_
  refine tp_i (v := 0) (by decide) ?_
  refine va_iald hx hb hK.1 hP 1 1 rfl rfl (by unfold vp_in; decide) dX12_feed_81 ?_
  refine tp_i (v := p0) rfl ?_
  refine lv_bipush (v := 24) hx hb dX12_feed_82 (by decide) ?_
  refine lv_bipush (v := 8) hx hb dX12_feed_84 (by decide) ?_
  refine lv_iload hx hb dX12_feed_86 (lv_at hl 0 rfl) ?_
  refine lv_iconst (v := 4) hx hb dX12_feed_88 (by decide) ?_
  refine lv_irem hx hb dX12_feed_89 (by decide) ?_
  refine tp_i (v := 1) (by decide) ?_
  refine lv_imul hx hb dX12_feed_90 ?_
  refine tp_i (v := 8) (by decide) ?_
  refine lv_isub hx hb dX12_feed_91 ?_
  refine tp_i (v := 16) (by decide) ?_
  refine lv_ishr hx hb dX12_feed_92 ?_
  refine lv_i2b (v := (Int8.toInt32 (Int32.toInt8 (p0 >>> (16 &&& 31))))) hx hb dX12_feed_93 rfl ?_
  refine wy_bast hx hb hK hP hD hS 2 0 rfl rfl (by unfold vp_in; decide) dX12_feed_94 (j := 1) (by decide) (y := (vp_nar .byte (Int8.toInt32 (Int32.toInt8 (p0 >>> (16 &&& 31)))))) (by rfl) (ws' := [(h0, .inr (12, [v0, v1, v2, v3, .ref h2, .int 0, .ref h1, v4, v5, v6, v7, v8, v9, v10, v11, v12, v13, v14, v15, v16, v17, v18, v19, v20, v21, v22, v23, v24, v25, v26, v27, v28, v29, v30, v31, v32, v33, v34])), (h1, .inl (ty 1, 5, .inl (upd (upd (upd (upd (upd f0 0 p0) 1 p1) 2 p2) 3 p3) 4 p4))), (h2, .inl (ty 0, 800, .inl (upd (upd f1 0 (vp_nar .byte (Int8.toInt32 (Int32.toInt8 (p0 >>> (24 &&& 31)))))) 1 (vp_nar .byte (Int8.toInt32 (Int32.toInt8 (p0 >>> (16 &&& 31))))))))]) rfl (fun H locs hP hD hS => ?_)
  refine lv_iinc (v := 2) (lv' := [(6, .int 2), (0, .ref h0), (1, .int p0), (2, .int p1), (3, .int p2), (4, .int p3), (5, .int p4)]) hx hb dX12_feed_95 hl (k := 0) rfl (by decide) (by decide) rfl (fun ls hl => ?_)
  refine lv_goto (tgt := 55) hx hb dX12_feed_98 (by decide) ?_
  refine lv_iload hx hb dX12_feed_55 (lv_at hl 0 rfl) ?_
  refine lv_bipush (v := 20) hx hb dX12_feed_57 (by decide) ?_
  refine lv_icmp_ge (tgt := 101) hx hb dX12_feed_59 (by decide) (fun h9 => absurd h9 (by decide)) (fun _ => ?_)
  refine lv_aload_n hx hb dX12_feed_62 rfl (lv_at hl 1 rfl) ?_
  refine va_get (D := D) (ci := 12) (v := .ref h2) (C := RX12) (T := TX12) (N := 38) hx hb hB inB_X12 hown hK.1 hP 0 rfl rfl 4 (by decide) (hB _ mw_186) (fun _ h9 => h9) rfl dX12_feed_63 ?_
  refine lv_aload_n hx hb dX12_feed_66 rfl (lv_at hl 1 rfl) ?_
  refine va_get (D := D) (ci := 12) (v := .int 0) (C := RX12) (T := TX12) (N := 38) hx hb hB inB_X12 hown hK.1 hP 0 rfl rfl 5 (by decide) (hB _ mw_443) (fun _ h9 => h9) rfl dX12_feed_67 ?_
  refine lv_iload hx hb dX12_feed_70 (lv_at hl 0 rfl) ?_
  refine lv_iadd hx hb dX12_feed_72 ?_
  refine tp_i (v := 2) (by decide) ?_
  refine lv_aload_n hx hb dX12_feed_73 rfl (lv_at hl 1 rfl) ?_
  refine va_get (D := D) (ci := 12) (v := .ref h1) (C := RX12) (T := TX12) (N := 38) hx hb hB inB_X12 hown hK.1 hP 0 rfl rfl 6 (by decide) (hB _ mw_187) (fun _ h9 => h9) rfl dX12_feed_74 ?_
  refine lv_iload hx hb dX12_feed_77 (lv_at hl 0 rfl) ?_
  refine lv_iconst (v := 4) hx hb dX12_feed_79 (by decide) ?_
  refine lv_idiv hx hb dX12_feed_80 (by decide) ?_
  refine tp_i (v := 0) (by decide) ?_
  refine va_iald hx hb hK.1 hP 1 1 rfl rfl (by unfold vp_in; decide) dX12_feed_81 ?_
  refine tp_i (v := p0) rfl ?_
  refine lv_bipush (v := 24) hx hb dX12_feed_82 (by decide) ?_
  refine lv_bipush (v := 8) hx hb dX12_feed_84 (by decide) ?_
  refine lv_iload hx hb dX12_feed_86 (lv_at hl 0 rfl) ?_
  refine lv_iconst (v := 4) hx hb dX12_feed_88 (by decide) ?_
  refine lv_irem hx hb dX12_feed_89 (by decide) ?_
  refine tp_i (v := 2) (by decide) ?_
  refine lv_imul hx hb dX12_feed_90 ?_
  refine tp_i (v := 16) (by decide) ?_
  refine lv_isub hx hb dX12_feed_91 ?_
  refine tp_i (v := 8) (by decide) ?_
  refine lv_ishr hx hb dX12_feed_92 ?_
  refine lv_i2b (v := (Int8.toInt32 (Int32.toInt8 (p0 >>> (8 &&& 31))))) hx hb dX12_feed_93 rfl ?_
  refine wy_bast hx hb hK hP hD hS 2 0 rfl rfl (by unfold vp_in; decide) dX12_feed_94 (j := 2) (by decide) (y := (vp_nar .byte (Int8.toInt32 (Int32.toInt8 (p0 >>> (8 &&& 31)))))) (by rfl) (ws' := [(h0, .inr (12, [v0, v1, v2, v3, .ref h2, .int 0, .ref h1, v4, v5, v6, v7, v8, v9, v10, v11, v12, v13, v14, v15, v16, v17, v18, v19, v20, v21, v22, v23, v24, v25, v26, v27, v28, v29, v30, v31, v32, v33, v34])), (h1, .inl (ty 1, 5, .inl (upd (upd (upd (upd (upd f0 0 p0) 1 p1) 2 p2) 3 p3) 4 p4))), (h2, .inl (ty 0, 800, .inl (upd (upd (upd f1 0 (vp_nar .byte (Int8.toInt32 (Int32.toInt8 (p0 >>> (24 &&& 31)))))) 1 (vp_nar .byte (Int8.toInt32 (Int32.toInt8 (p0 >>> (16 &&& 31)))))) 2 (vp_nar .byte (Int8.toInt32 (Int32.toInt8 (p0 >>> (8 &&& 31))))))))]) rfl (fun H locs hP hD hS => ?_)
  refine lv_iinc (v := 3) (lv' := [(6, .int 3), (0, .ref h0), (1, .int p0), (2, .int p1), (3, .int p2), (4, .int p3), (5, .int p4)]) hx hb dX12_feed_95 hl (k := 0) rfl (by decide) (by decide) rfl (fun ls hl => ?_)
  refine lv_goto (tgt := 55) hx hb dX12_feed_98 (by decide) ?_
  refine lv_iload hx hb dX12_feed_55 (lv_at hl 0 rfl) ?_
  refine lv_bipush (v := 20) hx hb dX12_feed_57 (by decide) ?_
  refine lv_icmp_ge (tgt := 101) hx hb dX12_feed_59 (by decide) (fun h9 => absurd h9 (by decide)) (fun _ => ?_)
  refine lv_aload_n hx hb dX12_feed_62 rfl (lv_at hl 1 rfl) ?_
  refine va_get (D := D) (ci := 12) (v := .ref h2) (C := RX12) (T := TX12) (N := 38) hx hb hB inB_X12 hown hK.1 hP 0 rfl rfl 4 (by decide) (hB _ mw_186) (fun _ h9 => h9) rfl dX12_feed_63 ?_
  refine lv_aload_n hx hb dX12_feed_66 rfl (lv_at hl 1 rfl) ?_
  refine va_get (D := D) (ci := 12) (v := .int 0) (C := RX12) (T := TX12) (N := 38) hx hb hB inB_X12 hown hK.1 hP 0 rfl rfl 5 (by decide) (hB _ mw_443) (fun _ h9 => h9) rfl dX12_feed_67 ?_
  refine lv_iload hx hb dX12_feed_70 (lv_at hl 0 rfl) ?_
  refine lv_iadd hx hb dX12_feed_72 ?_
  refine tp_i (v := 3) (by decide) ?_
  refine lv_aload_n hx hb dX12_feed_73 rfl (lv_at hl 1 rfl) ?_
  refine va_get (D := D) (ci := 12) (v := .ref h1) (C := RX12) (T := TX12) (N := 38) hx hb hB inB_X12 hown hK.1 hP 0 rfl rfl 6 (by decide) (hB _ mw_187) (fun _ h9 => h9) rfl dX12_feed_74 ?_
  refine lv_iload hx hb dX12_feed_77 (lv_at hl 0 rfl) ?_
  refine lv_iconst (v := 4) hx hb dX12_feed_79 (by decide) ?_
  refine lv_idiv hx hb dX12_feed_80 (by decide) ?_
  refine tp_i (v := 0) (by decide) ?_
  refine va_iald hx hb hK.1 hP 1 1 rfl rfl (by unfold vp_in; decide) dX12_feed_81 ?_
  refine tp_i (v := p0) rfl ?_
  refine lv_bipush (v := 24) hx hb dX12_feed_82 (by decide) ?_
  refine lv_bipush (v := 8) hx hb dX12_feed_84 (by decide) ?_
  refine lv_iload hx hb dX12_feed_86 (lv_at hl 0 rfl) ?_
  refine lv_iconst (v := 4) hx hb dX12_feed_88 (by decide) ?_
  refine lv_irem hx hb dX12_feed_89 (by decide) ?_
  refine tp_i (v := 3) (by decide) ?_
  refine lv_imul hx hb dX12_feed_90 ?_
  refine tp_i (v := 24) (by decide) ?_
  refine lv_isub hx hb dX12_feed_91 ?_
  refine tp_i (v := 0) (by decide) ?_
  refine lv_ishr hx hb dX12_feed_92 ?_
  refine lv_i2b (v := (Int8.toInt32 (Int32.toInt8 (p0 >>> (0 &&& 31))))) hx hb dX12_feed_93 rfl ?_
  refine wy_bast hx hb hK hP hD hS 2 0 rfl rfl (by unfold vp_in; decide) dX12_feed_94 (j := 3) (by decide) (y := (vp_nar .byte (Int8.toInt32 (Int32.toInt8 (p0 >>> (0 &&& 31)))))) (by rfl) (ws' := [(h0, .inr (12, [v0, v1, v2, v3, .ref h2, .int 0, .ref h1, v4, v5, v6, v7, v8, v9, v10, v11, v12, v13, v14, v15, v16, v17, v18, v19, v20, v21, v22, v23, v24, v25, v26, v27, v28, v29, v30, v31, v32, v33, v34])), (h1, .inl (ty 1, 5, .inl (upd (upd (upd (upd (upd f0 0 p0) 1 p1) 2 p2) 3 p3) 4 p4))), (h2, .inl (ty 0, 800, .inl (upd (upd (upd (upd f1 0 (vp_nar .byte (Int8.toInt32 (Int32.toInt8 (p0 >>> (24 &&& 31)))))) 1 (vp_nar .byte (Int8.toInt32 (Int32.toInt8 (p0 >>> (16 &&& 31)))))) 2 (vp_nar .byte (Int8.toInt32 (Int32.toInt8 (p0 >>> (8 &&& 31)))))) 3 (vp_nar .byte (Int8.toInt32 (Int32.toInt8 (p0 >>> (0 &&& 31))))))))]) rfl (fun H locs hP hD hS => ?_)
  refine lv_iinc (v := 4) (lv' := [(6, .int 4), (0, .ref h0), (1, .int p0), (2, .int p1), (3, .int p2), (4, .int p3), (5, .int p4)]) hx hb dX12_feed_95 hl (k := 0) rfl (by decide) (by decide) rfl (fun ls hl => ?_)
  refine lv_goto (tgt := 55) hx hb dX12_feed_98 (by decide) ?_
  refine lv_iload hx hb dX12_feed_55 (lv_at hl 0 rfl) ?_
  refine lv_bipush (v := 20) hx hb dX12_feed_57 (by decide) ?_
  refine lv_icmp_ge (tgt := 101) hx hb dX12_feed_59 (by decide) (fun h9 => absurd h9 (by decide)) (fun _ => ?_)
  refine lv_aload_n hx hb dX12_feed_62 rfl (lv_at hl 1 rfl) ?_
  refine va_get (D := D) (ci := 12) (v := .ref h2) (C := RX12) (T := TX12) (N := 38) hx hb hB inB_X12 hown hK.1 hP 0 rfl rfl 4 (by decide) (hB _ mw_186) (fun _ h9 => h9) rfl dX12_feed_63 ?_
  refine lv_aload_n hx hb dX12_feed_66 rfl (lv_at hl 1 rfl) ?_
  refine va_get (D := D) (ci := 12) (v := .int 0) (C := RX12) (T := TX12) (N := 38) hx hb hB inB_X12 hown hK.1 hP 0 rfl rfl 5 (by decide) (hB _ mw_443) (fun _ h9 => h9) rfl dX12_feed_67 ?_
  refine lv_iload hx hb dX12_feed_70 (lv_at hl 0 rfl) ?_
  refine lv_iadd hx hb dX12_feed_72 ?_
  refine tp_i (v := 4) (by decide) ?_
  refine lv_aload_n hx hb dX12_feed_73 rfl (lv_at hl 1 rfl) ?_
  refine va_get (D := D) (ci := 12) (v := .ref h1) (C := RX12) (T := TX12) (N := 38) hx hb hB inB_X12 hown hK.1 hP 0 rfl rfl 6 (by decide) (hB _ mw_187) (fun _ h9 => h9) rfl dX12_feed_74 ?_
  refine lv_iload hx hb dX12_feed_77 (lv_at hl 0 rfl) ?_
  refine lv_iconst (v := 4) hx hb dX12_feed_79 (by decide) ?_
  refine lv_idiv hx hb dX12_feed_80 (by decide) ?_
  refine tp_i (v := 1) (by decide) ?_
  refine va_iald hx hb hK.1 hP 1 1 rfl rfl (by unfold vp_in; decide) dX12_feed_81 ?_
  refine tp_i (v := p1) rfl ?_
  refine lv_bipush (v := 24) hx hb dX12_feed_82 (by decide) ?_
  refine lv_bipush (v := 8) hx hb dX12_feed_84 (by decide) ?_
  refine lv_iload hx hb dX12_feed_86 (lv_at hl 0 rfl) ?_
  refine lv_iconst (v := 4) hx hb dX12_feed_88 (by decide) ?_
  refine lv_irem hx hb dX12_feed_89 (by decide) ?_
  refine tp_i (v := 0) (by decide) ?_
  refine lv_imul hx hb dX12_feed_90 ?_
  refine tp_i (v := 0) (by decide) ?_
  refine lv_isub hx hb dX12_feed_91 ?_
  refine tp_i (v := 24) (by decide) ?_
  refine lv_ishr hx hb dX12_feed_92 ?_
  refine lv_i2b (v := (Int8.toInt32 (Int32.toInt8 (p1 >>> (24 &&& 31))))) hx hb dX12_feed_93 rfl ?_
  refine wy_bast hx hb hK hP hD hS 2 0 rfl rfl (by unfold vp_in; decide) dX12_feed_94 (j := 4) (by decide) (y := (vp_nar .byte (Int8.toInt32 (Int32.toInt8 (p1 >>> (24 &&& 31)))))) (by rfl) (ws' := [(h0, .inr (12, [v0, v1, v2, v3, .ref h2, .int 0, .ref h1, v4, v5, v6, v7, v8, v9, v10, v11, v12, v13, v14, v15, v16, v17, v18, v19, v20, v21, v22, v23, v24, v25, v26, v27, v28, v29, v30, v31, v32, v33, v34])), (h1, .inl (ty 1, 5, .inl (upd (upd (upd (upd (upd f0 0 p0) 1 p1) 2 p2) 3 p3) 4 p4))), (h2, .inl (ty 0, 800, .inl (upd (upd (upd (upd (upd f1 0 (vp_nar .byte (Int8.toInt32 (Int32.toInt8 (p0 >>> (24 &&& 31)))))) 1 (vp_nar .byte (Int8.toInt32 (Int32.toInt8 (p0 >>> (16 &&& 31)))))) 2 (vp_nar .byte (Int8.toInt32 (Int32.toInt8 (p0 >>> (8 &&& 31)))))) 3 (vp_nar .byte (Int8.toInt32 (Int32.toInt8 (p0 >>> (0 &&& 31)))))) 4 (vp_nar .byte (Int8.toInt32 (Int32.toInt8 (p1 >>> (24 &&& 31))))))))]) rfl (fun H locs hP hD hS => ?_)
  refine lv_iinc (v := 5) (lv' := [(6, .int 5), (0, .ref h0), (1, .int p0), (2, .int p1), (3, .int p2), (4, .int p3), (5, .int p4)]) hx hb dX12_feed_95 hl (k := 0) rfl (by decide) (by decide) rfl (fun ls hl => ?_)
  refine lv_goto (tgt := 55) hx hb dX12_feed_98 (by decide) ?_
  refine lv_iload hx hb dX12_feed_55 (lv_at hl 0 rfl) ?_
  refine lv_bipush (v := 20) hx hb dX12_feed_57 (by decide) ?_
  refine lv_icmp_ge (tgt := 101) hx hb dX12_feed_59 (by decide) (fun h9 => absurd h9 (by decide)) (fun _ => ?_)
  refine lv_aload_n hx hb dX12_feed_62 rfl (lv_at hl 1 rfl) ?_
  refine va_get (D := D) (ci := 12) (v := .ref h2) (C := RX12) (T := TX12) (N := 38) hx hb hB inB_X12 hown hK.1 hP 0 rfl rfl 4 (by decide) (hB _ mw_186) (fun _ h9 => h9) rfl dX12_feed_63 ?_
  refine lv_aload_n hx hb dX12_feed_66 rfl (lv_at hl 1 rfl) ?_
  refine va_get (D := D) (ci := 12) (v := .int 0) (C := RX12) (T := TX12) (N := 38) hx hb hB inB_X12 hown hK.1 hP 0 rfl rfl 5 (by decide) (hB _ mw_443) (fun _ h9 => h9) rfl dX12_feed_67 ?_
  refine lv_iload hx hb dX12_feed_70 (lv_at hl 0 rfl) ?_
  refine lv_iadd hx hb dX12_feed_72 ?_
  refine tp_i (v := 5) (by decide) ?_
  refine lv_aload_n hx hb dX12_feed_73 rfl (lv_at hl 1 rfl) ?_
  refine va_get (D := D) (ci := 12) (v := .ref h1) (C := RX12) (T := TX12) (N := 38) hx hb hB inB_X12 hown hK.1 hP 0 rfl rfl 6 (by decide) (hB _ mw_187) (fun _ h9 => h9) rfl dX12_feed_74 ?_
  refine lv_iload hx hb dX12_feed_77 (lv_at hl 0 rfl) ?_
  refine lv_iconst (v := 4) hx hb dX12_feed_79 (by decide) ?_
  refine lv_idiv hx hb dX12_feed_80 (by decide) ?_
  refine tp_i (v := 1) (by decide) ?_
  refine va_iald hx hb hK.1 hP 1 1 rfl rfl (by unfold vp_in; decide) dX12_feed_81 ?_
  refine tp_i (v := p1) rfl ?_
  refine lv_bipush (v := 24) hx hb dX12_feed_82 (by decide) ?_
  refine lv_bipush (v := 8) hx hb dX12_feed_84 (by decide) ?_
  refine lv_iload hx hb dX12_feed_86 (lv_at hl 0 rfl) ?_
  refine lv_iconst (v := 4) hx hb dX12_feed_88 (by decide) ?_
  refine lv_irem hx hb dX12_feed_89 (by decide) ?_
  refine tp_i (v := 1) (by decide) ?_
  refine lv_imul hx hb dX12_feed_90 ?_
  refine tp_i (v := 8) (by decide) ?_
  refine lv_isub hx hb dX12_feed_91 ?_
  refine tp_i (v := 16) (by decide) ?_
  refine lv_ishr hx hb dX12_feed_92 ?_
  refine lv_i2b (v := (Int8.toInt32 (Int32.toInt8 (p1 >>> (16 &&& 31))))) hx hb dX12_feed_93 rfl ?_
  refine wy_bast hx hb hK hP hD hS 2 0 rfl rfl (by unfold vp_in; decide) dX12_feed_94 (j := 5) (by decide) (y := (vp_nar .byte (Int8.toInt32 (Int32.toInt8 (p1 >>> (16 &&& 31)))))) (by rfl) (ws' := [(h0, .inr (12, [v0, v1, v2, v3, .ref h2, .int 0, .ref h1, v4, v5, v6, v7, v8, v9, v10, v11, v12, v13, v14, v15, v16, v17, v18, v19, v20, v21, v22, v23, v24, v25, v26, v27, v28, v29, v30, v31, v32, v33, v34])), (h1, .inl (ty 1, 5, .inl (upd (upd (upd (upd (upd f0 0 p0) 1 p1) 2 p2) 3 p3) 4 p4))), (h2, .inl (ty 0, 800, .inl (upd (upd (upd (upd (upd (upd f1 0 (vp_nar .byte (Int8.toInt32 (Int32.toInt8 (p0 >>> (24 &&& 31)))))) 1 (vp_nar .byte (Int8.toInt32 (Int32.toInt8 (p0 >>> (16 &&& 31)))))) 2 (vp_nar .byte (Int8.toInt32 (Int32.toInt8 (p0 >>> (8 &&& 31)))))) 3 (vp_nar .byte (Int8.toInt32 (Int32.toInt8 (p0 >>> (0 &&& 31)))))) 4 (vp_nar .byte (Int8.toInt32 (Int32.toInt8 (p1 >>> (24 &&& 31)))))) 5 (vp_nar .byte (Int8.toInt32 (Int32.toInt8 (p1 >>> (16 &&& 31))))))))]) rfl (fun H locs hP hD hS => ?_)
  refine lv_iinc (v := 6) (lv' := [(6, .int 6), (0, .ref h0), (1, .int p0), (2, .int p1), (3, .int p2), (4, .int p3), (5, .int p4)]) hx hb dX12_feed_95 hl (k := 0) rfl (by decide) (by decide) rfl (fun ls hl => ?_)
  refine lv_goto (tgt := 55) hx hb dX12_feed_98 (by decide) ?_
  refine lv_iload hx hb dX12_feed_55 (lv_at hl 0 rfl) ?_
  refine lv_bipush (v := 20) hx hb dX12_feed_57 (by decide) ?_
  refine lv_icmp_ge (tgt := 101) hx hb dX12_feed_59 (by decide) (fun h9 => absurd h9 (by decide)) (fun _ => ?_)
  refine lv_aload_n hx hb dX12_feed_62 rfl (lv_at hl 1 rfl) ?_
  refine va_get (D := D) (ci := 12) (v := .ref h2) (C := RX12) (T := TX12) (N := 38) hx hb hB inB_X12 hown hK.1 hP 0 rfl rfl 4 (by decide) (hB _ mw_186) (fun _ h9 => h9) rfl dX12_feed_63 ?_
  refine lv_aload_n hx hb dX12_feed_66 rfl (lv_at hl 1 rfl) ?_
  refine va_get (D := D) (ci := 12) (v := .int 0) (C := RX12) (T := TX12) (N := 38) hx hb hB inB_X12 hown hK.1 hP 0 rfl rfl 5 (by decide) (hB _ mw_443) (fun _ h9 => h9) rfl dX12_feed_67 ?_
  refine lv_iload hx hb dX12_feed_70 (lv_at hl 0 rfl) ?_
  refine lv_iadd hx hb dX12_feed_72 ?_
  refine tp_i (v := 6) (by decide) ?_
  refine lv_aload_n hx hb dX12_feed_73 rfl (lv_at hl 1 rfl) ?_
  refine va_get (D := D) (ci := 12) (v := .ref h1) (C := RX12) (T := TX12) (N := 38) hx hb hB inB_X12 hown hK.1 hP 0 rfl rfl 6 (by decide) (hB _ mw_187) (fun _ h9 => h9) rfl dX12_feed_74 ?_
  refine lv_iload hx hb dX12_feed_77 (lv_at hl 0 rfl) ?_
  refine lv_iconst (v := 4) hx hb dX12_feed_79 (by decide) ?_
  refine lv_idiv hx hb dX12_feed_80 (by decide) ?_
  refine tp_i (v := 1) (by decide) ?_
  refine va_iald hx hb hK.1 hP 1 1 rfl rfl (by unfold vp_in; decide) dX12_feed_81 ?_
  refine tp_i (v := p1) rfl ?_
  refine lv_bipush (v := 24) hx hb dX12_feed_82 (by decide) ?_
  refine lv_bipush (v := 8) hx hb dX12_feed_84 (by decide) ?_
  refine lv_iload hx hb dX12_feed_86 (lv_at hl 0 rfl) ?_
  refine lv_iconst (v := 4) hx hb dX12_feed_88 (by decide) ?_
  refine lv_irem hx hb dX12_feed_89 (by decide) ?_
  refine tp_i (v := 2) (by decide) ?_
  refine lv_imul hx hb dX12_feed_90 ?_
  refine tp_i (v := 16) (by decide) ?_
  refine lv_isub hx hb dX12_feed_91 ?_
  refine tp_i (v := 8) (by decide) ?_
  refine lv_ishr hx hb dX12_feed_92 ?_
  refine lv_i2b (v := (Int8.toInt32 (Int32.toInt8 (p1 >>> (8 &&& 31))))) hx hb dX12_feed_93 rfl ?_
  refine wy_bast hx hb hK hP hD hS 2 0 rfl rfl (by unfold vp_in; decide) dX12_feed_94 (j := 6) (by decide) (y := (vp_nar .byte (Int8.toInt32 (Int32.toInt8 (p1 >>> (8 &&& 31)))))) (by rfl) (ws' := [(h0, .inr (12, [v0, v1, v2, v3, .ref h2, .int 0, .ref h1, v4, v5, v6, v7, v8, v9, v10, v11, v12, v13, v14, v15, v16, v17, v18, v19, v20, v21, v22, v23, v24, v25, v26, v27, v28, v29, v30, v31, v32, v33, v34])), (h1, .inl (ty 1, 5, .inl (upd (upd (upd (upd (upd f0 0 p0) 1 p1) 2 p2) 3 p3) 4 p4))), (h2, .inl (ty 0, 800, .inl (upd (upd (upd (upd (upd (upd (upd f1 0 (vp_nar .byte (Int8.toInt32 (Int32.toInt8 (p0 >>> (24 &&& 31)))))) 1 (vp_nar .byte (Int8.toInt32 (Int32.toInt8 (p0 >>> (16 &&& 31)))))) 2 (vp_nar .byte (Int8.toInt32 (Int32.toInt8 (p0 >>> (8 &&& 31)))))) 3 (vp_nar .byte (Int8.toInt32 (Int32.toInt8 (p0 >>> (0 &&& 31)))))) 4 (vp_nar .byte (Int8.toInt32 (Int32.toInt8 (p1 >>> (24 &&& 31)))))) 5 (vp_nar .byte (Int8.toInt32 (Int32.toInt8 (p1 >>> (16 &&& 31)))))) 6 (vp_nar .byte (Int8.toInt32 (Int32.toInt8 (p1 >>> (8 &&& 31))))))))]) rfl (fun H locs hP hD hS => ?_)
  refine lv_iinc (v := 7) (lv' := [(6, .int 7), (0, .ref h0), (1, .int p0), (2, .int p1), (3, .int p2), (4, .int p3), (5, .int p4)]) hx hb dX12_feed_95 hl (k := 0) rfl (by decide) (by decide) rfl (fun ls hl => ?_)
  refine lv_goto (tgt := 55) hx hb dX12_feed_98 (by decide) ?_
  refine lv_iload hx hb dX12_feed_55 (lv_at hl 0 rfl) ?_
  refine lv_bipush (v := 20) hx hb dX12_feed_57 (by decide) ?_
  refine lv_icmp_ge (tgt := 101) hx hb dX12_feed_59 (by decide) (fun h9 => absurd h9 (by decide)) (fun _ => ?_)
  refine lv_aload_n hx hb dX12_feed_62 rfl (lv_at hl 1 rfl) ?_
  refine va_get (D := D) (ci := 12) (v := .ref h2) (C := RX12) (T := TX12) (N := 38) hx hb hB inB_X12 hown hK.1 hP 0 rfl rfl 4 (by decide) (hB _ mw_186) (fun _ h9 => h9) rfl dX12_feed_63 ?_
  refine lv_aload_n hx hb dX12_feed_66 rfl (lv_at hl 1 rfl) ?_
  refine va_get (D := D) (ci := 12) (v := .int 0) (C := RX12) (T := TX12) (N := 38) hx hb hB inB_X12 hown hK.1 hP 0 rfl rfl 5 (by decide) (hB _ mw_443) (fun _ h9 => h9) rfl dX12_feed_67 ?_
  refine lv_iload hx hb dX12_feed_70 (lv_at hl 0 rfl) ?_
  refine lv_iadd hx hb dX12_feed_72 ?_
  refine tp_i (v := 7) (by decide) ?_
  refine lv_aload_n hx hb dX12_feed_73 rfl (lv_at hl 1 rfl) ?_
  refine va_get (D := D) (ci := 12) (v := .ref h1) (C := RX12) (T := TX12) (N := 38) hx hb hB inB_X12 hown hK.1 hP 0 rfl rfl 6 (by decide) (hB _ mw_187) (fun _ h9 => h9) rfl dX12_feed_74 ?_
  refine lv_iload hx hb dX12_feed_77 (lv_at hl 0 rfl) ?_
  refine lv_iconst (v := 4) hx hb dX12_feed_79 (by decide) ?_
  refine lv_idiv hx hb dX12_feed_80 (by decide) ?_
  refine tp_i (v := 1) (by decide) ?_
  refine va_iald hx hb hK.1 hP 1 1 rfl rfl (by unfold vp_in; decide) dX12_feed_81 ?_
  refine tp_i (v := p1) rfl ?_
  refine lv_bipush (v := 24) hx hb dX12_feed_82 (by decide) ?_
  refine lv_bipush (v := 8) hx hb dX12_feed_84 (by decide) ?_
  refine lv_iload hx hb dX12_feed_86 (lv_at hl 0 rfl) ?_
  refine lv_iconst (v := 4) hx hb dX12_feed_88 (by decide) ?_
  refine lv_irem hx hb dX12_feed_89 (by decide) ?_
  refine tp_i (v := 3) (by decide) ?_
  refine lv_imul hx hb dX12_feed_90 ?_
  refine tp_i (v := 24) (by decide) ?_
  refine lv_isub hx hb dX12_feed_91 ?_
  refine tp_i (v := 0) (by decide) ?_
  refine lv_ishr hx hb dX12_feed_92 ?_
  refine lv_i2b (v := (Int8.toInt32 (Int32.toInt8 (p1 >>> (0 &&& 31))))) hx hb dX12_feed_93 rfl ?_
  refine wy_bast hx hb hK hP hD hS 2 0 rfl rfl (by unfold vp_in; decide) dX12_feed_94 (j := 7) (by decide) (y := (vp_nar .byte (Int8.toInt32 (Int32.toInt8 (p1 >>> (0 &&& 31)))))) (by rfl) (ws' := [(h0, .inr (12, [v0, v1, v2, v3, .ref h2, .int 0, .ref h1, v4, v5, v6, v7, v8, v9, v10, v11, v12, v13, v14, v15, v16, v17, v18, v19, v20, v21, v22, v23, v24, v25, v26, v27, v28, v29, v30, v31, v32, v33, v34])), (h1, .inl (ty 1, 5, .inl (upd (upd (upd (upd (upd f0 0 p0) 1 p1) 2 p2) 3 p3) 4 p4))), (h2, .inl (ty 0, 800, .inl (upd (upd (upd (upd (upd (upd (upd (upd f1 0 (vp_nar .byte (Int8.toInt32 (Int32.toInt8 (p0 >>> (24 &&& 31)))))) 1 (vp_nar .byte (Int8.toInt32 (Int32.toInt8 (p0 >>> (16 &&& 31)))))) 2 (vp_nar .byte (Int8.toInt32 (Int32.toInt8 (p0 >>> (8 &&& 31)))))) 3 (vp_nar .byte (Int8.toInt32 (Int32.toInt8 (p0 >>> (0 &&& 31)))))) 4 (vp_nar .byte (Int8.toInt32 (Int32.toInt8 (p1 >>> (24 &&& 31)))))) 5 (vp_nar .byte (Int8.toInt32 (Int32.toInt8 (p1 >>> (16 &&& 31)))))) 6 (vp_nar .byte (Int8.toInt32 (Int32.toInt8 (p1 >>> (8 &&& 31)))))) 7 (vp_nar .byte (Int8.toInt32 (Int32.toInt8 (p1 >>> (0 &&& 31))))))))]) rfl (fun H locs hP hD hS => ?_)
  refine lv_iinc (v := 8) (lv' := [(6, .int 8), (0, .ref h0), (1, .int p0), (2, .int p1), (3, .int p2), (4, .int p3), (5, .int p4)]) hx hb dX12_feed_95 hl (k := 0) rfl (by decide) (by decide) rfl (fun ls hl => ?_)
  refine lv_goto (tgt := 55) hx hb dX12_feed_98 (by decide) ?_
  refine lv_iload hx hb dX12_feed_55 (lv_at hl 0 rfl) ?_
  refine lv_bipush (v := 20) hx hb dX12_feed_57 (by decide) ?_
  refine lv_icmp_ge (tgt := 101) hx hb dX12_feed_59 (by decide) (fun h9 => absurd h9 (by decide)) (fun _ => ?_)
  refine lv_aload_n hx hb dX12_feed_62 rfl (lv_at hl 1 rfl) ?_
  refine va_get (D := D) (ci := 12) (v := .ref h2) (C := RX12) (T := TX12) (N := 38) hx hb hB inB_X12 hown hK.1 hP 0 rfl rfl 4 (by decide) (hB _ mw_186) (fun _ h9 => h9) rfl dX12_feed_63 ?_
  refine lv_aload_n hx hb dX12_feed_66 rfl (lv_at hl 1 rfl) ?_
  refine va_get (D := D) (ci := 12) (v := .int 0) (C := RX12) (T := TX12) (N := 38) hx hb hB inB_X12 hown hK.1 hP 0 rfl rfl 5 (by decide) (hB _ mw_443) (fun _ h9 => h9) rfl dX12_feed_67 ?_
  refine lv_iload hx hb dX12_feed_70 (lv_at hl 0 rfl) ?_
  refine lv_iadd hx hb dX12_feed_72 ?_
  refine tp_i (v := 8) (by decide) ?_
  refine lv_aload_n hx hb dX12_feed_73 rfl (lv_at hl 1 rfl) ?_
  refine va_get (D := D) (ci := 12) (v := .ref h1) (C := RX12) (T := TX12) (N := 38) hx hb hB inB_X12 hown hK.1 hP 0 rfl rfl 6 (by decide) (hB _ mw_187) (fun _ h9 => h9) rfl dX12_feed_74 ?_
  refine lv_iload hx hb dX12_feed_77 (lv_at hl 0 rfl) ?_
  refine lv_iconst (v := 4) hx hb dX12_feed_79 (by decide) ?_
  refine lv_idiv hx hb dX12_feed_80 (by decide) ?_
  refine tp_i (v := 2) (by decide) ?_
  refine va_iald hx hb hK.1 hP 1 1 rfl rfl (by unfold vp_in; decide) dX12_feed_81 ?_
  refine tp_i (v := p2) rfl ?_
  refine lv_bipush (v := 24) hx hb dX12_feed_82 (by decide) ?_
  refine lv_bipush (v := 8) hx hb dX12_feed_84 (by decide) ?_
  refine lv_iload hx hb dX12_feed_86 (lv_at hl 0 rfl) ?_
  refine lv_iconst (v := 4) hx hb dX12_feed_88 (by decide) ?_
  refine lv_irem hx hb dX12_feed_89 (by decide) ?_
  refine tp_i (v := 0) (by decide) ?_
  refine lv_imul hx hb dX12_feed_90 ?_
  refine tp_i (v := 0) (by decide) ?_
  refine lv_isub hx hb dX12_feed_91 ?_
  refine tp_i (v := 24) (by decide) ?_
  refine lv_ishr hx hb dX12_feed_92 ?_
  refine lv_i2b (v := (Int8.toInt32 (Int32.toInt8 (p2 >>> (24 &&& 31))))) hx hb dX12_feed_93 rfl ?_
  refine wy_bast hx hb hK hP hD hS 2 0 rfl rfl (by unfold vp_in; decide) dX12_feed_94 (j := 8) (by decide) (y := (vp_nar .byte (Int8.toInt32 (Int32.toInt8 (p2 >>> (24 &&& 31)))))) (by rfl) (ws' := [(h0, .inr (12, [v0, v1, v2, v3, .ref h2, .int 0, .ref h1, v4, v5, v6, v7, v8, v9, v10, v11, v12, v13, v14, v15, v16, v17, v18, v19, v20, v21, v22, v23, v24, v25, v26, v27, v28, v29, v30, v31, v32, v33, v34])), (h1, .inl (ty 1, 5, .inl (upd (upd (upd (upd (upd f0 0 p0) 1 p1) 2 p2) 3 p3) 4 p4))), (h2, .inl (ty 0, 800, .inl (upd (upd (upd (upd (upd (upd (upd (upd (upd f1 0 (vp_nar .byte (Int8.toInt32 (Int32.toInt8 (p0 >>> (24 &&& 31)))))) 1 (vp_nar .byte (Int8.toInt32 (Int32.toInt8 (p0 >>> (16 &&& 31)))))) 2 (vp_nar .byte (Int8.toInt32 (Int32.toInt8 (p0 >>> (8 &&& 31)))))) 3 (vp_nar .byte (Int8.toInt32 (Int32.toInt8 (p0 >>> (0 &&& 31)))))) 4 (vp_nar .byte (Int8.toInt32 (Int32.toInt8 (p1 >>> (24 &&& 31)))))) 5 (vp_nar .byte (Int8.toInt32 (Int32.toInt8 (p1 >>> (16 &&& 31)))))) 6 (vp_nar .byte (Int8.toInt32 (Int32.toInt8 (p1 >>> (8 &&& 31)))))) 7 (vp_nar .byte (Int8.toInt32 (Int32.toInt8 (p1 >>> (0 &&& 31)))))) 8 (vp_nar .byte (Int8.toInt32 (Int32.toInt8 (p2 >>> (24 &&& 31))))))))]) rfl (fun H locs hP hD hS => ?_)
  refine lv_iinc (v := 9) (lv' := [(6, .int 9), (0, .ref h0), (1, .int p0), (2, .int p1), (3, .int p2), (4, .int p3), (5, .int p4)]) hx hb dX12_feed_95 hl (k := 0) rfl (by decide) (by decide) rfl (fun ls hl => ?_)
  refine lv_goto (tgt := 55) hx hb dX12_feed_98 (by decide) ?_
  refine lv_iload hx hb dX12_feed_55 (lv_at hl 0 rfl) ?_
  refine lv_bipush (v := 20) hx hb dX12_feed_57 (by decide) ?_
  refine lv_icmp_ge (tgt := 101) hx hb dX12_feed_59 (by decide) (fun h9 => absurd h9 (by decide)) (fun _ => ?_)
  refine lv_aload_n hx hb dX12_feed_62 rfl (lv_at hl 1 rfl) ?_
  refine va_get (D := D) (ci := 12) (v := .ref h2) (C := RX12) (T := TX12) (N := 38) hx hb hB inB_X12 hown hK.1 hP 0 rfl rfl 4 (by decide) (hB _ mw_186) (fun _ h9 => h9) rfl dX12_feed_63 ?_
  refine lv_aload_n hx hb dX12_feed_66 rfl (lv_at hl 1 rfl) ?_
  refine va_get (D := D) (ci := 12) (v := .int 0) (C := RX12) (T := TX12) (N := 38) hx hb hB inB_X12 hown hK.1 hP 0 rfl rfl 5 (by decide) (hB _ mw_443) (fun _ h9 => h9) rfl dX12_feed_67 ?_
  refine lv_iload hx hb dX12_feed_70 (lv_at hl 0 rfl) ?_
  refine lv_iadd hx hb dX12_feed_72 ?_
  refine tp_i (v := 9) (by decide) ?_
  refine lv_aload_n hx hb dX12_feed_73 rfl (lv_at hl 1 rfl) ?_
  refine va_get (D := D) (ci := 12) (v := .ref h1) (C := RX12) (T := TX12) (N := 38) hx hb hB inB_X12 hown hK.1 hP 0 rfl rfl 6 (by decide) (hB _ mw_187) (fun _ h9 => h9) rfl dX12_feed_74 ?_
  refine lv_iload hx hb dX12_feed_77 (lv_at hl 0 rfl) ?_
  refine lv_iconst (v := 4) hx hb dX12_feed_79 (by decide) ?_
  refine lv_idiv hx hb dX12_feed_80 (by decide) ?_
  refine tp_i (v := 2) (by decide) ?_
  refine va_iald hx hb hK.1 hP 1 1 rfl rfl (by unfold vp_in; decide) dX12_feed_81 ?_
  refine tp_i (v := p2) rfl ?_
  refine lv_bipush (v := 24) hx hb dX12_feed_82 (by decide) ?_
  refine lv_bipush (v := 8) hx hb dX12_feed_84 (by decide) ?_
  refine lv_iload hx hb dX12_feed_86 (lv_at hl 0 rfl) ?_
  refine lv_iconst (v := 4) hx hb dX12_feed_88 (by decide) ?_
  refine lv_irem hx hb dX12_feed_89 (by decide) ?_
  refine tp_i (v := 1) (by decide) ?_
  refine lv_imul hx hb dX12_feed_90 ?_
  refine tp_i (v := 8) (by decide) ?_
  refine lv_isub hx hb dX12_feed_91 ?_
  refine tp_i (v := 16) (by decide) ?_
  refine lv_ishr hx hb dX12_feed_92 ?_
  refine lv_i2b (v := (Int8.toInt32 (Int32.toInt8 (p2 >>> (16 &&& 31))))) hx hb dX12_feed_93 rfl ?_
  refine wy_bast hx hb hK hP hD hS 2 0 rfl rfl (by unfold vp_in; decide) dX12_feed_94 (j := 9) (by decide) (y := (vp_nar .byte (Int8.toInt32 (Int32.toInt8 (p2 >>> (16 &&& 31)))))) (by rfl) (ws' := [(h0, .inr (12, [v0, v1, v2, v3, .ref h2, .int 0, .ref h1, v4, v5, v6, v7, v8, v9, v10, v11, v12, v13, v14, v15, v16, v17, v18, v19, v20, v21, v22, v23, v24, v25, v26, v27, v28, v29, v30, v31, v32, v33, v34])), (h1, .inl (ty 1, 5, .inl (upd (upd (upd (upd (upd f0 0 p0) 1 p1) 2 p2) 3 p3) 4 p4))), (h2, .inl (ty 0, 800, .inl (upd (upd (upd (upd (upd (upd (upd (upd (upd (upd f1 0 (vp_nar .byte (Int8.toInt32 (Int32.toInt8 (p0 >>> (24 &&& 31)))))) 1 (vp_nar .byte (Int8.toInt32 (Int32.toInt8 (p0 >>> (16 &&& 31)))))) 2 (vp_nar .byte (Int8.toInt32 (Int32.toInt8 (p0 >>> (8 &&& 31)))))) 3 (vp_nar .byte (Int8.toInt32 (Int32.toInt8 (p0 >>> (0 &&& 31)))))) 4 (vp_nar .byte (Int8.toInt32 (Int32.toInt8 (p1 >>> (24 &&& 31)))))) 5 (vp_nar .byte (Int8.toInt32 (Int32.toInt8 (p1 >>> (16 &&& 31)))))) 6 (vp_nar .byte (Int8.toInt32 (Int32.toInt8 (p1 >>> (8 &&& 31)))))) 7 (vp_nar .byte (Int8.toInt32 (Int32.toInt8 (p1 >>> (0 &&& 31)))))) 8 (vp_nar .byte (Int8.toInt32 (Int32.toInt8 (p2 >>> (24 &&& 31)))))) 9 (vp_nar .byte (Int8.toInt32 (Int32.toInt8 (p2 >>> (16 &&& 31))))))))]) rfl (fun H locs hP hD hS => ?_)
  refine lv_iinc (v := 10) (lv' := [(6, .int 10), (0, .ref h0), (1, .int p0), (2, .int p1), (3, .int p2), (4, .int p3), (5, .int p4)]) hx hb dX12_feed_95 hl (k := 0) rfl (by decide) (by decide) rfl (fun ls hl => ?_)
  refine lv_goto (tgt := 55) hx hb dX12_feed_98 (by decide) ?_
  refine lv_iload hx hb dX12_feed_55 (lv_at hl 0 rfl) ?_
  refine lv_bipush (v := 20) hx hb dX12_feed_57 (by decide) ?_
  refine lv_icmp_ge (tgt := 101) hx hb dX12_feed_59 (by decide) (fun h9 => absurd h9 (by decide)) (fun _ => ?_)
  refine lv_aload_n hx hb dX12_feed_62 rfl (lv_at hl 1 rfl) ?_
  refine va_get (D := D) (ci := 12) (v := .ref h2) (C := RX12) (T := TX12) (N := 38) hx hb hB inB_X12 hown hK.1 hP 0 rfl rfl 4 (by decide) (hB _ mw_186) (fun _ h9 => h9) rfl dX12_feed_63 ?_
  refine lv_aload_n hx hb dX12_feed_66 rfl (lv_at hl 1 rfl) ?_
  refine va_get (D := D) (ci := 12) (v := .int 0) (C := RX12) (T := TX12) (N := 38) hx hb hB inB_X12 hown hK.1 hP 0 rfl rfl 5 (by decide) (hB _ mw_443) (fun _ h9 => h9) rfl dX12_feed_67 ?_
  refine lv_iload hx hb dX12_feed_70 (lv_at hl 0 rfl) ?_
  refine lv_iadd hx hb dX12_feed_72 ?_
  refine tp_i (v := 10) (by decide) ?_
  refine lv_aload_n hx hb dX12_feed_73 rfl (lv_at hl 1 rfl) ?_
  refine va_get (D := D) (ci := 12) (v := .ref h1) (C := RX12) (T := TX12) (N := 38) hx hb hB inB_X12 hown hK.1 hP 0 rfl rfl 6 (by decide) (hB _ mw_187) (fun _ h9 => h9) rfl dX12_feed_74 ?_
  refine lv_iload hx hb dX12_feed_77 (lv_at hl 0 rfl) ?_
  refine lv_iconst (v := 4) hx hb dX12_feed_79 (by decide) ?_
  refine lv_idiv hx hb dX12_feed_80 (by decide) ?_
  refine tp_i (v := 2) (by decide) ?_
  refine va_iald hx hb hK.1 hP 1 1 rfl rfl (by unfold vp_in; decide) dX12_feed_81 ?_
  refine tp_i (v := p2) rfl ?_
  refine lv_bipush (v := 24) hx hb dX12_feed_82 (by decide) ?_
  refine lv_bipush (v := 8) hx hb dX12_feed_84 (by decide) ?_
  refine lv_iload hx hb dX12_feed_86 (lv_at hl 0 rfl) ?_
  refine lv_iconst (v := 4) hx hb dX12_feed_88 (by decide) ?_
  refine lv_irem hx hb dX12_feed_89 (by decide) ?_
  refine tp_i (v := 2) (by decide) ?_
  refine lv_imul hx hb dX12_feed_90 ?_
  refine tp_i (v := 16) (by decide) ?_
  refine lv_isub hx hb dX12_feed_91 ?_
  refine tp_i (v := 8) (by decide) ?_
  refine lv_ishr hx hb dX12_feed_92 ?_
  refine lv_i2b (v := (Int8.toInt32 (Int32.toInt8 (p2 >>> (8 &&& 31))))) hx hb dX12_feed_93 rfl ?_
  refine wy_bast hx hb hK hP hD hS 2 0 rfl rfl (by unfold vp_in; decide) dX12_feed_94 (j := 10) (by decide) (y := (vp_nar .byte (Int8.toInt32 (Int32.toInt8 (p2 >>> (8 &&& 31)))))) (by rfl) (ws' := [(h0, .inr (12, [v0, v1, v2, v3, .ref h2, .int 0, .ref h1, v4, v5, v6, v7, v8, v9, v10, v11, v12, v13, v14, v15, v16, v17, v18, v19, v20, v21, v22, v23, v24, v25, v26, v27, v28, v29, v30, v31, v32, v33, v34])), (h1, .inl (ty 1, 5, .inl (upd (upd (upd (upd (upd f0 0 p0) 1 p1) 2 p2) 3 p3) 4 p4))), (h2, .inl (ty 0, 800, .inl (upd (upd (upd (upd (upd (upd (upd (upd (upd (upd (upd f1 0 (vp_nar .byte (Int8.toInt32 (Int32.toInt8 (p0 >>> (24 &&& 31)))))) 1 (vp_nar .byte (Int8.toInt32 (Int32.toInt8 (p0 >>> (16 &&& 31)))))) 2 (vp_nar .byte (Int8.toInt32 (Int32.toInt8 (p0 >>> (8 &&& 31)))))) 3 (vp_nar .byte (Int8.toInt32 (Int32.toInt8 (p0 >>> (0 &&& 31)))))) 4 (vp_nar .byte (Int8.toInt32 (Int32.toInt8 (p1 >>> (24 &&& 31)))))) 5 (vp_nar .byte (Int8.toInt32 (Int32.toInt8 (p1 >>> (16 &&& 31)))))) 6 (vp_nar .byte (Int8.toInt32 (Int32.toInt8 (p1 >>> (8 &&& 31)))))) 7 (vp_nar .byte (Int8.toInt32 (Int32.toInt8 (p1 >>> (0 &&& 31)))))) 8 (vp_nar .byte (Int8.toInt32 (Int32.toInt8 (p2 >>> (24 &&& 31)))))) 9 (vp_nar .byte (Int8.toInt32 (Int32.toInt8 (p2 >>> (16 &&& 31)))))) 10 (vp_nar .byte (Int8.toInt32 (Int32.toInt8 (p2 >>> (8 &&& 31))))))))]) rfl (fun H locs hP hD hS => ?_)
  refine lv_iinc (v := 11) (lv' := [(6, .int 11), (0, .ref h0), (1, .int p0), (2, .int p1), (3, .int p2), (4, .int p3), (5, .int p4)]) hx hb dX12_feed_95 hl (k := 0) rfl (by decide) (by decide) rfl (fun ls hl => ?_)
  refine lv_goto (tgt := 55) hx hb dX12_feed_98 (by decide) ?_
  refine lv_iload hx hb dX12_feed_55 (lv_at hl 0 rfl) ?_
  refine lv_bipush (v := 20) hx hb dX12_feed_57 (by decide) ?_
  refine lv_icmp_ge (tgt := 101) hx hb dX12_feed_59 (by decide) (fun h9 => absurd h9 (by decide)) (fun _ => ?_)
  refine lv_aload_n hx hb dX12_feed_62 rfl (lv_at hl 1 rfl) ?_
  refine va_get (D := D) (ci := 12) (v := .ref h2) (C := RX12) (T := TX12) (N := 38) hx hb hB inB_X12 hown hK.1 hP 0 rfl rfl 4 (by decide) (hB _ mw_186) (fun _ h9 => h9) rfl dX12_feed_63 ?_
  refine lv_aload_n hx hb dX12_feed_66 rfl (lv_at hl 1 rfl) ?_
  refine va_get (D := D) (ci := 12) (v := .int 0) (C := RX12) (T := TX12) (N := 38) hx hb hB inB_X12 hown hK.1 hP 0 rfl rfl 5 (by decide) (hB _ mw_443) (fun _ h9 => h9) rfl dX12_feed_67 ?_
  refine lv_iload hx hb dX12_feed_70 (lv_at hl 0 rfl) ?_
  refine lv_iadd hx hb dX12_feed_72 ?_
  refine tp_i (v := 11) (by decide) ?_
  refine lv_aload_n hx hb dX12_feed_73 rfl (lv_at hl 1 rfl) ?_
  refine va_get (D := D) (ci := 12) (v := .ref h1) (C := RX12) (T := TX12) (N := 38) hx hb hB inB_X12 hown hK.1 hP 0 rfl rfl 6 (by decide) (hB _ mw_187) (fun _ h9 => h9) rfl dX12_feed_74 ?_
  refine lv_iload hx hb dX12_feed_77 (lv_at hl 0 rfl) ?_
  refine lv_iconst (v := 4) hx hb dX12_feed_79 (by decide) ?_
  refine lv_idiv hx hb dX12_feed_80 (by decide) ?_
  refine tp_i (v := 2) (by decide) ?_
  refine va_iald hx hb hK.1 hP 1 1 rfl rfl (by unfold vp_in; decide) dX12_feed_81 ?_
  refine tp_i (v := p2) rfl ?_
  refine lv_bipush (v := 24) hx hb dX12_feed_82 (by decide) ?_
  refine lv_bipush (v := 8) hx hb dX12_feed_84 (by decide) ?_
  refine lv_iload hx hb dX12_feed_86 (lv_at hl 0 rfl) ?_
  refine lv_iconst (v := 4) hx hb dX12_feed_88 (by decide) ?_
  refine lv_irem hx hb dX12_feed_89 (by decide) ?_
  refine tp_i (v := 3) (by decide) ?_
  refine lv_imul hx hb dX12_feed_90 ?_
  refine tp_i (v := 24) (by decide) ?_
  refine lv_isub hx hb dX12_feed_91 ?_
  refine tp_i (v := 0) (by decide) ?_
  refine lv_ishr hx hb dX12_feed_92 ?_
  refine lv_i2b (v := (Int8.toInt32 (Int32.toInt8 (p2 >>> (0 &&& 31))))) hx hb dX12_feed_93 rfl ?_
  refine wy_bast hx hb hK hP hD hS 2 0 rfl rfl (by unfold vp_in; decide) dX12_feed_94 (j := 11) (by decide) (y := (vp_nar .byte (Int8.toInt32 (Int32.toInt8 (p2 >>> (0 &&& 31)))))) (by rfl) (ws' := [(h0, .inr (12, [v0, v1, v2, v3, .ref h2, .int 0, .ref h1, v4, v5, v6, v7, v8, v9, v10, v11, v12, v13, v14, v15, v16, v17, v18, v19, v20, v21, v22, v23, v24, v25, v26, v27, v28, v29, v30, v31, v32, v33, v34])), (h1, .inl (ty 1, 5, .inl (upd (upd (upd (upd (upd f0 0 p0) 1 p1) 2 p2) 3 p3) 4 p4))), (h2, .inl (ty 0, 800, .inl (upd (upd (upd (upd (upd (upd (upd (upd (upd (upd (upd (upd f1 0 (vp_nar .byte (Int8.toInt32 (Int32.toInt8 (p0 >>> (24 &&& 31)))))) 1 (vp_nar .byte (Int8.toInt32 (Int32.toInt8 (p0 >>> (16 &&& 31)))))) 2 (vp_nar .byte (Int8.toInt32 (Int32.toInt8 (p0 >>> (8 &&& 31)))))) 3 (vp_nar .byte (Int8.toInt32 (Int32.toInt8 (p0 >>> (0 &&& 31)))))) 4 (vp_nar .byte (Int8.toInt32 (Int32.toInt8 (p1 >>> (24 &&& 31)))))) 5 (vp_nar .byte (Int8.toInt32 (Int32.toInt8 (p1 >>> (16 &&& 31)))))) 6 (vp_nar .byte (Int8.toInt32 (Int32.toInt8 (p1 >>> (8 &&& 31)))))) 7 (vp_nar .byte (Int8.toInt32 (Int32.toInt8 (p1 >>> (0 &&& 31)))))) 8 (vp_nar .byte (Int8.toInt32 (Int32.toInt8 (p2 >>> (24 &&& 31)))))) 9 (vp_nar .byte (Int8.toInt32 (Int32.toInt8 (p2 >>> (16 &&& 31)))))) 10 (vp_nar .byte (Int8.toInt32 (Int32.toInt8 (p2 >>> (8 &&& 31)))))) 11 (vp_nar .byte (Int8.toInt32 (Int32.toInt8 (p2 >>> (0 &&& 31))))))))]) rfl (fun H locs hP hD hS => ?_)
  refine lv_iinc (v := 12) (lv' := [(6, .int 12), (0, .ref h0), (1, .int p0), (2, .int p1), (3, .int p2), (4, .int p3), (5, .int p4)]) hx hb dX12_feed_95 hl (k := 0) rfl (by decide) (by decide) rfl (fun ls hl => ?_)
  refine lv_goto (tgt := 55) hx hb dX12_feed_98 (by decide) ?_
  refine lv_iload hx hb dX12_feed_55 (lv_at hl 0 rfl) ?_
  refine lv_bipush (v := 20) hx hb dX12_feed_57 (by decide) ?_
  refine lv_icmp_ge (tgt := 101) hx hb dX12_feed_59 (by decide) (fun h9 => absurd h9 (by decide)) (fun _ => ?_)
  refine lv_aload_n hx hb dX12_feed_62 rfl (lv_at hl 1 rfl) ?_
  refine va_get (D := D) (ci := 12) (v := .ref h2) (C := RX12) (T := TX12) (N := 38) hx hb hB inB_X12 hown hK.1 hP 0 rfl rfl 4 (by decide) (hB _ mw_186) (fun _ h9 => h9) rfl dX12_feed_63 ?_
  refine lv_aload_n hx hb dX12_feed_66 rfl (lv_at hl 1 rfl) ?_
  refine va_get (D := D) (ci := 12) (v := .int 0) (C := RX12) (T := TX12) (N := 38) hx hb hB inB_X12 hown hK.1 hP 0 rfl rfl 5 (by decide) (hB _ mw_443) (fun _ h9 => h9) rfl dX12_feed_67 ?_
  refine lv_iload hx hb dX12_feed_70 (lv_at hl 0 rfl) ?_
  refine lv_iadd hx hb dX12_feed_72 ?_
  refine tp_i (v := 12) (by decide) ?_
  refine lv_aload_n hx hb dX12_feed_73 rfl (lv_at hl 1 rfl) ?_
  refine va_get (D := D) (ci := 12) (v := .ref h1) (C := RX12) (T := TX12) (N := 38) hx hb hB inB_X12 hown hK.1 hP 0 rfl rfl 6 (by decide) (hB _ mw_187) (fun _ h9 => h9) rfl dX12_feed_74 ?_
  refine lv_iload hx hb dX12_feed_77 (lv_at hl 0 rfl) ?_
  refine lv_iconst (v := 4) hx hb dX12_feed_79 (by decide) ?_
  refine lv_idiv hx hb dX12_feed_80 (by decide) ?_
  refine tp_i (v := 3) (by decide) ?_
  refine va_iald hx hb hK.1 hP 1 1 rfl rfl (by unfold vp_in; decide) dX12_feed_81 ?_
  refine tp_i (v := p3) rfl ?_
  refine lv_bipush (v := 24) hx hb dX12_feed_82 (by decide) ?_
  refine lv_bipush (v := 8) hx hb dX12_feed_84 (by decide) ?_
  refine lv_iload hx hb dX12_feed_86 (lv_at hl 0 rfl) ?_
  refine lv_iconst (v := 4) hx hb dX12_feed_88 (by decide) ?_
  refine lv_irem hx hb dX12_feed_89 (by decide) ?_
  refine tp_i (v := 0) (by decide) ?_
  refine lv_imul hx hb dX12_feed_90 ?_
  refine tp_i (v := 0) (by decide) ?_
  refine lv_isub hx hb dX12_feed_91 ?_
  refine tp_i (v := 24) (by decide) ?_
  refine lv_ishr hx hb dX12_feed_92 ?_
  refine lv_i2b (v := (Int8.toInt32 (Int32.toInt8 (p3 >>> (24 &&& 31))))) hx hb dX12_feed_93 rfl ?_
  refine wy_bast hx hb hK hP hD hS 2 0 rfl rfl (by unfold vp_in; decide) dX12_feed_94 (j := 12) (by decide) (y := (vp_nar .byte (Int8.toInt32 (Int32.toInt8 (p3 >>> (24 &&& 31)))))) (by rfl) (ws' := [(h0, .inr (12, [v0, v1, v2, v3, .ref h2, .int 0, .ref h1, v4, v5, v6, v7, v8, v9, v10, v11, v12, v13, v14, v15, v16, v17, v18, v19, v20, v21, v22, v23, v24, v25, v26, v27, v28, v29, v30, v31, v32, v33, v34])), (h1, .inl (ty 1, 5, .inl (upd (upd (upd (upd (upd f0 0 p0) 1 p1) 2 p2) 3 p3) 4 p4))), (h2, .inl (ty 0, 800, .inl (upd (upd (upd (upd (upd (upd (upd (upd (upd (upd (upd (upd (upd f1 0 (vp_nar .byte (Int8.toInt32 (Int32.toInt8 (p0 >>> (24 &&& 31)))))) 1 (vp_nar .byte (Int8.toInt32 (Int32.toInt8 (p0 >>> (16 &&& 31)))))) 2 (vp_nar .byte (Int8.toInt32 (Int32.toInt8 (p0 >>> (8 &&& 31)))))) 3 (vp_nar .byte (Int8.toInt32 (Int32.toInt8 (p0 >>> (0 &&& 31)))))) 4 (vp_nar .byte (Int8.toInt32 (Int32.toInt8 (p1 >>> (24 &&& 31)))))) 5 (vp_nar .byte (Int8.toInt32 (Int32.toInt8 (p1 >>> (16 &&& 31)))))) 6 (vp_nar .byte (Int8.toInt32 (Int32.toInt8 (p1 >>> (8 &&& 31)))))) 7 (vp_nar .byte (Int8.toInt32 (Int32.toInt8 (p1 >>> (0 &&& 31)))))) 8 (vp_nar .byte (Int8.toInt32 (Int32.toInt8 (p2 >>> (24 &&& 31)))))) 9 (vp_nar .byte (Int8.toInt32 (Int32.toInt8 (p2 >>> (16 &&& 31)))))) 10 (vp_nar .byte (Int8.toInt32 (Int32.toInt8 (p2 >>> (8 &&& 31)))))) 11 (vp_nar .byte (Int8.toInt32 (Int32.toInt8 (p2 >>> (0 &&& 31)))))) 12 (vp_nar .byte (Int8.toInt32 (Int32.toInt8 (p3 >>> (24 &&& 31))))))))]) rfl (fun H locs hP hD hS => ?_)
  refine lv_iinc (v := 13) (lv' := [(6, .int 13), (0, .ref h0), (1, .int p0), (2, .int p1), (3, .int p2), (4, .int p3), (5, .int p4)]) hx hb dX12_feed_95 hl (k := 0) rfl (by decide) (by decide) rfl (fun ls hl => ?_)
  refine lv_goto (tgt := 55) hx hb dX12_feed_98 (by decide) ?_
  refine lv_iload hx hb dX12_feed_55 (lv_at hl 0 rfl) ?_
  refine lv_bipush (v := 20) hx hb dX12_feed_57 (by decide) ?_
  refine lv_icmp_ge (tgt := 101) hx hb dX12_feed_59 (by decide) (fun h9 => absurd h9 (by decide)) (fun _ => ?_)
  refine lv_aload_n hx hb dX12_feed_62 rfl (lv_at hl 1 rfl) ?_
  refine va_get (D := D) (ci := 12) (v := .ref h2) (C := RX12) (T := TX12) (N := 38) hx hb hB inB_X12 hown hK.1 hP 0 rfl rfl 4 (by decide) (hB _ mw_186) (fun _ h9 => h9) rfl dX12_feed_63 ?_
  refine lv_aload_n hx hb dX12_feed_66 rfl (lv_at hl 1 rfl) ?_
  refine va_get (D := D) (ci := 12) (v := .int 0) (C := RX12) (T := TX12) (N := 38) hx hb hB inB_X12 hown hK.1 hP 0 rfl rfl 5 (by decide) (hB _ mw_443) (fun _ h9 => h9) rfl dX12_feed_67 ?_
  refine lv_iload hx hb dX12_feed_70 (lv_at hl 0 rfl) ?_
  refine lv_iadd hx hb dX12_feed_72 ?_
  refine tp_i (v := 13) (by decide) ?_
  refine lv_aload_n hx hb dX12_feed_73 rfl (lv_at hl 1 rfl) ?_
  refine va_get (D := D) (ci := 12) (v := .ref h1) (C := RX12) (T := TX12) (N := 38) hx hb hB inB_X12 hown hK.1 hP 0 rfl rfl 6 (by decide) (hB _ mw_187) (fun _ h9 => h9) rfl dX12_feed_74 ?_
  refine lv_iload hx hb dX12_feed_77 (lv_at hl 0 rfl) ?_
  refine lv_iconst (v := 4) hx hb dX12_feed_79 (by decide) ?_
  refine lv_idiv hx hb dX12_feed_80 (by decide) ?_
  refine tp_i (v := 3) (by decide) ?_
  refine va_iald hx hb hK.1 hP 1 1 rfl rfl (by unfold vp_in; decide) dX12_feed_81 ?_
  refine tp_i (v := p3) rfl ?_
  refine lv_bipush (v := 24) hx hb dX12_feed_82 (by decide) ?_
  refine lv_bipush (v := 8) hx hb dX12_feed_84 (by decide) ?_
  refine lv_iload hx hb dX12_feed_86 (lv_at hl 0 rfl) ?_
  refine lv_iconst (v := 4) hx hb dX12_feed_88 (by decide) ?_
  refine lv_irem hx hb dX12_feed_89 (by decide) ?_
  refine tp_i (v := 1) (by decide) ?_
  refine lv_imul hx hb dX12_feed_90 ?_
  refine tp_i (v := 8) (by decide) ?_
  refine lv_isub hx hb dX12_feed_91 ?_
  refine tp_i (v := 16) (by decide) ?_
  refine lv_ishr hx hb dX12_feed_92 ?_
  refine lv_i2b (v := (Int8.toInt32 (Int32.toInt8 (p3 >>> (16 &&& 31))))) hx hb dX12_feed_93 rfl ?_
  refine wy_bast hx hb hK hP hD hS 2 0 rfl rfl (by unfold vp_in; decide) dX12_feed_94 (j := 13) (by decide) (y := (vp_nar .byte (Int8.toInt32 (Int32.toInt8 (p3 >>> (16 &&& 31)))))) (by rfl) (ws' := [(h0, .inr (12, [v0, v1, v2, v3, .ref h2, .int 0, .ref h1, v4, v5, v6, v7, v8, v9, v10, v11, v12, v13, v14, v15, v16, v17, v18, v19, v20, v21, v22, v23, v24, v25, v26, v27, v28, v29, v30, v31, v32, v33, v34])), (h1, .inl (ty 1, 5, .inl (upd (upd (upd (upd (upd f0 0 p0) 1 p1) 2 p2) 3 p3) 4 p4))), (h2, .inl (ty 0, 800, .inl (upd (upd (upd (upd (upd (upd (upd (upd (upd (upd (upd (upd (upd (upd f1 0 (vp_nar .byte (Int8.toInt32 (Int32.toInt8 (p0 >>> (24 &&& 31)))))) 1 (vp_nar .byte (Int8.toInt32 (Int32.toInt8 (p0 >>> (16 &&& 31)))))) 2 (vp_nar .byte (Int8.toInt32 (Int32.toInt8 (p0 >>> (8 &&& 31)))))) 3 (vp_nar .byte (Int8.toInt32 (Int32.toInt8 (p0 >>> (0 &&& 31)))))) 4 (vp_nar .byte (Int8.toInt32 (Int32.toInt8 (p1 >>> (24 &&& 31)))))) 5 (vp_nar .byte (Int8.toInt32 (Int32.toInt8 (p1 >>> (16 &&& 31)))))) 6 (vp_nar .byte (Int8.toInt32 (Int32.toInt8 (p1 >>> (8 &&& 31)))))) 7 (vp_nar .byte (Int8.toInt32 (Int32.toInt8 (p1 >>> (0 &&& 31)))))) 8 (vp_nar .byte (Int8.toInt32 (Int32.toInt8 (p2 >>> (24 &&& 31)))))) 9 (vp_nar .byte (Int8.toInt32 (Int32.toInt8 (p2 >>> (16 &&& 31)))))) 10 (vp_nar .byte (Int8.toInt32 (Int32.toInt8 (p2 >>> (8 &&& 31)))))) 11 (vp_nar .byte (Int8.toInt32 (Int32.toInt8 (p2 >>> (0 &&& 31)))))) 12 (vp_nar .byte (Int8.toInt32 (Int32.toInt8 (p3 >>> (24 &&& 31)))))) 13 (vp_nar .byte (Int8.toInt32 (Int32.toInt8 (p3 >>> (16 &&& 31))))))))]) rfl (fun H locs hP hD hS => ?_)
  refine lv_iinc (v := 14) (lv' := [(6, .int 14), (0, .ref h0), (1, .int p0), (2, .int p1), (3, .int p2), (4, .int p3), (5, .int p4)]) hx hb dX12_feed_95 hl (k := 0) rfl (by decide) (by decide) rfl (fun ls hl => ?_)
  refine lv_goto (tgt := 55) hx hb dX12_feed_98 (by decide) ?_
  refine lv_iload hx hb dX12_feed_55 (lv_at hl 0 rfl) ?_
  refine lv_bipush (v := 20) hx hb dX12_feed_57 (by decide) ?_
  refine lv_icmp_ge (tgt := 101) hx hb dX12_feed_59 (by decide) (fun h9 => absurd h9 (by decide)) (fun _ => ?_)
  refine lv_aload_n hx hb dX12_feed_62 rfl (lv_at hl 1 rfl) ?_
  refine va_get (D := D) (ci := 12) (v := .ref h2) (C := RX12) (T := TX12) (N := 38) hx hb hB inB_X12 hown hK.1 hP 0 rfl rfl 4 (by decide) (hB _ mw_186) (fun _ h9 => h9) rfl dX12_feed_63 ?_
  refine lv_aload_n hx hb dX12_feed_66 rfl (lv_at hl 1 rfl) ?_
  refine va_get (D := D) (ci := 12) (v := .int 0) (C := RX12) (T := TX12) (N := 38) hx hb hB inB_X12 hown hK.1 hP 0 rfl rfl 5 (by decide) (hB _ mw_443) (fun _ h9 => h9) rfl dX12_feed_67 ?_
  refine lv_iload hx hb dX12_feed_70 (lv_at hl 0 rfl) ?_
  refine lv_iadd hx hb dX12_feed_72 ?_
  refine tp_i (v := 14) (by decide) ?_
  refine lv_aload_n hx hb dX12_feed_73 rfl (lv_at hl 1 rfl) ?_
  refine va_get (D := D) (ci := 12) (v := .ref h1) (C := RX12) (T := TX12) (N := 38) hx hb hB inB_X12 hown hK.1 hP 0 rfl rfl 6 (by decide) (hB _ mw_187) (fun _ h9 => h9) rfl dX12_feed_74 ?_
  refine lv_iload hx hb dX12_feed_77 (lv_at hl 0 rfl) ?_
  refine lv_iconst (v := 4) hx hb dX12_feed_79 (by decide) ?_
  refine lv_idiv hx hb dX12_feed_80 (by decide) ?_
  refine tp_i (v := 3) (by decide) ?_
  refine va_iald hx hb hK.1 hP 1 1 rfl rfl (by unfold vp_in; decide) dX12_feed_81 ?_
  refine tp_i (v := p3) rfl ?_
  refine lv_bipush (v := 24) hx hb dX12_feed_82 (by decide) ?_
  refine lv_bipush (v := 8) hx hb dX12_feed_84 (by decide) ?_
  refine lv_iload hx hb dX12_feed_86 (lv_at hl 0 rfl) ?_
  refine lv_iconst (v := 4) hx hb dX12_feed_88 (by decide) ?_
  refine lv_irem hx hb dX12_feed_89 (by decide) ?_
  refine tp_i (v := 2) (by decide) ?_
  refine lv_imul hx hb dX12_feed_90 ?_
  refine tp_i (v := 16) (by decide) ?_
  refine lv_isub hx hb dX12_feed_91 ?_
  refine tp_i (v := 8) (by decide) ?_
  refine lv_ishr hx hb dX12_feed_92 ?_
  refine lv_i2b (v := (Int8.toInt32 (Int32.toInt8 (p3 >>> (8 &&& 31))))) hx hb dX12_feed_93 rfl ?_
  refine wy_bast hx hb hK hP hD hS 2 0 rfl rfl (by unfold vp_in; decide) dX12_feed_94 (j := 14) (by decide) (y := (vp_nar .byte (Int8.toInt32 (Int32.toInt8 (p3 >>> (8 &&& 31)))))) (by rfl) (ws' := [(h0, .inr (12, [v0, v1, v2, v3, .ref h2, .int 0, .ref h1, v4, v5, v6, v7, v8, v9, v10, v11, v12, v13, v14, v15, v16, v17, v18, v19, v20, v21, v22, v23, v24, v25, v26, v27, v28, v29, v30, v31, v32, v33, v34])), (h1, .inl (ty 1, 5, .inl (upd (upd (upd (upd (upd f0 0 p0) 1 p1) 2 p2) 3 p3) 4 p4))), (h2, .inl (ty 0, 800, .inl (upd (upd (upd (upd (upd (upd (upd (upd (upd (upd (upd (upd (upd (upd (upd f1 0 (vp_nar .byte (Int8.toInt32 (Int32.toInt8 (p0 >>> (24 &&& 31)))))) 1 (vp_nar .byte (Int8.toInt32 (Int32.toInt8 (p0 >>> (16 &&& 31)))))) 2 (vp_nar .byte (Int8.toInt32 (Int32.toInt8 (p0 >>> (8 &&& 31)))))) 3 (vp_nar .byte (Int8.toInt32 (Int32.toInt8 (p0 >>> (0 &&& 31)))))) 4 (vp_nar .byte (Int8.toInt32 (Int32.toInt8 (p1 >>> (24 &&& 31)))))) 5 (vp_nar .byte (Int8.toInt32 (Int32.toInt8 (p1 >>> (16 &&& 31)))))) 6 (vp_nar .byte (Int8.toInt32 (Int32.toInt8 (p1 >>> (8 &&& 31)))))) 7 (vp_nar .byte (Int8.toInt32 (Int32.toInt8 (p1 >>> (0 &&& 31)))))) 8 (vp_nar .byte (Int8.toInt32 (Int32.toInt8 (p2 >>> (24 &&& 31)))))) 9 (vp_nar .byte (Int8.toInt32 (Int32.toInt8 (p2 >>> (16 &&& 31)))))) 10 (vp_nar .byte (Int8.toInt32 (Int32.toInt8 (p2 >>> (8 &&& 31)))))) 11 (vp_nar .byte (Int8.toInt32 (Int32.toInt8 (p2 >>> (0 &&& 31)))))) 12 (vp_nar .byte (Int8.toInt32 (Int32.toInt8 (p3 >>> (24 &&& 31)))))) 13 (vp_nar .byte (Int8.toInt32 (Int32.toInt8 (p3 >>> (16 &&& 31)))))) 14 (vp_nar .byte (Int8.toInt32 (Int32.toInt8 (p3 >>> (8 &&& 31))))))))]) rfl (fun H locs hP hD hS => ?_)
  refine lv_iinc (v := 15) (lv' := [(6, .int 15), (0, .ref h0), (1, .int p0), (2, .int p1), (3, .int p2), (4, .int p3), (5, .int p4)]) hx hb dX12_feed_95 hl (k := 0) rfl (by decide) (by decide) rfl (fun ls hl => ?_)
  refine lv_goto (tgt := 55) hx hb dX12_feed_98 (by decide) ?_
  refine lv_iload hx hb dX12_feed_55 (lv_at hl 0 rfl) ?_
  refine lv_bipush (v := 20) hx hb dX12_feed_57 (by decide) ?_
  refine lv_icmp_ge (tgt := 101) hx hb dX12_feed_59 (by decide) (fun h9 => absurd h9 (by decide)) (fun _ => ?_)
  refine lv_aload_n hx hb dX12_feed_62 rfl (lv_at hl 1 rfl) ?_
  refine va_get (D := D) (ci := 12) (v := .ref h2) (C := RX12) (T := TX12) (N := 38) hx hb hB inB_X12 hown hK.1 hP 0 rfl rfl 4 (by decide) (hB _ mw_186) (fun _ h9 => h9) rfl dX12_feed_63 ?_
  refine lv_aload_n hx hb dX12_feed_66 rfl (lv_at hl 1 rfl) ?_
  refine va_get (D := D) (ci := 12) (v := .int 0) (C := RX12) (T := TX12) (N := 38) hx hb hB inB_X12 hown hK.1 hP 0 rfl rfl 5 (by decide) (hB _ mw_443) (fun _ h9 => h9) rfl dX12_feed_67 ?_
  refine lv_iload hx hb dX12_feed_70 (lv_at hl 0 rfl) ?_
  refine lv_iadd hx hb dX12_feed_72 ?_
  refine tp_i (v := 15) (by decide) ?_
  refine lv_aload_n hx hb dX12_feed_73 rfl (lv_at hl 1 rfl) ?_
  refine va_get (D := D) (ci := 12) (v := .ref h1) (C := RX12) (T := TX12) (N := 38) hx hb hB inB_X12 hown hK.1 hP 0 rfl rfl 6 (by decide) (hB _ mw_187) (fun _ h9 => h9) rfl dX12_feed_74 ?_
  refine lv_iload hx hb dX12_feed_77 (lv_at hl 0 rfl) ?_
  refine lv_iconst (v := 4) hx hb dX12_feed_79 (by decide) ?_
  refine lv_idiv hx hb dX12_feed_80 (by decide) ?_
  refine tp_i (v := 3) (by decide) ?_
  refine va_iald hx hb hK.1 hP 1 1 rfl rfl (by unfold vp_in; decide) dX12_feed_81 ?_
  refine tp_i (v := p3) rfl ?_
  refine lv_bipush (v := 24) hx hb dX12_feed_82 (by decide) ?_
  refine lv_bipush (v := 8) hx hb dX12_feed_84 (by decide) ?_
  refine lv_iload hx hb dX12_feed_86 (lv_at hl 0 rfl) ?_
  refine lv_iconst (v := 4) hx hb dX12_feed_88 (by decide) ?_
  refine lv_irem hx hb dX12_feed_89 (by decide) ?_
  refine tp_i (v := 3) (by decide) ?_
  refine lv_imul hx hb dX12_feed_90 ?_
  refine tp_i (v := 24) (by decide) ?_
  refine lv_isub hx hb dX12_feed_91 ?_
  refine tp_i (v := 0) (by decide) ?_
  refine lv_ishr hx hb dX12_feed_92 ?_
  refine lv_i2b (v := (Int8.toInt32 (Int32.toInt8 (p3 >>> (0 &&& 31))))) hx hb dX12_feed_93 rfl ?_
  refine wy_bast hx hb hK hP hD hS 2 0 rfl rfl (by unfold vp_in; decide) dX12_feed_94 (j := 15) (by decide) (y := (vp_nar .byte (Int8.toInt32 (Int32.toInt8 (p3 >>> (0 &&& 31)))))) (by rfl) (ws' := [(h0, .inr (12, [v0, v1, v2, v3, .ref h2, .int 0, .ref h1, v4, v5, v6, v7, v8, v9, v10, v11, v12, v13, v14, v15, v16, v17, v18, v19, v20, v21, v22, v23, v24, v25, v26, v27, v28, v29, v30, v31, v32, v33, v34])), (h1, .inl (ty 1, 5, .inl (upd (upd (upd (upd (upd f0 0 p0) 1 p1) 2 p2) 3 p3) 4 p4))), (h2, .inl (ty 0, 800, .inl (upd (upd (upd (upd (upd (upd (upd (upd (upd (upd (upd (upd (upd (upd (upd (upd f1 0 (vp_nar .byte (Int8.toInt32 (Int32.toInt8 (p0 >>> (24 &&& 31)))))) 1 (vp_nar .byte (Int8.toInt32 (Int32.toInt8 (p0 >>> (16 &&& 31)))))) 2 (vp_nar .byte (Int8.toInt32 (Int32.toInt8 (p0 >>> (8 &&& 31)))))) 3 (vp_nar .byte (Int8.toInt32 (Int32.toInt8 (p0 >>> (0 &&& 31)))))) 4 (vp_nar .byte (Int8.toInt32 (Int32.toInt8 (p1 >>> (24 &&& 31)))))) 5 (vp_nar .byte (Int8.toInt32 (Int32.toInt8 (p1 >>> (16 &&& 31)))))) 6 (vp_nar .byte (Int8.toInt32 (Int32.toInt8 (p1 >>> (8 &&& 31)))))) 7 (vp_nar .byte (Int8.toInt32 (Int32.toInt8 (p1 >>> (0 &&& 31)))))) 8 (vp_nar .byte (Int8.toInt32 (Int32.toInt8 (p2 >>> (24 &&& 31)))))) 9 (vp_nar .byte (Int8.toInt32 (Int32.toInt8 (p2 >>> (16 &&& 31)))))) 10 (vp_nar .byte (Int8.toInt32 (Int32.toInt8 (p2 >>> (8 &&& 31)))))) 11 (vp_nar .byte (Int8.toInt32 (Int32.toInt8 (p2 >>> (0 &&& 31)))))) 12 (vp_nar .byte (Int8.toInt32 (Int32.toInt8 (p3 >>> (24 &&& 31)))))) 13 (vp_nar .byte (Int8.toInt32 (Int32.toInt8 (p3 >>> (16 &&& 31)))))) 14 (vp_nar .byte (Int8.toInt32 (Int32.toInt8 (p3 >>> (8 &&& 31)))))) 15 (vp_nar .byte (Int8.toInt32 (Int32.toInt8 (p3 >>> (0 &&& 31))))))))]) rfl (fun H locs hP hD hS => ?_)
  refine lv_iinc (v := 16) (lv' := [(6, .int 16), (0, .ref h0), (1, .int p0), (2, .int p1), (3, .int p2), (4, .int p3), (5, .int p4)]) hx hb dX12_feed_95 hl (k := 0) rfl (by decide) (by decide) rfl (fun ls hl => ?_)
  refine lv_goto (tgt := 55) hx hb dX12_feed_98 (by decide) ?_
  refine lv_iload hx hb dX12_feed_55 (lv_at hl 0 rfl) ?_
  refine lv_bipush (v := 20) hx hb dX12_feed_57 (by decide) ?_
  refine lv_icmp_ge (tgt := 101) hx hb dX12_feed_59 (by decide) (fun h9 => absurd h9 (by decide)) (fun _ => ?_)
  refine lv_aload_n hx hb dX12_feed_62 rfl (lv_at hl 1 rfl) ?_
  refine va_get (D := D) (ci := 12) (v := .ref h2) (C := RX12) (T := TX12) (N := 38) hx hb hB inB_X12 hown hK.1 hP 0 rfl rfl 4 (by decide) (hB _ mw_186) (fun _ h9 => h9) rfl dX12_feed_63 ?_
  refine lv_aload_n hx hb dX12_feed_66 rfl (lv_at hl 1 rfl) ?_
  refine va_get (D := D) (ci := 12) (v := .int 0) (C := RX12) (T := TX12) (N := 38) hx hb hB inB_X12 hown hK.1 hP 0 rfl rfl 5 (by decide) (hB _ mw_443) (fun _ h9 => h9) rfl dX12_feed_67 ?_
  refine lv_iload hx hb dX12_feed_70 (lv_at hl 0 rfl) ?_
  refine lv_iadd hx hb dX12_feed_72 ?_
  refine tp_i (v := 16) (by decide) ?_
  refine lv_aload_n hx hb dX12_feed_73 rfl (lv_at hl 1 rfl) ?_
  refine va_get (D := D) (ci := 12) (v := .ref h1) (C := RX12) (T := TX12) (N := 38) hx hb hB inB_X12 hown hK.1 hP 0 rfl rfl 6 (by decide) (hB _ mw_187) (fun _ h9 => h9) rfl dX12_feed_74 ?_
  refine lv_iload hx hb dX12_feed_77 (lv_at hl 0 rfl) ?_
  refine lv_iconst (v := 4) hx hb dX12_feed_79 (by decide) ?_
  refine lv_idiv hx hb dX12_feed_80 (by decide) ?_
  refine tp_i (v := 4) (by decide) ?_
  refine va_iald hx hb hK.1 hP 1 1 rfl rfl (by unfold vp_in; decide) dX12_feed_81 ?_
  refine tp_i (v := p4) rfl ?_
  refine lv_bipush (v := 24) hx hb dX12_feed_82 (by decide) ?_
  refine lv_bipush (v := 8) hx hb dX12_feed_84 (by decide) ?_
  refine lv_iload hx hb dX12_feed_86 (lv_at hl 0 rfl) ?_
  refine lv_iconst (v := 4) hx hb dX12_feed_88 (by decide) ?_
  refine lv_irem hx hb dX12_feed_89 (by decide) ?_
  refine tp_i (v := 0) (by decide) ?_
  refine lv_imul hx hb dX12_feed_90 ?_
  refine tp_i (v := 0) (by decide) ?_
  refine lv_isub hx hb dX12_feed_91 ?_
  refine tp_i (v := 24) (by decide) ?_
  refine lv_ishr hx hb dX12_feed_92 ?_
  refine lv_i2b (v := (Int8.toInt32 (Int32.toInt8 (p4 >>> (24 &&& 31))))) hx hb dX12_feed_93 rfl ?_
  refine wy_bast hx hb hK hP hD hS 2 0 rfl rfl (by unfold vp_in; decide) dX12_feed_94 (j := 16) (by decide) (y := (vp_nar .byte (Int8.toInt32 (Int32.toInt8 (p4 >>> (24 &&& 31)))))) (by rfl) (ws' := [(h0, .inr (12, [v0, v1, v2, v3, .ref h2, .int 0, .ref h1, v4, v5, v6, v7, v8, v9, v10, v11, v12, v13, v14, v15, v16, v17, v18, v19, v20, v21, v22, v23, v24, v25, v26, v27, v28, v29, v30, v31, v32, v33, v34])), (h1, .inl (ty 1, 5, .inl (upd (upd (upd (upd (upd f0 0 p0) 1 p1) 2 p2) 3 p3) 4 p4))), (h2, .inl (ty 0, 800, .inl (upd (upd (upd (upd (upd (upd (upd (upd (upd (upd (upd (upd (upd (upd (upd (upd (upd f1 0 (vp_nar .byte (Int8.toInt32 (Int32.toInt8 (p0 >>> (24 &&& 31)))))) 1 (vp_nar .byte (Int8.toInt32 (Int32.toInt8 (p0 >>> (16 &&& 31)))))) 2 (vp_nar .byte (Int8.toInt32 (Int32.toInt8 (p0 >>> (8 &&& 31)))))) 3 (vp_nar .byte (Int8.toInt32 (Int32.toInt8 (p0 >>> (0 &&& 31)))))) 4 (vp_nar .byte (Int8.toInt32 (Int32.toInt8 (p1 >>> (24 &&& 31)))))) 5 (vp_nar .byte (Int8.toInt32 (Int32.toInt8 (p1 >>> (16 &&& 31)))))) 6 (vp_nar .byte (Int8.toInt32 (Int32.toInt8 (p1 >>> (8 &&& 31)))))) 7 (vp_nar .byte (Int8.toInt32 (Int32.toInt8 (p1 >>> (0 &&& 31)))))) 8 (vp_nar .byte (Int8.toInt32 (Int32.toInt8 (p2 >>> (24 &&& 31)))))) 9 (vp_nar .byte (Int8.toInt32 (Int32.toInt8 (p2 >>> (16 &&& 31)))))) 10 (vp_nar .byte (Int8.toInt32 (Int32.toInt8 (p2 >>> (8 &&& 31)))))) 11 (vp_nar .byte (Int8.toInt32 (Int32.toInt8 (p2 >>> (0 &&& 31)))))) 12 (vp_nar .byte (Int8.toInt32 (Int32.toInt8 (p3 >>> (24 &&& 31)))))) 13 (vp_nar .byte (Int8.toInt32 (Int32.toInt8 (p3 >>> (16 &&& 31)))))) 14 (vp_nar .byte (Int8.toInt32 (Int32.toInt8 (p3 >>> (8 &&& 31)))))) 15 (vp_nar .byte (Int8.toInt32 (Int32.toInt8 (p3 >>> (0 &&& 31)))))) 16 (vp_nar .byte (Int8.toInt32 (Int32.toInt8 (p4 >>> (24 &&& 31))))))))]) rfl (fun H locs hP hD hS => ?_)
  refine lv_iinc (v := 17) (lv' := [(6, .int 17), (0, .ref h0), (1, .int p0), (2, .int p1), (3, .int p2), (4, .int p3), (5, .int p4)]) hx hb dX12_feed_95 hl (k := 0) rfl (by decide) (by decide) rfl (fun ls hl => ?_)
  refine lv_goto (tgt := 55) hx hb dX12_feed_98 (by decide) ?_
  refine lv_iload hx hb dX12_feed_55 (lv_at hl 0 rfl) ?_
  refine lv_bipush (v := 20) hx hb dX12_feed_57 (by decide) ?_
  refine lv_icmp_ge (tgt := 101) hx hb dX12_feed_59 (by decide) (fun h9 => absurd h9 (by decide)) (fun _ => ?_)
  refine lv_aload_n hx hb dX12_feed_62 rfl (lv_at hl 1 rfl) ?_
  refine va_get (D := D) (ci := 12) (v := .ref h2) (C := RX12) (T := TX12) (N := 38) hx hb hB inB_X12 hown hK.1 hP 0 rfl rfl 4 (by decide) (hB _ mw_186) (fun _ h9 => h9) rfl dX12_feed_63 ?_
  refine lv_aload_n hx hb dX12_feed_66 rfl (lv_at hl 1 rfl) ?_
  refine va_get (D := D) (ci := 12) (v := .int 0) (C := RX12) (T := TX12) (N := 38) hx hb hB inB_X12 hown hK.1 hP 0 rfl rfl 5 (by decide) (hB _ mw_443) (fun _ h9 => h9) rfl dX12_feed_67 ?_
  refine lv_iload hx hb dX12_feed_70 (lv_at hl 0 rfl) ?_
  refine lv_iadd hx hb dX12_feed_72 ?_
  refine tp_i (v := 17) (by decide) ?_
  refine lv_aload_n hx hb dX12_feed_73 rfl (lv_at hl 1 rfl) ?_
  refine va_get (D := D) (ci := 12) (v := .ref h1) (C := RX12) (T := TX12) (N := 38) hx hb hB inB_X12 hown hK.1 hP 0 rfl rfl 6 (by decide) (hB _ mw_187) (fun _ h9 => h9) rfl dX12_feed_74 ?_
  refine lv_iload hx hb dX12_feed_77 (lv_at hl 0 rfl) ?_
  refine lv_iconst (v := 4) hx hb dX12_feed_79 (by decide) ?_
  refine lv_idiv hx hb dX12_feed_80 (by decide) ?_
  refine tp_i (v := 4) (by decide) ?_
  refine va_iald hx hb hK.1 hP 1 1 rfl rfl (by unfold vp_in; decide) dX12_feed_81 ?_
  refine tp_i (v := p4) rfl ?_
  refine lv_bipush (v := 24) hx hb dX12_feed_82 (by decide) ?_
  refine lv_bipush (v := 8) hx hb dX12_feed_84 (by decide) ?_
  refine lv_iload hx hb dX12_feed_86 (lv_at hl 0 rfl) ?_
  refine lv_iconst (v := 4) hx hb dX12_feed_88 (by decide) ?_
  refine lv_irem hx hb dX12_feed_89 (by decide) ?_
  refine tp_i (v := 1) (by decide) ?_
  refine lv_imul hx hb dX12_feed_90 ?_
  refine tp_i (v := 8) (by decide) ?_
  refine lv_isub hx hb dX12_feed_91 ?_
  refine tp_i (v := 16) (by decide) ?_
  refine lv_ishr hx hb dX12_feed_92 ?_
  refine lv_i2b (v := (Int8.toInt32 (Int32.toInt8 (p4 >>> (16 &&& 31))))) hx hb dX12_feed_93 rfl ?_
  refine wy_bast hx hb hK hP hD hS 2 0 rfl rfl (by unfold vp_in; decide) dX12_feed_94 (j := 17) (by decide) (y := (vp_nar .byte (Int8.toInt32 (Int32.toInt8 (p4 >>> (16 &&& 31)))))) (by rfl) (ws' := [(h0, .inr (12, [v0, v1, v2, v3, .ref h2, .int 0, .ref h1, v4, v5, v6, v7, v8, v9, v10, v11, v12, v13, v14, v15, v16, v17, v18, v19, v20, v21, v22, v23, v24, v25, v26, v27, v28, v29, v30, v31, v32, v33, v34])), (h1, .inl (ty 1, 5, .inl (upd (upd (upd (upd (upd f0 0 p0) 1 p1) 2 p2) 3 p3) 4 p4))), (h2, .inl (ty 0, 800, .inl (upd (upd (upd (upd (upd (upd (upd (upd (upd (upd (upd (upd (upd (upd (upd (upd (upd (upd f1 0 (vp_nar .byte (Int8.toInt32 (Int32.toInt8 (p0 >>> (24 &&& 31)))))) 1 (vp_nar .byte (Int8.toInt32 (Int32.toInt8 (p0 >>> (16 &&& 31)))))) 2 (vp_nar .byte (Int8.toInt32 (Int32.toInt8 (p0 >>> (8 &&& 31)))))) 3 (vp_nar .byte (Int8.toInt32 (Int32.toInt8 (p0 >>> (0 &&& 31)))))) 4 (vp_nar .byte (Int8.toInt32 (Int32.toInt8 (p1 >>> (24 &&& 31)))))) 5 (vp_nar .byte (Int8.toInt32 (Int32.toInt8 (p1 >>> (16 &&& 31)))))) 6 (vp_nar .byte (Int8.toInt32 (Int32.toInt8 (p1 >>> (8 &&& 31)))))) 7 (vp_nar .byte (Int8.toInt32 (Int32.toInt8 (p1 >>> (0 &&& 31)))))) 8 (vp_nar .byte (Int8.toInt32 (Int32.toInt8 (p2 >>> (24 &&& 31)))))) 9 (vp_nar .byte (Int8.toInt32 (Int32.toInt8 (p2 >>> (16 &&& 31)))))) 10 (vp_nar .byte (Int8.toInt32 (Int32.toInt8 (p2 >>> (8 &&& 31)))))) 11 (vp_nar .byte (Int8.toInt32 (Int32.toInt8 (p2 >>> (0 &&& 31)))))) 12 (vp_nar .byte (Int8.toInt32 (Int32.toInt8 (p3 >>> (24 &&& 31)))))) 13 (vp_nar .byte (Int8.toInt32 (Int32.toInt8 (p3 >>> (16 &&& 31)))))) 14 (vp_nar .byte (Int8.toInt32 (Int32.toInt8 (p3 >>> (8 &&& 31)))))) 15 (vp_nar .byte (Int8.toInt32 (Int32.toInt8 (p3 >>> (0 &&& 31)))))) 16 (vp_nar .byte (Int8.toInt32 (Int32.toInt8 (p4 >>> (24 &&& 31)))))) 17 (vp_nar .byte (Int8.toInt32 (Int32.toInt8 (p4 >>> (16 &&& 31))))))))]) rfl (fun H locs hP hD hS => ?_)
  refine lv_iinc (v := 18) (lv' := [(6, .int 18), (0, .ref h0), (1, .int p0), (2, .int p1), (3, .int p2), (4, .int p3), (5, .int p4)]) hx hb dX12_feed_95 hl (k := 0) rfl (by decide) (by decide) rfl (fun ls hl => ?_)
  refine lv_goto (tgt := 55) hx hb dX12_feed_98 (by decide) ?_
  refine lv_iload hx hb dX12_feed_55 (lv_at hl 0 rfl) ?_
  refine lv_bipush (v := 20) hx hb dX12_feed_57 (by decide) ?_
  refine lv_icmp_ge (tgt := 101) hx hb dX12_feed_59 (by decide) (fun h9 => absurd h9 (by decide)) (fun _ => ?_)
  refine lv_aload_n hx hb dX12_feed_62 rfl (lv_at hl 1 rfl) ?_
  refine va_get (D := D) (ci := 12) (v := .ref h2) (C := RX12) (T := TX12) (N := 38) hx hb hB inB_X12 hown hK.1 hP 0 rfl rfl 4 (by decide) (hB _ mw_186) (fun _ h9 => h9) rfl dX12_feed_63 ?_
  refine lv_aload_n hx hb dX12_feed_66 rfl (lv_at hl 1 rfl) ?_
  refine va_get (D := D) (ci := 12) (v := .int 0) (C := RX12) (T := TX12) (N := 38) hx hb hB inB_X12 hown hK.1 hP 0 rfl rfl 5 (by decide) (hB _ mw_443) (fun _ h9 => h9) rfl dX12_feed_67 ?_
  refine lv_iload hx hb dX12_feed_70 (lv_at hl 0 rfl) ?_
  refine lv_iadd hx hb dX12_feed_72 ?_
  refine tp_i (v := 18) (by decide) ?_
  refine lv_aload_n hx hb dX12_feed_73 rfl (lv_at hl 1 rfl) ?_
  refine va_get (D := D) (ci := 12) (v := .ref h1) (C := RX12) (T := TX12) (N := 38) hx hb hB inB_X12 hown hK.1 hP 0 rfl rfl 6 (by decide) (hB _ mw_187) (fun _ h9 => h9) rfl dX12_feed_74 ?_
  refine lv_iload hx hb dX12_feed_77 (lv_at hl 0 rfl) ?_
  refine lv_iconst (v := 4) hx hb dX12_feed_79 (by decide) ?_
  refine lv_idiv hx hb dX12_feed_80 (by decide) ?_
  refine tp_i (v := 4) (by decide) ?_
  refine va_iald hx hb hK.1 hP 1 1 rfl rfl (by unfold vp_in; decide) dX12_feed_81 ?_
  refine tp_i (v := p4) rfl ?_
  refine lv_bipush (v := 24) hx hb dX12_feed_82 (by decide) ?_
  refine lv_bipush (v := 8) hx hb dX12_feed_84 (by decide) ?_
  refine lv_iload hx hb dX12_feed_86 (lv_at hl 0 rfl) ?_
  refine lv_iconst (v := 4) hx hb dX12_feed_88 (by decide) ?_
  refine lv_irem hx hb dX12_feed_89 (by decide) ?_
  refine tp_i (v := 2) (by decide) ?_
  refine lv_imul hx hb dX12_feed_90 ?_
  refine tp_i (v := 16) (by decide) ?_
  refine lv_isub hx hb dX12_feed_91 ?_
  refine tp_i (v := 8) (by decide) ?_
  refine lv_ishr hx hb dX12_feed_92 ?_
  refine lv_i2b (v := (Int8.toInt32 (Int32.toInt8 (p4 >>> (8 &&& 31))))) hx hb dX12_feed_93 rfl ?_
  refine wy_bast hx hb hK hP hD hS 2 0 rfl rfl (by unfold vp_in; decide) dX12_feed_94 (j := 18) (by decide) (y := (vp_nar .byte (Int8.toInt32 (Int32.toInt8 (p4 >>> (8 &&& 31)))))) (by rfl) (ws' := [(h0, .inr (12, [v0, v1, v2, v3, .ref h2, .int 0, .ref h1, v4, v5, v6, v7, v8, v9, v10, v11, v12, v13, v14, v15, v16, v17, v18, v19, v20, v21, v22, v23, v24, v25, v26, v27, v28, v29, v30, v31, v32, v33, v34])), (h1, .inl (ty 1, 5, .inl (upd (upd (upd (upd (upd f0 0 p0) 1 p1) 2 p2) 3 p3) 4 p4))), (h2, .inl (ty 0, 800, .inl (upd (upd (upd (upd (upd (upd (upd (upd (upd (upd (upd (upd (upd (upd (upd (upd (upd (upd (upd f1 0 (vp_nar .byte (Int8.toInt32 (Int32.toInt8 (p0 >>> (24 &&& 31)))))) 1 (vp_nar .byte (Int8.toInt32 (Int32.toInt8 (p0 >>> (16 &&& 31)))))) 2 (vp_nar .byte (Int8.toInt32 (Int32.toInt8 (p0 >>> (8 &&& 31)))))) 3 (vp_nar .byte (Int8.toInt32 (Int32.toInt8 (p0 >>> (0 &&& 31)))))) 4 (vp_nar .byte (Int8.toInt32 (Int32.toInt8 (p1 >>> (24 &&& 31)))))) 5 (vp_nar .byte (Int8.toInt32 (Int32.toInt8 (p1 >>> (16 &&& 31)))))) 6 (vp_nar .byte (Int8.toInt32 (Int32.toInt8 (p1 >>> (8 &&& 31)))))) 7 (vp_nar .byte (Int8.toInt32 (Int32.toInt8 (p1 >>> (0 &&& 31)))))) 8 (vp_nar .byte (Int8.toInt32 (Int32.toInt8 (p2 >>> (24 &&& 31)))))) 9 (vp_nar .byte (Int8.toInt32 (Int32.toInt8 (p2 >>> (16 &&& 31)))))) 10 (vp_nar .byte (Int8.toInt32 (Int32.toInt8 (p2 >>> (8 &&& 31)))))) 11 (vp_nar .byte (Int8.toInt32 (Int32.toInt8 (p2 >>> (0 &&& 31)))))) 12 (vp_nar .byte (Int8.toInt32 (Int32.toInt8 (p3 >>> (24 &&& 31)))))) 13 (vp_nar .byte (Int8.toInt32 (Int32.toInt8 (p3 >>> (16 &&& 31)))))) 14 (vp_nar .byte (Int8.toInt32 (Int32.toInt8 (p3 >>> (8 &&& 31)))))) 15 (vp_nar .byte (Int8.toInt32 (Int32.toInt8 (p3 >>> (0 &&& 31)))))) 16 (vp_nar .byte (Int8.toInt32 (Int32.toInt8 (p4 >>> (24 &&& 31)))))) 17 (vp_nar .byte (Int8.toInt32 (Int32.toInt8 (p4 >>> (16 &&& 31)))))) 18 (vp_nar .byte (Int8.toInt32 (Int32.toInt8 (p4 >>> (8 &&& 31))))))))]) rfl (fun H locs hP hD hS => ?_)
  refine lv_iinc (v := 19) (lv' := [(6, .int 19), (0, .ref h0), (1, .int p0), (2, .int p1), (3, .int p2), (4, .int p3), (5, .int p4)]) hx hb dX12_feed_95 hl (k := 0) rfl (by decide) (by decide) rfl (fun ls hl => ?_)
  refine lv_goto (tgt := 55) hx hb dX12_feed_98 (by decide) ?_
  refine lv_iload hx hb dX12_feed_55 (lv_at hl 0 rfl) ?_
  refine lv_bipush (v := 20) hx hb dX12_feed_57 (by decide) ?_
  refine lv_icmp_ge (tgt := 101) hx hb dX12_feed_59 (by decide) (fun h9 => absurd h9 (by decide)) (fun _ => ?_)
  refine lv_aload_n hx hb dX12_feed_62 rfl (lv_at hl 1 rfl) ?_
  refine va_get (D := D) (ci := 12) (v := .ref h2) (C := RX12) (T := TX12) (N := 38) hx hb hB inB_X12 hown hK.1 hP 0 rfl rfl 4 (by decide) (hB _ mw_186) (fun _ h9 => h9) rfl dX12_feed_63 ?_
  refine lv_aload_n hx hb dX12_feed_66 rfl (lv_at hl 1 rfl) ?_
  refine va_get (D := D) (ci := 12) (v := .int 0) (C := RX12) (T := TX12) (N := 38) hx hb hB inB_X12 hown hK.1 hP 0 rfl rfl 5 (by decide) (hB _ mw_443) (fun _ h9 => h9) rfl dX12_feed_67 ?_
  refine lv_iload hx hb dX12_feed_70 (lv_at hl 0 rfl) ?_
  refine lv_iadd hx hb dX12_feed_72 ?_
  refine tp_i (v := 19) (by decide) ?_
  refine lv_aload_n hx hb dX12_feed_73 rfl (lv_at hl 1 rfl) ?_
  refine va_get (D := D) (ci := 12) (v := .ref h1) (C := RX12) (T := TX12) (N := 38) hx hb hB inB_X12 hown hK.1 hP 0 rfl rfl 6 (by decide) (hB _ mw_187) (fun _ h9 => h9) rfl dX12_feed_74 ?_
  refine lv_iload hx hb dX12_feed_77 (lv_at hl 0 rfl) ?_
  refine lv_iconst (v := 4) hx hb dX12_feed_79 (by decide) ?_
  refine lv_idiv hx hb dX12_feed_80 (by decide) ?_
  refine tp_i (v := 4) (by decide) ?_
  refine va_iald hx hb hK.1 hP 1 1 rfl rfl (by unfold vp_in; decide) dX12_feed_81 ?_
  refine tp_i (v := p4) rfl ?_
  refine lv_bipush (v := 24) hx hb dX12_feed_82 (by decide) ?_
  refine lv_bipush (v := 8) hx hb dX12_feed_84 (by decide) ?_
  refine lv_iload hx hb dX12_feed_86 (lv_at hl 0 rfl) ?_
  refine lv_iconst (v := 4) hx hb dX12_feed_88 (by decide) ?_
  refine lv_irem hx hb dX12_feed_89 (by decide) ?_
  refine tp_i (v := 3) (by decide) ?_
  refine lv_imul hx hb dX12_feed_90 ?_
  refine tp_i (v := 24) (by decide) ?_
  refine lv_isub hx hb dX12_feed_91 ?_
  refine tp_i (v := 0) (by decide) ?_
  refine lv_ishr hx hb dX12_feed_92 ?_
  refine lv_i2b (v := (Int8.toInt32 (Int32.toInt8 (p4 >>> (0 &&& 31))))) hx hb dX12_feed_93 rfl ?_
  refine wy_bast hx hb hK hP hD hS 2 0 rfl rfl (by unfold vp_in; decide) dX12_feed_94 (j := 19) (by decide) (y := (vp_nar .byte (Int8.toInt32 (Int32.toInt8 (p4 >>> (0 &&& 31)))))) (by rfl) (ws' := [(h0, .inr (12, [v0, v1, v2, v3, .ref h2, .int 0, .ref h1, v4, v5, v6, v7, v8, v9, v10, v11, v12, v13, v14, v15, v16, v17, v18, v19, v20, v21, v22, v23, v24, v25, v26, v27, v28, v29, v30, v31, v32, v33, v34])), (h1, .inl (ty 1, 5, .inl (upd (upd (upd (upd (upd f0 0 p0) 1 p1) 2 p2) 3 p3) 4 p4))), (h2, .inl (ty 0, 800, .inl (upd (upd (upd (upd (upd (upd (upd (upd (upd (upd (upd (upd (upd (upd (upd (upd (upd (upd (upd (upd f1 0 (vp_nar .byte (Int8.toInt32 (Int32.toInt8 (p0 >>> (24 &&& 31)))))) 1 (vp_nar .byte (Int8.toInt32 (Int32.toInt8 (p0 >>> (16 &&& 31)))))) 2 (vp_nar .byte (Int8.toInt32 (Int32.toInt8 (p0 >>> (8 &&& 31)))))) 3 (vp_nar .byte (Int8.toInt32 (Int32.toInt8 (p0 >>> (0 &&& 31)))))) 4 (vp_nar .byte (Int8.toInt32 (Int32.toInt8 (p1 >>> (24 &&& 31)))))) 5 (vp_nar .byte (Int8.toInt32 (Int32.toInt8 (p1 >>> (16 &&& 31)))))) 6 (vp_nar .byte (Int8.toInt32 (Int32.toInt8 (p1 >>> (8 &&& 31)))))) 7 (vp_nar .byte (Int8.toInt32 (Int32.toInt8 (p1 >>> (0 &&& 31)))))) 8 (vp_nar .byte (Int8.toInt32 (Int32.toInt8 (p2 >>> (24 &&& 31)))))) 9 (vp_nar .byte (Int8.toInt32 (Int32.toInt8 (p2 >>> (16 &&& 31)))))) 10 (vp_nar .byte (Int8.toInt32 (Int32.toInt8 (p2 >>> (8 &&& 31)))))) 11 (vp_nar .byte (Int8.toInt32 (Int32.toInt8 (p2 >>> (0 &&& 31)))))) 12 (vp_nar .byte (Int8.toInt32 (Int32.toInt8 (p3 >>> (24 &&& 31)))))) 13 (vp_nar .byte (Int8.toInt32 (Int32.toInt8 (p3 >>> (16 &&& 31)))))) 14 (vp_nar .byte (Int8.toInt32 (Int32.toInt8 (p3 >>> (8 &&& 31)))))) 15 (vp_nar .byte (Int8.toInt32 (Int32.toInt8 (p3 >>> (0 &&& 31)))))) 16 (vp_nar .byte (Int8.toInt32 (Int32.toInt8 (p4 >>> (24 &&& 31)))))) 17 (vp_nar .byte (Int8.toInt32 (Int32.toInt8 (p4 >>> (16 &&& 31)))))) 18 (vp_nar .byte (Int8.toInt32 (Int32.toInt8 (p4 >>> (8 &&& 31)))))) 19 (vp_nar .byte (Int8.toInt32 (Int32.toInt8 (p4 >>> (0 &&& 31))))))))]) rfl (fun H locs hP hD hS => ?_)
  refine lv_iinc (v := 20) (lv' := [(6, .int 20), (0, .ref h0), (1, .int p0), (2, .int p1), (3, .int p2), (4, .int p3), (5, .int p4)]) hx hb dX12_feed_95 hl (k := 0) rfl (by decide) (by decide) rfl (fun ls hl => ?_)
  refine lv_goto (tgt := 55) hx hb dX12_feed_98 (by decide) ?_
  refine lv_iload hx hb dX12_feed_55 (lv_at hl 0 rfl) ?_
  refine lv_bipush (v := 20) hx hb dX12_feed_57 (by decide) ?_
  refine lv_icmp_ge (tgt := 101) hx hb dX12_feed_59 (by decide) (fun _ => ?_) (fun h9 => absurd (by decide) h9)
  refine lv_aload_n hx hb dX12_feed_101 rfl (lv_at hl 1 rfl) ?_
  refine lv_dup hx hb dX12_feed_102 rfl ?_
  refine va_get (D := D) (ci := 12) (v := .int 0) (C := RX12) (T := TX12) (N := 38) hx hb hB inB_X12 hown hK.1 hP 0 rfl rfl 5 (by decide) (hB _ mw_443) (fun _ h9 => h9) rfl dX12_feed_103 ?_
  refine lv_bipush (v := 20) hx hb dX12_feed_106 (by decide) ?_
  refine lv_iadd hx hb dX12_feed_108 ?_
  refine tp_i (v := 20) (by decide) ?_
  refine wy_put (D := D) (ci := 12) (v := .int 20) (fty := .int) (C := RX12) (T := TX12) (N := 38) hx hb hB inB_X12 tyX12 tyX12_ok nmX12 hown hK hP hD hS 0 rfl rfl 5 (by decide) mw_443 (fun _ h9 => h9) rfl (by decide +kernel) rfl rfl (Nat.le_of_ble_eq_true rfl) dX12_feed_109 (ws' := [(h0, .inr (12, [v0, v1, v2, v3, .ref h2, .int 20, .ref h1, v4, v5, v6, v7, v8, v9, v10, v11, v12, v13, v14, v15, v16, v17, v18, v19, v20, v21, v22, v23, v24, v25, v26, v27, v28, v29, v30, v31, v32, v33, v34])), (h1, .inl (ty 1, 5, .inl (upd (upd (upd (upd (upd f0 0 p0) 1 p1) 2 p2) 3 p3) 4 p4))), (h2, .inl (ty 0, 800, .inl (upd (upd (upd (upd (upd (upd (upd (upd (upd (upd (upd (upd (upd (upd (upd (upd (upd (upd (upd (upd f1 0 (vp_nar .byte (Int8.toInt32 (Int32.toInt8 (p0 >>> (24 &&& 31)))))) 1 (vp_nar .byte (Int8.toInt32 (Int32.toInt8 (p0 >>> (16 &&& 31)))))) 2 (vp_nar .byte (Int8.toInt32 (Int32.toInt8 (p0 >>> (8 &&& 31)))))) 3 (vp_nar .byte (Int8.toInt32 (Int32.toInt8 (p0 >>> (0 &&& 31)))))) 4 (vp_nar .byte (Int8.toInt32 (Int32.toInt8 (p1 >>> (24 &&& 31)))))) 5 (vp_nar .byte (Int8.toInt32 (Int32.toInt8 (p1 >>> (16 &&& 31)))))) 6 (vp_nar .byte (Int8.toInt32 (Int32.toInt8 (p1 >>> (8 &&& 31)))))) 7 (vp_nar .byte (Int8.toInt32 (Int32.toInt8 (p1 >>> (0 &&& 31)))))) 8 (vp_nar .byte (Int8.toInt32 (Int32.toInt8 (p2 >>> (24 &&& 31)))))) 9 (vp_nar .byte (Int8.toInt32 (Int32.toInt8 (p2 >>> (16 &&& 31)))))) 10 (vp_nar .byte (Int8.toInt32 (Int32.toInt8 (p2 >>> (8 &&& 31)))))) 11 (vp_nar .byte (Int8.toInt32 (Int32.toInt8 (p2 >>> (0 &&& 31)))))) 12 (vp_nar .byte (Int8.toInt32 (Int32.toInt8 (p3 >>> (24 &&& 31)))))) 13 (vp_nar .byte (Int8.toInt32 (Int32.toInt8 (p3 >>> (16 &&& 31)))))) 14 (vp_nar .byte (Int8.toInt32 (Int32.toInt8 (p3 >>> (8 &&& 31)))))) 15 (vp_nar .byte (Int8.toInt32 (Int32.toInt8 (p3 >>> (0 &&& 31)))))) 16 (vp_nar .byte (Int8.toInt32 (Int32.toInt8 (p4 >>> (24 &&& 31)))))) 17 (vp_nar .byte (Int8.toInt32 (Int32.toInt8 (p4 >>> (16 &&& 31)))))) 18 (vp_nar .byte (Int8.toInt32 (Int32.toInt8 (p4 >>> (8 &&& 31)))))) 19 (vp_nar .byte (Int8.toInt32 (Int32.toInt8 (p4 >>> (0 &&& 31))))))))]) rfl (fun H locs hP hD hS => ?_)
  refine lv_aload_n hx hb dX12_feed_112 rfl (lv_at hl 1 rfl) ?_
  refine va_get (D := D) (ci := 12) (v := .int 20) (C := RX12) (T := TX12) (N := 38) hx hb hB inB_X12 hown hK.1 hP 0 rfl rfl 5 (by decide) (hB _ mw_443) (fun _ h9 => h9) rfl dX12_feed_113 ?_
  exact kr_z hx hb hr rfl hlocks hP hD hS [] [] (by decide) rfl ⟨rfl, rfl⟩ (by decide) (by decide) dX12_feed_116
