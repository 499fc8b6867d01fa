set_option maxHeartbeats 4000000 in
set_option maxRecDepth 100000 in
theorem c16_X2_goToward (l : Launch) (D : va_G) (ty : Nat → ClassId) (sz : Nat) (h0 : Nat) (h1 : Nat) (h2 : Nat) (h3 : Nat) (h4 : Nat) (v0 : Value) (v1 : Value) (v2 : Value) (v3 : Value) (v4 : Value) (f0 : Nat → Int32) (v5 : Value) (v6 : Value) (v7 : Value) (v8 : Value) (v9 : Value) (v10 : Value) (v11 : Value) (v12 : Value) (v13 : Value) (v14 : Value) (v15 : Value) (v16 : Value) (v17 : Value) (v18 : Value) (v19 : Value) (v20 : Value) (f1 : Nat → Int32) : cQ l yX2_goToward cX2_goToward 12 none 1 25 [.ref h0, .ref h2, .ref h4, .int 0, .int 0] D ty [(h0, .inr (2, [.ref h1, v0, v1, v2, v3, v4])), (h1, .inl (ty 1, 16, .inl f0)), (h2, .inr (8, [v5, .int 2, v6, v7, v8, v9, v10, v11, v12, v13, v14, v15, v16, v17, .ref h3, v18, v19, v20])), (h3, .inl (ty 1, 17, .inl (upd (upd (upd f1 0 0) 1 0) 2 0)))] sz (qV (fun (u : va_W) => [(h3, .inl (ty 1, 17, .inl (upd (upd (upd f1 0 0) 1 0) 2 0))), (h2, .inr (8, [v5, .int 2, v6, v7, v8, v9, v10, v11, v12, v13, v14, v15, v16, v17, .ref h3, v18, v19, v20])), (h0, .inr (2, [.ref h1, v0, v1, v2, v3, v4])), (h1, .inl (ty 1, 16, .inl (upd (kf 1000000) 0 0)))] = u)) 0 0 := by
  refine cQ.of (by decide) (Nat.le_of_ble_eq_true rfl) (fun p e s m below meth c A ls C hsz hP hK hD hA hl => ?_)
  obtain ⟨hx, hb, hml, hown, hB, hr, hlocks, hin⟩ := C
  have hown : s.vm.findClass RX2 = some m.cls := hown
  have hS : va_S A s.heap s.heap [] := va_S.rf
  have hl : lv_has ls 12 [(0, .ref h0), (1, .ref h2), (2, .ref h4), (3, .int 0), (4, .int 0)] := hl
  refine lv_aload_n hx hb dX2_goToward_0 rfl (lv_at hl 0 rfl) ?_
  refine va_get (D := D) (ci := 2) (v := .ref h1) (C := RX2) (T := TX2) (N := 6) hx hb hB inB_X2 hown hK.1 hP 0 rfl rfl 0 (by decide) (hB _ mw_94) (fun _ h9 => h9) rfl dX2_goToward_1 ?_
  refine lv_ldc hx hb hown (hB _ mw_157) dX2_goToward_4 ?_
  refine kc_v (va_runS (As := [.ref h1, .int 1000000]) (rest := []) ⟨hx, hb, hml, hown, hB⟩ (c_fillI l D ty s.heap.size h1 16 f0 1000000 (by decide)) (va_cwS 2 hB (bw_S mw_159 mw_160 mw_161 mw_158) rfl rfl rfl (by decide +kernel) ⟨Nat.le_of_ble_eq_true rfl, Nat.le_of_ble_eq_true rfl⟩) (kp_S hK hP hD [1] (by decide) rfl) rfl rfl hl.1 rfl (lv_room (Nat.le_of_ble_eq_true rfl)) dX2_goToward_6 ⟨Nat.le_of_ble_eq_true rfl, Nat.le_of_ble_eq_true rfl⟩) hP hD hS hA [1] [0, 2, 3] (wr := [(h0, .inr (2, [.ref h1, v0, v1, v2, v3, v4])), (h2, .inr (8, [v5, .int 2, v6, v7, v8, v9, v10, v11, v12, v13, v14, v15, v16, v17, .ref h3, v18, v19, v20])), (h3, .inl (ty 1, 17, .inl (upd (upd (upd f1 0 0) 1 0) 2 0)))]) rfl rfl (by decide) (by decide) (fun u H locs w1 hP hD hS => ?_)
  subst w1
  have hP : va_P D vwCl [(h0, .inr (2, [.ref h1, v0, v1, v2, v3, v4])), (h2, .inr (8, [v5, .int 2, v6, v7, v8, v9, v10, v11, v12, v13, v14, v15, v16, v17, .ref h3, v18, v19, v20])), (h3, .inl (ty 1, 17, .inl (upd (upd (upd f1 0 0) 1 0) 2 0))), (h1, .inl (ty 1, 16, .inl (kf 1000000)))] H := hP
  have hD : va_D A [(h0, .inr (2, [.ref h1, v0, v1, v2, v3, v4])), (h2, .inr (8, [v5, .int 2, v6, v7, v8, v9, v10, v11, v12, v13, v14, v15, v16, v17, .ref h3, v18, v19, v20])), (h3, .inl (ty 1, 17, .inl (upd (upd (upd f1 0 0) 1 0) 2 0))), (h1, .inl (ty 1, 16, .inl (kf 1000000)))] := hD
  refine lv_aload_n hx hb dX2_goToward_9 rfl (lv_at hl 0 rfl) ?_
  refine va_get (D := D) (ci := 2) (v := .ref h1) (C := RX2) (T := TX2) (N := 6) hx hb hB inB_X2 hown hK.1 hP 0 rfl rfl 0 (by decide) (hB _ mw_94) (fun _ h9 => h9) rfl dX2_goToward_10 ?_
  refine lv_iload_n hx hb dX2_goToward_13 rfl (lv_at hl 3 rfl) ?_
  refine lv_iconst (v := 0) hx hb dX2_goToward_14 (by decide) ?_
  refine wy_iast hx hb hK hP hD hS 3 1 rfl rfl (by unfold vp_in; decide) dX2_goToward_15 (j := 0) (by decide) (ws' := [(h0, .inr (2, [.ref h1, v0, v1, v2, v3, v4])), (h2, .inr (8, [v5, .int 2, v6, v7, v8, v9, v10, v11, v12, v13, v14, v15, v16, v17, .ref h3, v18, v19, v20])), (h3, .inl (ty 1, 17, .inl (upd (upd (upd f1 0 0) 1 0) 2 0))), (h1, .inl (ty 1, 16, .inl (upd (kf 1000000) 0 0)))]) rfl (fun H locs hP hD hS => ?_)
  refine lv_iconst (v := 1) hx hb dX2_goToward_16 (by decide) ?_
  refine lv_iload_n hx hb dX2_goToward_17 rfl (lv_at hl 3 rfl) ?_
  refine lv_ishl hx hb dX2_goToward_18 ?_
  refine tp_i (v := 1) (by decide) ?_
  refine lv_istore (lv' := [(5, .int 1), (0, .ref h0), (1, .ref h2), (2, .ref h4), (3, .int 0), (4, .int 0)]) hx hb dX2_goToward_19 hl (by decide) rfl (fun ls hl => ?_)
  refine lv_iconst (v := 0) hx hb dX2_goToward_21 (by decide) ?_
  refine lv_istore (lv' := [(6, .int 0), (5, .int 1), (0, .ref h0), (1, .ref h2), (2, .ref h4), (3, .int 0), (4, .int 0)]) hx hb dX2_goToward_22 hl (by decide) rfl (fun ls hl => ?_)
  refine lv_iload hx hb dX2_goToward_24 (lv_at hl 0 rfl) ?_
  refine lv_aload_n hx hb dX2_goToward_26 rfl (lv_at hl 3 rfl) ?_
  refine va_get (D := D) (ci := 8) (v := .int 2) (C := RX8) (T := TX8) (N := 18) hx hb hB inB_X8 hown hK.1 hP 1 rfl rfl 1 (by decide) (hB _ mw_156) (fun _ h9 => h9) rfl dX2_goToward_27 ?_
  refine lv_icmp_ge (tgt := 200) hx hb dX2_goToward_30 (by decide) (fun h9 => absurd h9 (by decide)) (fun _ => ?_)
  refine lv_iload hx hb dX2_goToward_33 (lv_at hl 1 rfl) ?_
  refine lv_if_eq (tgt := 200) hx hb dX2_goToward_35 (by decide) (fun h9 => absurd h9 (by decide)) (fun _ => ?_)
  refine lv_aload_n hx hb dX2_goToward_38 rfl (lv_at hl 2 rfl) ?_
  refine lv_aload_n hx hb dX2_goToward_39 rfl (lv_at hl 3 rfl) ?_
  refine lv_iload hx hb dX2_goToward_40 (lv_at hl 1 rfl) ?_
  refine kc_i (va_runV (As := [.ref h2, .int 1]) (rest := []) ⟨hx, hb, hml, hown, hB⟩ (c17_X2_nearestOf l D ty H.size h2 h0 h1 v5 v6 v7 v8 v9 v10 v11 v12 v13 v14 v15 v16 v17 (.ref h3) v18 v19 v20 v0 v1 v2 v3 v4) (cwV 2 hB (bw_V mw_163 mw_164 mw_165 mw_92 mw_162) rfl rfl rfl (by decide +kernel) ⟨Nat.le_of_ble_eq_true rfl, Nat.le_of_ble_eq_true rfl⟩) (kp_V hK hP hD [1, 0, 3] (by decide) rfl 0 rfl rfl rfl) rfl rfl hl.1 rfl (lv_room (Nat.le_of_ble_eq_true rfl)) dX2_goToward_42 ⟨Nat.le_of_ble_eq_true rfl, Nat.le_of_ble_eq_true rfl⟩) hP hD hS hA [1, 0, 3] [2] (wr := [(h3, .inl (ty 1, 17, .inl (upd (upd (upd f1 0 0) 1 0) 2 0)))]) rfl rfl (by decide) (by decide) (fun r u H locs w2 hP hD hS => ?_)
  obtain ⟨rfl, rfl⟩ := w2
  have hP : va_P D vwCl [(h3, .inl (ty 1, 17, .inl (upd (upd (upd f1 0 0) 1 0) 2 0))), (h2, .inr (8, [v5, .int 2, v6, v7, v8, v9, v10, v11, v12, v13, v14, v15, v16, v17, .ref h3, v18, v19, v20])), (h0, .inr (2, [.ref h1, v0, v1, v2, v3, v4])), (h1, .inl (ty 1, 16, .inl (upd (kf 1000000) 0 0)))] H := hP
  have hD : va_D A [(h3, .inl (ty 1, 17, .inl (upd (upd (upd f1 0 0) 1 0) 2 0))), (h2, .inr (8, [v5, .int 2, v6, v7, v8, v9, v10, v11, v12, v13, v14, v15, v16, v17, .ref h3, v18, v19, v20])), (h0, .inr (2, [.ref h1, v0, v1, v2, v3, v4])), (h1, .inl (ty 1, 16, .inl (upd (kf 1000000) 0 0)))] := hD
  refine lv_istore (lv' := [(7, .int 0), (6, .int 0), (5, .int 1), (0, .ref h0), (1, .ref h2), (2, .ref h4), (3, .int 0), (4, .int 0)]) hx hb dX2_goToward_45 hl (by decide) rfl (fun ls hl => ?_)
  refine lv_iload hx hb dX2_goToward_47 (lv_at hl 2 rfl) ?_
  refine lv_iconst (v := 1) hx hb dX2_goToward_49 (by decide) ?_
  refine lv_iload hx hb dX2_goToward_50 (lv_at hl 0 rfl) ?_
  refine lv_ishl hx hb dX2_goToward_52 ?_
  refine tp_i (v := 1) (by decide) ?_
  refine lv_iconst (v := (-1)) hx hb dX2_goToward_53 (by decide) ?_
  refine lv_ixor hx hb dX2_goToward_54 ?_
  refine tp_i (v := (-2)) (by decide) ?_
  refine lv_iand hx hb dX2_goToward_55 ?_
  refine tp_i (v := 0) (by decide) ?_
  refine lv_istore (lv' := [(5, .int 0), (7, .int 0), (6, .int 0), (0, .ref h0), (1, .ref h2), (2, .ref h4), (3, .int 0), (4, .int 0)]) hx hb dX2_goToward_56 hl (by decide) rfl (fun ls hl => ?_)
  refine lv_aload_n hx hb dX2_goToward_58 rfl (lv_at hl 4 rfl) ?_
  refine va_get (D := D) (ci := 8) (v := .ref h3) (C := RX8) (T := TX8) (N := 18) hx hb hB inB_X8 hown hK.1 hP 1 rfl rfl 14 (by decide) (hB _ mw_166) (fun _ h9 => h9) rfl dX2_goToward_59 ?_
  refine lv_iload hx hb dX2_goToward_62 (lv_at hl 1 rfl) ?_
  refine va_iald hx hb hK.1 hP 0 1 rfl rfl (by unfold vp_in; decide) dX2_goToward_64 ?_
  refine tp_i (v := 0) rfl ?_
  refine lv_istore (lv' := [(8, .int 0), (5, .int 0), (7, .int 0), (6, .int 0), (0, .ref h0), (1, .ref h2), (2, .ref h4), (3, .int 0), (4, .int 0)]) hx hb dX2_goToward_65 hl (by decide) rfl (fun ls hl => ?_)
  refine lv_iload hx hb dX2_goToward_67 (lv_at hl 0 rfl) ?_
  refine lv_aload_n hx hb dX2_goToward_69 rfl (lv_at hl 5 rfl) ?_
  refine va_get (D := D) (ci := 8) (v := .ref h3) (C := RX8) (T := TX8) (N := 18) hx hb hB inB_X8 hown hK.1 hP 1 rfl rfl 14 (by decide) (hB _ mw_166) (fun _ h9 => h9) rfl dX2_goToward_70 ?_
  refine lv_iload hx hb dX2_goToward_73 (lv_at hl 2 rfl) ?_
  refine lv_iconst (v := 1) hx hb dX2_goToward_75 (by decide) ?_
  refine lv_iadd hx hb dX2_goToward_76 ?_
  refine tp_i (v := 1) (by decide) ?_
  refine va_iald hx hb hK.1 hP 0 1 rfl rfl (by unfold vp_in; decide) dX2_goToward_77 ?_
  refine tp_i (v := 0) rfl ?_
  refine lv_icmp_ge (tgt := 194) hx hb dX2_goToward_78 (by decide) (fun _ => ?_) (fun h9 => absurd (by decide) h9)
  refine lv_iinc (v := 1) (lv' := [(6, .int 1), (8, .int 0), (5, .int 0), (7, .int 0), (0, .ref h0), (1, .ref h2), (2, .ref h4), (3, .int 0), (4, .int 0)]) hx hb dX2_goToward_194 hl (k := 3) rfl (by decide) (by decide) rfl (fun ls hl => ?_)
  refine lv_goto (tgt := 24) hx hb dX2_goToward_197 (by decide) ?_
  refine lv_iload hx hb dX2_goToward_24 (lv_at hl 0 rfl) ?_
  refine lv_aload_n hx hb dX2_goToward_26 rfl (lv_at hl 5 rfl) ?_
  refine va_get (D := D) (ci := 8) (v := .int 2) (C := RX8) (T := TX8) (N := 18) hx hb hB inB_X8 hown hK.1 hP 1 rfl rfl 1 (by decide) (hB _ mw_156) (fun _ h9 => h9) rfl dX2_goToward_27 ?_
  refine lv_icmp_ge (tgt := 200) hx hb dX2_goToward_30 (by decide) (fun h9 => absurd h9 (by decide)) (fun _ => ?_)
  refine lv_iload hx hb dX2_goToward_33 (lv_at hl 2 rfl) ?_
  refine lv_if_eq (tgt := 200) hx hb dX2_goToward_35 (by decide) (fun _ => ?_) (fun h9 => absurd (by decide) h9)
  exact kr_v hx hb hr hlocks hP hD hS [(h3, .inl (ty 1, 17, .inl (upd (upd (upd f1 0 0) 1 0) 2 0))), (h2, .inr (8, [v5, .int 2, v6, v7, v8, v9, v10, v11, v12, v13, v14, v15, v16, v17, .ref h3, v18, v19, v20])), (h0, .inr (2, [.ref h1, v0, v1, v2, v3, v4])), (h1, .inl (ty 1, 16, .inl (upd (kf 1000000) 0 0)))] [0, 1, 2, 3] (by decide) rfl rfl (by decide) (by decide) dX2_goToward_200
set_option maxHeartbeats 4000000 in
set_option maxRecDepth 100000 in
theorem c19_X2_nearestOf (l : Launch) (D : va_G) (ty : Nat → ClassId) (sz : Nat) (h0 : Nat) (h1 : Nat) (h2 : Nat) (v0 : Value) (v1 : Value) (v2 : Value) (v3 : Value) (v4 : Value) (v5 : Value) (v6 : Value) (v7 : Value) (v8 : Value) (v9 : Value) (v10 : Value) (v11 : Value) (v12 : Value) (v13 : Value) (v14 : Value) (v15 : Value) (v16 : Value) (v17 : Value) (v18 : Value) (v19 : Value) (v20 : Value) (v21 : Value) : cQ l yX2_nearestOf cX2_nearestOf 6 (some .int) 0 0 [.ref h1, .ref h0, .int 2] D ty [(h0, .inr (8, [v0, .int 2, v1, v2, v3, v4, v5, v6, v7, v8, v9, v10, v11, v12, v13, v14, v15, v16])), (h1, .inr (2, [.ref h2, v17, v18, v19, v20, v21])), (h2, .inl (ty 1, 16, .inl (upd (kf 1000000) 1 0)))] sz (qI (fun (r : Int32) (u : va_W) => 1 = r ∧ [(h0, .inr (8, [v0, .int 2, v1, v2, v3, v4, v5, v6, v7, v8, v9, v10, v11, v12, v13, v14, v15, v16])), (h1, .inr (2, [.ref h2, v17, v18, v19, v20, v21])), (h2, .inl (ty 1, 16, .inl (upd (kf 1000000) 1 0)))] = u)) 0 0 := by
  refine cQ.of (by decide) (Nat.le_of_ble_eq_true rfl) (fun p e s m below meth c A ls C hsz hP hK hD hA hl => ?_)
  obtain ⟨hx, hb, hml, hown, hB, hr, hlocks, hin⟩ := C
  have hown : s.vm.findClass RX2 = some m.cls := hown
  have hS : va_S A s.heap s.heap [] := va_S.rf
  have hl : lv_has ls 6 [(0, .ref h1), (1, .ref h0), (2, .int 2)] := hl
  refine lv_iconst (v := 0) hx hb dX2_nearestOf_0 (by decide) ?_
  refine lv_istore_n (lv' := [(3, .int 0), (0, .ref h1), (1, .ref h0), (2, .int 2)]) hx hb dX2_nearestOf_1 rfl hl (by decide) rfl (fun ls hl => ?_)
  refine lv_ldc hx hb hown (hB _ mw_157) dX2_nearestOf_2 ?_
  refine lv_istore (lv' := [(4, .int 1000000), (3, .int 0), (0, .ref h1), (1, .ref h0), (2, .int 2)]) hx hb dX2_nearestOf_4 hl (by decide) rfl (fun ls hl => ?_)
  refine lv_iconst (v := 0) hx hb dX2_nearestOf_6 (by decide) ?_
  refine lv_istore (lv' := [(5, .int 0), (4, .int 1000000), (3, .int 0), (0, .ref h1), (1, .ref h0), (2, .int 2)]) hx hb dX2_nearestOf_7 hl (by decide) rfl (fun ls hl => ?_)
  refine lv_iload hx hb dX2_nearestOf_9 (lv_at hl 0 rfl) ?_
  refine lv_aload_n hx hb dX2_nearestOf_11 rfl (lv_at hl 4 rfl) ?_
  refine va_get (D := D) (ci := 8) (v := .int 2) (C := RX8) (T := TX8) (N := 18) hx hb hB inB_X8 hown hK.1 hP 0 rfl rfl 1 (by decide) (hB _ mw_156) (fun _ h9 => h9) rfl dX2_nearestOf_12 ?_
  refine lv_icmp_ge (tgt := 57) hx hb dX2_nearestOf_15 (by decide) (fun h9 => absurd h9 (by decide)) (fun _ => ?_)
  refine lv_iload_n hx hb dX2_nearestOf_18 rfl (lv_at hl 5 rfl) ?_
  refine lv_iload hx hb dX2_nearestOf_19 (lv_at hl 0 rfl) ?_
  refine lv_ishr hx hb dX2_nearestOf_21 ?_
  refine tp_i (v := 2) (by decide) ?_
  refine lv_iconst (v := 1) hx hb dX2_nearestOf_22 (by decide) ?_
  refine lv_iand hx hb dX2_nearestOf_23 ?_
  refine tp_i (v := 0) (by decide) ?_
  refine lv_if_eq (tgt := 51) hx hb dX2_nearestOf_24 (by decide) (fun _ => ?_) (fun h9 => absurd (by decide) h9)
  refine lv_iinc (v := 1) (lv' := [(5, .int 1), (4, .int 1000000), (3, .int 0), (0, .ref h1), (1, .ref h0), (2, .int 2)]) hx hb dX2_nearestOf_51 hl (k := 0) rfl (by decide) (by decide) rfl (fun ls hl => ?_)
  refine lv_goto (tgt := 9) hx hb dX2_nearestOf_54 (by decide) ?_
  refine lv_iload hx hb dX2_nearestOf_9 (lv_at hl 0 rfl) ?_
  refine lv_aload_n hx hb dX2_nearestOf_11 rfl (lv_at hl 4 rfl) ?_
  refine va_get (D := D) (ci := 8) (v := .int 2) (C := RX8) (T := TX8) (N := 18) hx hb hB inB_X8 hown hK.1 hP 0 rfl rfl 1 (by decide) (hB _ mw_156) (fun _ h9 => h9) rfl dX2_nearestOf_12 ?_
  refine lv_icmp_ge (tgt := 57) hx hb dX2_nearestOf_15 (by decide) (fun h9 => absurd h9 (by decide)) (fun _ => ?_)
  refine lv_iload_n hx hb dX2_nearestOf_18 rfl (lv_at hl 5 rfl) ?_
  refine lv_iload hx hb dX2_nearestOf_19 (lv_at hl 0 rfl) ?_
  refine lv_ishr hx hb dX2_nearestOf_21 ?_
  refine tp_i (v := 1) (by decide) ?_
  refine lv_iconst (v := 1) hx hb dX2_nearestOf_22 (by decide) ?_
  refine lv_iand hx hb dX2_nearestOf_23 ?_
  refine tp_i (v := 1) (by decide) ?_
  refine lv_if_eq (tgt := 51) hx hb dX2_nearestOf_24 (by decide) (fun h9 => absurd h9 (by decide)) (fun _ => ?_)
  refine lv_aload_n hx hb dX2_nearestOf_27 rfl (lv_at hl 3 rfl) ?_
  refine va_get (D := D) (ci := 2) (v := .ref h2) (C := RX2) (T := TX2) (N := 6) hx hb hB inB_X2 hown hK.1 hP 1 rfl rfl 0 (by decide) (hB _ mw_94) (fun _ h9 => h9) rfl dX2_nearestOf_28 ?_
  refine lv_iload hx hb dX2_nearestOf_31 (lv_at hl 0 rfl) ?_
  refine va_iald hx hb hK.1 hP 2 1 rfl rfl (by unfold vp_in; decide) dX2_nearestOf_33 ?_
  refine tp_i (v := 0) rfl ?_
  refine lv_iload hx hb dX2_nearestOf_34 (lv_at hl 1 rfl) ?_
  refine lv_icmp_ge (tgt := 51) hx hb dX2_nearestOf_36 (by decide) (fun h9 => absurd h9 (by decide)) (fun _ => ?_)
  refine lv_aload_n hx hb dX2_nearestOf_39 rfl (lv_at hl 3 rfl) ?_
  refine va_get (D := D) (ci := 2) (v := .ref h2) (C := RX2) (T := TX2) (N := 6) hx hb hB inB_X2 hown hK.1 hP 1 rfl rfl 0 (by decide) (hB _ mw_94) (fun _ h9 => h9) rfl dX2_nearestOf_40 ?_
  refine lv_iload hx hb dX2_nearestOf_43 (lv_at hl 0 rfl) ?_
  refine va_iald hx hb hK.1 hP 2 1 rfl rfl (by unfold vp_in; decide) dX2_nearestOf_45 ?_
  refine tp_i (v := 0) rfl ?_
  refine lv_istore (lv' := [(4, .int 0), (5, .int 1), (3, .int 0), (0, .ref h1), (1, .ref h0), (2, .int 2)]) hx hb dX2_nearestOf_46 hl (by decide) rfl (fun ls hl => ?_)
  refine lv_iload hx hb dX2_nearestOf_48 (lv_at hl 1 rfl) ?_
  refine lv_istore_n (lv' := [(3, .int 1), (4, .int 0), (5, .int 1), (0, .ref h1), (1, .ref h0), (2, .int 2)]) hx hb dX2_nearestOf_50 rfl hl (by decide) rfl (fun ls hl => ?_)
  refine lv_iinc (v := 2) (lv' := [(5, .int 2), (3, .int 1), (4, .int 0), (0, .ref h1), (1, .ref h0), (2, .int 2)]) hx hb dX2_nearestOf_51 hl (k := 2) rfl (by decide) (by decide) rfl (fun ls hl => ?_)
  refine lv_goto (tgt := 9) hx hb dX2_nearestOf_54 (by decide) ?_
  refine lv_iload hx hb dX2_nearestOf_9 (lv_at hl 0 rfl) ?_
  refine lv_aload_n hx hb dX2_nearestOf_11 rfl (lv_at hl 4 rfl) ?_
  refine va_get (D := D) (ci := 8) (v := .int 2) (C := RX8) (T := TX8) (N := 18) hx hb hB inB_X8 hown hK.1 hP 0 rfl rfl 1 (by decide) (hB _ mw_156) (fun _ h9 => h9) rfl dX2_nearestOf_12 ?_
  refine lv_icmp_ge (tgt := 57) hx hb dX2_nearestOf_15 (by decide) (fun _ => ?_) (fun h9 => absurd (by decide) h9)
  refine lv_iload_n hx hb dX2_nearestOf_57 rfl (lv_at hl 1 rfl) ?_
  exact kr_z hx hb hr rfl hlocks hP hD hS [(h0, .inr (8, [v0, .int 2, v1, v2, v3, v4, v5, v6, v7, v8, v9, v10, v11, v12, v13, v14, v15, v16])), (h1, .inr (2, [.ref h2, v17, v18, v19, v20, v21])), (h2, .inl (ty 1, 16, .inl (upd (kf 1000000) 1 0)))] [0, 1, 2] (by decide) rfl ⟨rfl, rfl⟩ (by decide) (by decide) dX2_nearestOf_58
set_option maxHeartbeats 4000000 in
set_option maxRecDepth 100000 in
theorem c18_X2_goToward (l : Launch) (D : va_G) (ty : Nat → ClassId) (sz : Nat) (h0 : Nat) (h1 : Nat) (h2 : Nat) (h3 : Nat) (h4 : Nat) (v0 : Value) (v1 : Value) (v2 : Value) (v3 : Value) (v4 : Value) (f0 : Nat → Int32) (v5 : Value) (v6 : Value) (v7 : Value) (v8 : Value) (v9 : Value) (v10 : Value) (v11 : Value) (v12 : Value) (v13 : Value) (v14 : Value) (v15 : Value) (v16 : Value) (v17 : Value) (v18 : Value) (v19 : Value) (v20 : Value) (f1 : Nat → Int32) : cQ l yX2_goToward cX2_goToward 12 none 1 25 [.ref h0, .ref h2, .ref h4, .int 1, .int 0] D ty [(h0, .inr (2, [.ref h1, v0, v1, v2, v3, v4])), (h1, .inl (ty 1, 16, .inl f0)), (h2, .inr (8, [v5, .int 2, v6, v7, v8, v9, v10, v11, v12, v13, v14, v15, v16, v17, .ref h3, v18, v19, v20])), (h3, .inl (ty 1, 17, .inl (upd (upd (upd f1 0 0) 1 0) 2 0)))] sz (qV (fun (u : va_W) => [(h3, .inl (ty 1, 17, .inl (upd (upd (upd f1 0 0) 1 0) 2 0))), (h2, .inr (8, [v5, .int 2, v6, v7, v8, v9, v10, v11, v12, v13, v14, v15, v16, v17, .ref h3, v18, v19, v20])), (h0, .inr (2, [.ref h1, v0, v1, v2, v3, v4])), (h1, .inl (ty 1, 16, .inl (upd (kf 1000000) 1 0)))] = u)) 0 0 := by
  refine cQ.of (by decide) (Nat.le_of_ble_eq_true rfl) (fun p e s m below meth c A ls C hsz hP hK hD hA hl => ?_)
  obtain ⟨hx, hb, hml, hown, hB, hr, hlocks, hin⟩ := C
  have hown : s.vm.findClass RX2 = some m.cls := hown
  have hS : va_S A s.heap s.heap [] := va_S.rf
  have hl : lv_has ls 12 [(0, .ref h0), (1, .ref h2), (2, .ref h4), (3, .int 1), (4, .int 0)] := hl
  refine lv_aload_n hx hb dX2_goToward_0 rfl (lv_at hl 0 rfl) ?_
  refine va_get (D := D) (ci := 2) (v := .ref h1) (C := RX2) (T := TX2) (N := 6) hx hb hB inB_X2 hown hK.1 hP 0 rfl rfl 0 (by decide) (hB _ mw_94) (fun _ h9 => h9) rfl dX2_goToward_1 ?_
  refine lv_ldc hx hb hown (hB _ mw_157) dX2_goToward_4 ?_
  refine kc_v (va_runS (As := [.ref h1, .int 1000000]) (rest := []) ⟨hx, hb, hml, hown, hB⟩ (c_fillI l D ty s.heap.size h1 16 f0 1000000 (by decide)) (va_cwS 2 hB (bw_S mw_159 mw_160 mw_161 mw_158) rfl rfl rfl (by decide +kernel) ⟨Nat.le_of_ble_eq_true rfl, Nat.le_of_ble_eq_true rfl⟩) (kp_S hK hP hD [1] (by decide) rfl) rfl rfl hl.1 rfl (lv_room (Nat.le_of_ble_eq_true rfl)) dX2_goToward_6 ⟨Nat.le_of_ble_eq_true rfl, Nat.le_of_ble_eq_true rfl⟩) hP hD hS hA [1] [0, 2, 3] (wr := [(h0, .inr (2, [.ref h1, v0, v1, v2, v3, v4])), (h2, .inr (8, [v5, .int 2, v6, v7, v8, v9, v10, v11, v12, v13, v14, v15, v16, v17, .ref h3, v18, v19, v20])), (h3, .inl (ty 1, 17, .inl (upd (upd (upd f1 0 0) 1 0) 2 0)))]) rfl rfl (by decide) (by decide) (fun u H locs w1 hP hD hS => ?_)
  subst w1
  have hP : va_P D vwCl [(h0, .inr (2, [.ref h1, v0, v1, v2, v3, v4])), (h2, .inr (8, [v5, .int 2, v6, v7, v8, v9, v10, v11, v12, v13, v14, v15, v16, v17, .ref h3, v18, v19, v20])), (h3, .inl (ty 1, 17, .inl (upd (upd (upd f1 0 0) 1 0) 2 0))), (h1, .inl (ty 1, 16, .inl (kf 1000000)))] H := hP
  have hD : va_D A [(h0, .inr (2, [.ref h1, v0, v1, v2, v3, v4])), (h2, .inr (8, [v5, .int 2, v6, v7, v8, v9, v10, v11, v12, v13, v14, v15, v16, v17, .ref h3, v18, v19, v20])), (h3, .inl (ty 1, 17, .inl (upd (upd (upd f1 0 0) 1 0) 2 0))), (h1, .inl (ty 1, 16, .inl (kf 1000000)))] := hD
  refine lv_aload_n hx hb dX2_goToward_9 rfl (lv_at hl 0 rfl) ?_
  refine va_get (D := D) (ci := 2) (v := .ref h1) (C := RX2) (T := TX2) (N := 6) hx hb hB inB_X2 hown hK.1 hP 0 rfl rfl 0 (by decide) (hB _ mw_94) (fun _ h9 => h9) rfl dX2_goToward_10 ?_
  refine lv_iload_n hx hb dX2_goToward_13 rfl (lv_at hl 3 rfl) ?_
  refine lv_iconst (v := 0) hx hb dX2_goToward_14 (by decide) ?_
  refine wy_iast hx hb hK hP hD hS 3 1 rfl rfl (by unfold vp_in; decide) dX2_goToward_15 (j := 1) (by decide) (ws' := [(h0, .inr (2, [.ref h1, v0, v1, v2, v3, v4])), (h2, .inr (8, [v5, .int 2, v6, v7, v8, v9, v10, v11, v12, v13, v14, v15, v16, v17, .ref h3, v18, v19, v20])), (h3, .inl (ty 1, 17, .inl (upd (upd (upd f1 0 0) 1 0) 2 0))), (h1, .inl (ty 1, 16, .inl (upd (kf 1000000) 1 0)))]) rfl (fun H locs hP hD hS => ?_)
  refine lv_iconst (v := 1) hx hb dX2_goToward_16 (by decide) ?_
  refine lv_iload_n hx hb dX2_goToward_17 rfl (lv_at hl 3 rfl) ?_
  refine lv_ishl hx hb dX2_goToward_18 ?_
  refine tp_i (v := 2) (by decide) ?_
  refine lv_istore (lv' := [(5, .int 2), (0, .ref h0), (1, .ref h2), (2, .ref h4), (3, .int 1), (4, .int 0)]) hx hb dX2_goToward_19 hl (by decide) rfl (fun ls hl => ?_)
  refine lv_iconst (v := 0) hx hb dX2_goToward_21 (by decide) ?_
  refine lv_istore (lv' := [(6, .int 0), (5, .int 2), (0, .ref h0), (1, .ref h2), (2, .ref h4), (3, .int 1), (4, .int 0)]) hx hb dX2_goToward_22 hl (by decide) rfl (fun ls hl => ?_)
  refine lv_iload hx hb dX2_goToward_24 (lv_at hl 0 rfl) ?_
  refine lv_aload_n hx hb dX2_goToward_26 rfl (lv_at hl 3 rfl) ?_
  refine va_get (D := D) (ci := 8) (v := .int 2) (C := RX8) (T := TX8) (N := 18) hx hb hB inB_X8 hown hK.1 hP 1 rfl rfl 1 (by decide) (hB _ mw_156) (fun _ h9 => h9) rfl dX2_goToward_27 ?_
  refine lv_icmp_ge (tgt := 200) hx hb dX2_goToward_30 (by decide) (fun h9 => absurd h9 (by decide)) (fun _ => ?_)
  refine lv_iload hx hb dX2_goToward_33 (lv_at hl 1 rfl) ?_
  refine lv_if_eq (tgt := 200) hx hb dX2_goToward_35 (by decide) (fun h9 => absurd h9 (by decide)) (fun _ => ?_)
  refine lv_aload_n hx hb dX2_goToward_38 rfl (lv_at hl 2 rfl) ?_
  refine lv_aload_n hx hb dX2_goToward_39 rfl (lv_at hl 3 rfl) ?_
  refine lv_iload hx hb dX2_goToward_40 (lv_at hl 1 rfl) ?_
  refine kc_i (va_runV (As := [.ref h2, .int 2]) (rest := []) ⟨hx, hb, hml, hown, hB⟩ (c19_X2_nearestOf l D ty H.size h2 h0 h1 v5 v6 v7 v8 v9 v10 v11 v12 v13 v14 v15 v16 v17 (.ref h3) v18 v19 v20 v0 v1 v2 v3 v4) (cwV 2 hB (bw_V mw_163 mw_164 mw_165 mw_92 mw_162) rfl rfl rfl (by decide +kernel) ⟨Nat.le_of_ble_eq_true rfl, Nat.le_of_ble_eq_true rfl⟩) (kp_V hK hP hD [1, 0, 3] (by decide) rfl 0 rfl rfl rfl) rfl rfl hl.1 rfl (lv_room (Nat.le_of_ble_eq_true rfl)) dX2_goToward_42 ⟨Nat.le_of_ble_eq_true rfl, Nat.le_of_ble_eq_true rfl⟩) hP hD hS hA [1, 0, 3] [2] (wr := [(h3, .inl (ty 1, 17, .inl (upd (upd (upd f1 0 0) 1 0) 2 0)))]) rfl rfl (by decide) (by decide) (fun r u H locs w2 hP hD hS => ?_)
  obtain ⟨rfl, rfl⟩ := w2
  have hP : va_P D vwCl [(h3, .inl (ty 1, 17, .inl (upd (upd (upd f1 0 0) 1 0) 2 0))), (h2, .inr (8, [v5, .int 2, v6, v7, v8, v9, v10, v11, v12, v13, v14, v15, v16, v17, .ref h3, v18, v19, v20])), (h0, .inr (2, [.ref h1, v0, v1, v2, v3, v4])), (h1, .inl (ty 1, 16, .inl (upd (kf 1000000) 1 0)))] H := hP
  have hD : va_D A [(h3, .inl (ty 1, 17, .inl (upd (upd (upd f1 0 0) 1 0) 2 0))), (h2, .inr (8, [v5, .int 2, v6, v7, v8, v9, v10, v11, v12, v13, v14, v15, v16, v17, .ref h3, v18, v19, v20])), (h0, .inr (2, [.ref h1, v0, v1, v2, v3, v4])), (h1, .inl (ty 1, 16, .inl (upd (kf 1000000) 1 0)))] := hD
  refine lv_istore (lv' := [(7, .int 1), (6, .int 0), (5, .int 2), (0, .ref h0), (1, .ref h2), (2, .ref h4), (3, .int 1), (4, .int 0)]) hx hb dX2_goToward_45 hl (by decide) rfl (fun ls hl => ?_)
  refine lv_iload hx hb dX2_goToward_47 (lv_at hl 2 rfl) ?_
  refine lv_iconst (v := 1) hx hb dX2_goToward_49 (by decide) ?_
  refine lv_iload hx hb dX2_goToward_50 (lv_at hl 0 rfl) ?_
  refine lv_ishl hx hb dX2_goToward_52 ?_
  refine tp_i (v := 2) (by decide) ?_
  refine lv_iconst (v := (-1)) hx hb dX2_goToward_53 (by decide) ?_
  refine lv_ixor hx hb dX2_goToward_54 ?_
  refine tp_i (v := (-3)) (by decide) ?_
  refine lv_iand hx hb dX2_goToward_55 ?_
  refine tp_i (v := 0) (by decide) ?_
  refine lv_istore (lv' := [(5, .int 0), (7, .int 1), (6, .int 0), (0, .ref h0), (1, .ref h2), (2, .ref h4), (3, .int 1), (4, .int 0)]) hx hb dX2_goToward_56 hl (by decide) rfl (fun ls hl => ?_)
  refine lv_aload_n hx hb dX2_goToward_58 rfl (lv_at hl 4 rfl) ?_
  refine va_get (D := D) (ci := 8) (v := .ref h3) (C := RX8) (T := TX8) (N := 18) hx hb hB inB_X8 hown hK.1 hP 1 rfl rfl 14 (by decide) (hB _ mw_166) (fun _ h9 => h9) rfl dX2_goToward_59 ?_
  refine lv_iload hx hb dX2_goToward_62 (lv_at hl 1 rfl) ?_
  refine va_iald hx hb hK.1 hP 0 1 rfl rfl (by unfold vp_in; decide) dX2_goToward_64 ?_
  refine tp_i (v := 0) rfl ?_
  refine lv_istore (lv' := [(8, .int 0), (5, .int 0), (7, .int 1), (6, .int 0), (0, .ref h0), (1, .ref h2), (2, .ref h4), (3, .int 1), (4, .int 0)]) hx hb dX2_goToward_65 hl (by decide) rfl (fun ls hl => ?_)
  refine lv_iload hx hb dX2_goToward_67 (lv_at hl 0 rfl) ?_
  refine lv_aload_n hx hb dX2_goToward_69 rfl (lv_at hl 5 rfl) ?_
  refine va_get (D := D) (ci := 8) (v := .ref h3) (C := RX8) (T := TX8) (N := 18) hx hb hB inB_X8 hown hK.1 hP 1 rfl rfl 14 (by decide) (hB _ mw_166) (fun _ h9 => h9) rfl dX2_goToward_70 ?_
  refine lv_iload hx hb dX2_goToward_73 (lv_at hl 2 rfl) ?_
  refine lv_iconst (v := 1) hx hb dX2_goToward_75 (by decide) ?_
  refine lv_iadd hx hb dX2_goToward_76 ?_
  refine tp_i (v := 2) (by decide) ?_
  refine va_iald hx hb hK.1 hP 0 1 rfl rfl (by unfold vp_in; decide) dX2_goToward_77 ?_
  refine tp_i (v := 0) rfl ?_
  refine lv_icmp_ge (tgt := 194) hx hb dX2_goToward_78 (by decide) (fun _ => ?_) (fun h9 => absurd (by decide) h9)
  refine lv_iinc (v := 1) (lv' := [(6, .int 1), (8, .int 0), (5, .int 0), (7, .int 1), (0, .ref h0), (1, .ref h2), (2, .ref h4), (3, .int 1), (4, .int 0)]) hx hb dX2_goToward_194 hl (k := 3) rfl (by decide) (by decide) rfl (fun ls hl => ?_)
  refine lv_goto (tgt := 24) hx hb dX2_goToward_197 (by decide) ?_
  refine lv_iload hx hb dX2_goToward_24 (lv_at hl 0 rfl) ?_
  refine lv_aload_n hx hb dX2_goToward_26 rfl (lv_at hl 5 rfl) ?_
  refine va_get (D := D) (ci := 8) (v := .int 2) (C := RX8) (T := TX8) (N := 18) hx hb hB inB_X8 hown hK.1 hP 1 rfl rfl 1 (by decide) (hB _ mw_156) (fun _ h9 => h9) rfl dX2_goToward_27 ?_
  refine lv_icmp_ge (tgt := 200) hx hb dX2_goToward_30 (by decide) (fun h9 => absurd h9 (by decide)) (fun _ => ?_)
  refine lv_iload hx hb dX2_goToward_33 (lv_at hl 2 rfl) ?_
  refine lv_if_eq (tgt := 200) hx hb dX2_goToward_35 (by decide) (fun _ => ?_) (fun h9 => absurd (by decide) h9)
  exact kr_v hx hb hr hlocks hP hD hS [(h3, .inl (ty 1, 17, .inl (upd (upd (upd f1 0 0) 1 0) 2 0))), (h2, .inr (8, [v5, .int 2, v6, v7, v8, v9, v10, v11, v12, v13, v14, v15, v16, v17, .ref h3, v18, v19, v20])), (h0, .inr (2, [.ref h1, v0, v1, v2, v3, v4])), (h1, .inl (ty 1, 16, .inl (upd (kf 1000000) 1 0)))] [0, 1, 2, 3] (by decide) rfl rfl (by decide) (by decide) dX2_goToward_200
set_option maxHeartbeats 4000000 in
set_option maxRecDepth 100000 in
theorem c15_X2_measureAll (l : Launch) (D : va_G) (ty : Nat → ClassId) (sz : Nat) (h0 : Nat) (h1 : Nat) (h2 : Nat) (h3 : Nat) (h4 : Nat) (h5 : Nat) (v0 : Value) (v1 : Value) (v2 : Value) (v3 : Value) (v4 : Value) (v5 : Value) (v6 : Value) (v7 : Value) (v8 : Value) (v9 : Value) (v10 : Value) (v11 : Value) (v12 : Value) (v13 : Value) (v14 : Value) (v15 : Value) (v16 : Value) (v17 : Value) (v18 : Value) (v19 : Value) (v20 : Value) (f0 : Nat → Int32) (f1 : Nat → Int32) (f2 : Nat → Int32) : cQ l yX2_measureAll cX2_measureAll 6 none 2 56 [.ref h1, .ref h0, .ref h5, .ref h4] D ty [(h0, .inr (8, [v0, .int 2, v1, v2, v3, v4, v5, v6, v7, v8, v9, v10, v11, v12, .ref h3, v13, v14, v15])), (h1, .inr (2, [.ref h2, v16, v17, v18, v19, v20])), (h2, .inl (ty 1, 16, .inl f0)), (h3, .inl (ty 1, 17, .inl (upd (upd (upd f1 0 0) 1 0) 2 0))), (h4, .inl (ty 1, 256, .inl f2))] sz (qV (fun (u : va_W) => [(h4, .inl (ty 1, 256, .inl (upd (upd (upd (upd f2 0 0) 16 1000000) 1 1000000) 17 0))), (h3, .inl (ty 1, 17, .inl (upd (upd (upd f1 0 0) 1 0) 2 0))), (h0, .inr (8, [v0, .int 2, v1, v2, v3, v4, v5, v6, v7, v8, v9, v10, v11, v12, .ref h3, v13, v14, v15])), (h1, .inr (2, [.ref h2, v16, v17, v18, v19, v20])), (h2, .inl (ty 1, 16, .inl (upd (kf 1000000) 1 0)))] = u)) 0 0 := by
  refine cQ.of (by decide) (Nat.le_of_ble_eq_true rfl) (fun p e s m below meth c A ls C hsz hP hK hD hA hl => ?_)
  obtain ⟨hx, hb, hml, hown, hB, hr, hlocks, hin⟩ := C
  have hown : s.vm.findClass RX2 = some m.cls := hown
  have hS : va_S A s.heap s.heap [] := va_S.rf
  have hl : lv_has ls 6 [(0, .ref h1), (1, .ref h0), (2, .ref h5), (3, .ref h4)] := hl
  refine lv_iconst (v := 0) hx hb dX2_measureAll_0 (by decide) ?_
  refine lv_istore (lv' := [(4, .int 0), (0, .ref h1), (1, .ref h0), (2, .ref h5), (3, .ref h4)]) hx hb dX2_measureAll_1 hl (by decide) rfl (fun ls hl => ?_)
  refine lv_iload hx hb dX2_measureAll_3 (lv_at hl 0 rfl) ?_
  refine lv_aload_n hx hb dX2_measureAll_5 rfl (lv_at hl 2 rfl) ?_
  refine va_get (D := D) (ci := 8) (v := .int 2) (C := RX8) (T := TX8) (N := 18) hx hb hB inB_X8 hown hK.1 hP 0 rfl rfl 1 (by decide) (hB _ mw_156) (fun _ h9 => h9) rfl dX2_measureAll_6 ?_
  refine lv_icmp_ge (tgt := 62) hx hb dX2_measureAll_9 (by decide) (fun h9 => absurd h9 (by decide)) (fun _ => ?_)
  refine lv_aload_n hx hb dX2_measureAll_12 rfl (lv_at hl 1 rfl) ?_
  refine lv_aload_n hx hb dX2_measureAll_13 rfl (lv_at hl 2 rfl) ?_
  refine lv_aload_n hx hb dX2_measureAll_14 rfl (lv_at hl 3 rfl) ?_
  refine lv_iload hx hb dX2_measureAll_15 (lv_at hl 0 rfl) ?_
  refine lv_iconst (v := 0) hx hb dX2_measureAll_17 (by decide) ?_
  refine kc_v (va_runV (As := [.ref h0, .ref h5, .int 0, .int 0]) (rest := []) ⟨hx, hb, hml, hown, hB⟩ (c16_X2_goToward l D ty s.heap.size h1 h2 h0 h3 h5 v16 v17 v18 v19 v20 f0 v0 v1 v2 v3 v4 v5 v6 v7 v8 v9 v10 v11 v12 v13 v14 v15 f1) (cwV 4 hB (bw_V mw_168 mw_169 mw_170 mw_92 mw_167) rfl rfl rfl (by decide +kernel) ⟨Nat.le_of_ble_eq_true rfl, Nat.le_of_ble_eq_true rfl⟩) (kp_V hK hP hD [1, 2, 0, 3] (by decide) rfl 1 rfl rfl rfl) rfl rfl hl.1 rfl (lv_room (Nat.le_of_ble_eq_true rfl)) dX2_measureAll_18 ⟨Nat.le_of_ble_eq_true rfl, Nat.le_of_ble_eq_true rfl⟩) hP hD hS hA [1, 2, 0, 3] [4] (wr := [(h4, .inl (ty 1, 256, .inl f2))]) rfl rfl (by decide) (by decide) (fun u H locs w1 hP hD hS => ?_)
  subst w1
  have hP : va_P D vwCl [(h4, .inl (ty 1, 256, .inl f2)), (h3, .inl (ty 1, 17, .inl (upd (upd (upd f1 0 0) 1 0) 2 0))), (h0, .inr (8, [v0, .int 2, v1, v2, v3, v4, v5, v6, v7, v8, v9, v10, v11, v12, .ref h3, v13, v14, v15])), (h1, .inr (2, [.ref h2, v16, v17, v18, v19, v20])), (h2, .inl (ty 1, 16, .inl (upd (kf 1000000) 0 0)))] H := hP
  have hD : va_D A [(h4, .inl (ty 1, 256, .inl f2)), (h3, .inl (ty 1, 17, .inl (upd (upd (upd f1 0 0) 1 0) 2 0))), (h0, .inr (8, [v0, .int 2, v1, v2, v3, v4, v5, v6, v7, v8, v9, v10, v11, v12, .ref h3, v13, v14, v15])), (h1, .inr (2, [.ref h2, v16, v17, v18, v19, v20])), (h2, .inl (ty 1, 16, .inl (upd (kf 1000000) 0 0)))] := hD
  refine lv_iconst (v := 0) hx hb dX2_measureAll_21 (by decide) ?_
  refine lv_istore (lv' := [(5, .int 0), (4, .int 0), (0, .ref h1), (1, .ref h0), (2, .ref h5), (3, .ref h4)]) hx hb dX2_measureAll_22 hl (by decide) rfl (fun ls hl => ?_)
  refine lv_iload hx hb dX2_measureAll_24 (lv_at hl 0 rfl) ?_
  refine lv_aload_n hx hb dX2_measureAll_26 rfl (lv_at hl 3 rfl) ?_
  refine va_get (D := D) (ci := 8) (v := .int 2) (C := RX8) (T := TX8) (N := 18) hx hb hB inB_X8 hown hK.1 hP 2 rfl rfl 1 (by decide) (hB _ mw_156) (fun _ h9 => h9) rfl dX2_measureAll_27 ?_
  refine lv_icmp_ge (tgt := 56) hx hb dX2_measureAll_30 (by decide) (fun h9 => absurd h9 (by decide)) (fun _ => ?_)
  refine lv_aload_n hx hb dX2_measureAll_33 rfl (lv_at hl 5 rfl) ?_
  refine lv_iload hx hb dX2_measureAll_34 (lv_at hl 0 rfl) ?_
  refine lv_bipush (v := 16) hx hb dX2_measureAll_36 (by decide) ?_
  refine lv_imul hx hb dX2_measureAll_38 ?_
  refine tp_i (v := 0) (by decide) ?_
  refine lv_iload hx hb dX2_measureAll_39 (lv_at hl 1 rfl) ?_
  refine lv_iadd hx hb dX2_measureAll_41 ?_
  refine tp_i (v := 0) (by decide) ?_
  refine lv_aload_n hx hb dX2_measureAll_42 rfl (lv_at hl 2 rfl) ?_
  refine va_get (D := D) (ci := 2) (v := .ref h2) (C := RX2) (T := TX2) (N := 6) hx hb hB inB_X2 hown hK.1 hP 3 rfl rfl 0 (by decide) (hB _ mw_94) (fun _ h9 => h9) rfl dX2_measureAll_43 ?_
  refine lv_iload hx hb dX2_measureAll_46 (lv_at hl 0 rfl) ?_
  refine va_iald hx hb hK.1 hP 4 1 rfl rfl (by unfold vp_in; decide) dX2_measureAll_48 ?_
  refine tp_i (v := 0) rfl ?_
  refine wy_iast hx hb hK hP hD hS 0 1 rfl rfl (by unfold vp_in; decide) dX2_measureAll_49 (j := 0) (by decide) (ws' := [(h4, .inl (ty 1, 256, .inl (upd f2 0 0))), (h3, .inl (ty 1, 17, .inl (upd (upd (upd f1 0 0) 1 0) 2 0))), (h0, .inr (8, [v0, .int 2, v1, v2, v3, v4, v5, v6, v7, v8, v9, v10, v11, v12, .ref h3, v13, v14, v15])), (h1, .inr (2, [.ref h2, v16, v17, v18, v19, v20])), (h2, .inl (ty 1, 16, .inl (upd (kf 1000000) 0 0)))]) rfl (fun H locs hP hD hS => ?_)
  refine lv_iinc (v := 1) (lv' := [(5, .int 1), (4, .int 0), (0, .ref h1), (1, .ref h0), (2, .ref h5), (3, .ref h4)]) hx hb dX2_measureAll_50 hl (k := 0) rfl (by decide) (by decide) rfl (fun ls hl => ?_)
  refine lv_goto (tgt := 24) hx hb dX2_measureAll_53 (by decide) ?_
  refine lv_iload hx hb dX2_measureAll_24 (lv_at hl 0 rfl) ?_
  refine lv_aload_n hx hb dX2_measureAll_26 rfl (lv_at hl 3 rfl) ?_
  refine va_get (D := D) (ci := 8) (v := .int 2) (C := RX8) (T := TX8) (N := 18) hx hb hB inB_X8 hown hK.1 hP 2 rfl rfl 1 (by decide) (hB _ mw_156) (fun _ h9 => h9) rfl dX2_measureAll_27 ?_
  refine lv_icmp_ge (tgt := 56) hx hb dX2_measureAll_30 (by decide) (fun h9 => absurd h9 (by decide)) (fun _ => ?_)
  refine lv_aload_n hx hb dX2_measureAll_33 rfl (lv_at hl 5 rfl) ?_
  refine lv_iload hx hb dX2_measureAll_34 (lv_at hl 0 rfl) ?_
  refine lv_bipush (v := 16) hx hb dX2_measureAll_36 (by decide) ?_
  refine lv_imul hx hb dX2_measureAll_38 ?_
  refine tp_i (v := 16) (by decide) ?_
  refine lv_iload hx hb dX2_measureAll_39 (lv_at hl 1 rfl) ?_
  refine lv_iadd hx hb dX2_measureAll_41 ?_
  refine tp_i (v := 16) (by decide) ?_
  refine lv_aload_n hx hb dX2_measureAll_42 rfl (lv_at hl 2 rfl) ?_
  refine va_get (D := D) (ci := 2) (v := .ref h2) (C := RX2) (T := TX2) (N := 6) hx hb hB inB_X2 hown hK.1 hP 3 rfl rfl 0 (by decide) (hB _ mw_94) (fun _ h9 => h9) rfl dX2_measureAll_43 ?_
  refine lv_iload hx hb dX2_measureAll_46 (lv_at hl 0 rfl) ?_
  refine va_iald hx hb hK.1 hP 4 1 rfl rfl (by unfold vp_in; decide) dX2_measureAll_48 ?_
  refine tp_i (v := 1000000) rfl ?_
  refine wy_iast hx hb hK hP hD hS 0 1 rfl rfl (by unfold vp_in; decide) dX2_measureAll_49 (j := 16) (by decide) (ws' := [(h4, .inl (ty 1, 256, .inl (upd (upd f2 0 0) 16 1000000))), (h3, .inl (ty 1, 17, .inl (upd (upd (upd f1 0 0) 1 0) 2 0))), (h0, .inr (8, [v0, .int 2, v1, v2, v3, v4, v5, v6, v7, v8, v9, v10, v11, v12, .ref h3, v13, v14, v15])), (h1, .inr (2, [.ref h2, v16, v17, v18, v19, v20])), (h2, .inl (ty 1, 16, .inl (upd (kf 1000000) 0 0)))]) rfl (fun H locs hP hD hS => ?_)
  refine lv_iinc (v := 2) (lv' := [(5, .int 2), (4, .int 0), (0, .ref h1), (1, .ref h0), (2, .ref h5), (3, .ref h4)]) hx hb dX2_measureAll_50 hl (k := 0) rfl (by decide) (by decide) rfl (fun ls hl => ?_)
  refine lv_goto (tgt := 24) hx hb dX2_measureAll_53 (by decide) ?_
  refine lv_iload hx hb dX2_measureAll_24 (lv_at hl 0 rfl) ?_
  refine lv_aload_n hx hb dX2_measureAll_26 rfl (lv_at hl 3 rfl) ?_
  refine va_get (D := D) (ci := 8) (v := .int 2) (C := RX8) (T := TX8) (N := 18) hx hb hB inB_X8 hown hK.1 hP 2 rfl rfl 1 (by decide) (hB _ mw_156) (fun _ h9 => h9) rfl dX2_measureAll_27 ?_
  refine lv_icmp_ge (tgt := 56) hx hb dX2_measureAll_30 (by decide) (fun _ => ?_) (fun h9 => absurd (by decide) h9)
  refine lv_iinc (v := 1) (lv' := [(4, .int 1), (5, .int 2), (0, .ref h1), (1, .ref h0), (2, .ref h5), (3, .ref h4)]) hx hb dX2_measureAll_56 hl (k := 1) rfl (by decide) (by decide) rfl (fun ls hl => ?_)
  refine lv_goto (tgt := 3) hx hb dX2_measureAll_59 (by decide) ?_
  refine lv_iload hx hb dX2_measureAll_3 (lv_at hl 0 rfl) ?_
  refine lv_aload_n hx hb dX2_measureAll_5 rfl (lv_at hl 3 rfl) ?_
  refine va_get (D := D) (ci := 8) (v := .int 2) (C := RX8) (T := TX8) (N := 18) hx hb hB inB_X8 hown hK.1 hP 2 rfl rfl 1 (by decide) (hB _ mw_156) (fun _ h9 => h9) rfl dX2_measureAll_6 ?_
  refine lv_icmp_ge (tgt := 62) hx hb dX2_measureAll_9 (by decide) (fun h9 => absurd h9 (by decide)) (fun _ => ?_)
  refine lv_aload_n hx hb dX2_measureAll_12 rfl (lv_at hl 2 rfl) ?_
  refine lv_aload_n hx hb dX2_measureAll_13 rfl (lv_at hl 3 rfl) ?_
  refine lv_aload_n hx hb dX2_measureAll_14 rfl (lv_at hl 4 rfl) ?_
  refine lv_iload hx hb dX2_measureAll_15 (lv_at hl 0 rfl) ?_
  refine lv_iconst (v := 0) hx hb dX2_measureAll_17 (by decide) ?_
  refine kc_v (va_runV (As := [.ref h0, .ref h5, .int 1, .int 0]) (rest := []) ⟨hx, hb, hml, hown, hB⟩ (c18_X2_goToward l D ty H.size h1 h2 h0 h3 h5 v16 v17 v18 v19 v20 (upd (kf 1000000) 0 0) v0 v1 v2 v3 v4 v5 v6 v7 v8 v9 v10 v11 v12 v13 v14 v15 f1) (cwV 4 hB (bw_V mw_168 mw_169 mw_170 mw_92 mw_167) rfl rfl rfl (by decide +kernel) ⟨Nat.le_of_ble_eq_true rfl, Nat.le_of_ble_eq_true rfl⟩) (kp_V hK hP hD [3, 4, 2, 1] (by decide) rfl 3 rfl rfl rfl) rfl rfl hl.1 rfl (lv_room (Nat.le_of_ble_eq_true rfl)) dX2_measureAll_18 ⟨Nat.le_of_ble_eq_true rfl, Nat.le_of_ble_eq_true rfl⟩) hP hD hS hA [3, 4, 2, 1] [0] (wr := [(h4, .inl (ty 1, 256, .inl (upd (upd f2 0 0) 16 1000000)))]) rfl rfl (by decide) (by decide) (fun u H locs w2 hP hD hS => ?_)
  subst w2
  have hP : va_P D vwCl [(h4, .inl (ty 1, 256, .inl (upd (upd f2 0 0) 16 1000000))), (h3, .inl (ty 1, 17, .inl (upd (upd (upd f1 0 0) 1 0) 2 0))), (h0, .inr (8, [v0, .int 2, v1, v2, v3, v4, v5, v6, v7, v8, v9, v10, v11, v12, .ref h3, v13, v14, v15])), (h1, .inr (2, [.ref h2, v16, v17, v18, v19, v20])), (h2, .inl (ty 1, 16, .inl (upd (kf 1000000) 1 0)))] H := hP
  have hD : va_D A [(h4, .inl (ty 1, 256, .inl (upd (upd f2 0 0) 16 1000000))), (h3, .inl (ty 1, 17, .inl (upd (upd (upd f1 0 0) 1 0) 2 0))), (h0, .inr (8, [v0, .int 2, v1, v2, v3, v4, v5, v6, v7, v8, v9, v10, v11, v12, .ref h3, v13, v14, v15])), (h1, .inr (2, [.ref h2, v16, v17, v18, v19, v20])), (h2, .inl (ty 1, 16, .inl (upd (kf 1000000) 1 0)))] := hD
  refine lv_iconst (v := 0) hx hb dX2_measureAll_21 (by decide) ?_
  refine lv_istore (lv' := [(5, .int 0), (4, .int 1), (0, .ref h1), (1, .ref h0), (2, .ref h5), (3, .ref h4)]) hx hb dX2_measureAll_22 hl (by decide) rfl (fun ls hl => ?_)
  refine lv_iload hx hb dX2_measureAll_24 (lv_at hl 0 rfl) ?_
  refine lv_aload_n hx hb dX2_measureAll_26 rfl (lv_at hl 3 rfl) ?_
  refine va_get (D := D) (ci := 8) (v := .int 2) (C := RX8) (T := TX8) (N := 18) hx hb hB inB_X8 hown hK.1 hP 2 rfl rfl 1 (by decide) (hB _ mw_156) (fun _ h9 => h9) rfl dX2_measureAll_27 ?_
  refine lv_icmp_ge (tgt := 56) hx hb dX2_measureAll_30 (by decide) (fun h9 => absurd h9 (by decide)) (fun _ => ?_)
  refine lv_aload_n hx hb dX2_measureAll_33 rfl (lv_at hl 5 rfl) ?_
  refine lv_iload hx hb dX2_measureAll_34 (lv_at hl 0 rfl) ?_
  refine lv_bipush (v := 16) hx hb dX2_measureAll_36 (by decide) ?_
  refine lv_imul hx hb dX2_measureAll_38 ?_
  refine tp_i (v := 0) (by decide) ?_
  refine lv_iload hx hb dX2_measureAll_39 (lv_at hl 1 rfl) ?_
  refine lv_iadd hx hb dX2_measureAll_41 ?_
  refine tp_i (v := 1) (by decide) ?_
  refine lv_aload_n hx hb dX2_measureAll_42 rfl (lv_at hl 2 rfl) ?_
  refine va_get (D := D) (ci := 2) (v := .ref h2) (C := RX2) (T := TX2) (N := 6) hx hb hB inB_X2 hown hK.1 hP 3 rfl rfl 0 (by decide) (hB _ mw_94) (fun _ h9 => h9) rfl dX2_measureAll_43 ?_
  refine lv_iload hx hb dX2_measureAll_46 (lv_at hl 0 rfl) ?_
  refine va_iald hx hb hK.1 hP 4 1 rfl rfl (by unfold vp_in; decide) dX2_measureAll_48 ?_
  refine tp_i (v := 1000000) rfl ?_
  refine wy_iast hx hb hK hP hD hS 0 1 rfl rfl (by unfold vp_in; decide) dX2_measureAll_49 (j := 1) (by decide) (ws' := [(h4, .inl (ty 1, 256, .inl (upd (upd (upd f2 0 0) 16 1000000) 1 1000000))), (h3, .inl (ty 1, 17, .inl (upd (upd (upd f1 0 0) 1 0) 2 0))), (h0, .inr (8, [v0, .int 2, v1, v2, v3, v4, v5, v6, v7, v8, v9, v10, v11, v12, .ref h3, v13, v14, v15])), (h1, .inr (2, [.ref h2, v16, v17, v18, v19, v20])), (h2, .inl (ty 1, 16, .inl (upd (kf 1000000) 1 0)))]) rfl (fun H locs hP hD hS => ?_)
  refine lv_iinc (v := 1) (lv' := [(5, .int 1), (4, .int 1), (0, .ref h1), (1, .ref h0), (2, .ref h5), (3, .ref h4)]) hx hb dX2_measureAll_50 hl (k := 0) rfl (by decide) (by decide) rfl (fun ls hl => ?_)
  refine lv_goto (tgt := 24) hx hb dX2_measureAll_53 (by decide) ?_
  refine lv_iload hx hb dX2_measureAll_24 (lv_at hl 0 rfl) ?_
  refine lv_aload_n hx hb dX2_measureAll_26 rfl (lv_at hl 3 rfl) ?_
  refine va_get (D := D) (ci := 8) (v := .int 2) (C := RX8) (T := TX8) (N := 18) hx hb hB inB_X8 hown hK.1 hP 2 rfl rfl 1 (by decide) (hB _ mw_156) (fun _ h9 => h9) rfl dX2_measureAll_27 ?_
  refine lv_icmp_ge (tgt := 56) hx hb dX2_measureAll_30 (by decide) (fun h9 => absurd h9 (by decide)) (fun _ => ?_)
  refine lv_aload_n hx hb dX2_measureAll_33 rfl (lv_at hl 5 rfl) ?_
  refine lv_iload hx hb dX2_measureAll_34 (lv_at hl 0 rfl) ?_
  refine lv_bipush (v := 16) hx hb dX2_measureAll_36 (by decide) ?_
  refine lv_imul hx hb dX2_measureAll_38 ?_
  refine tp_i (v := 16) (by decide) ?_
  refine lv_iload hx hb dX2_measureAll_39 (lv_at hl 1 rfl) ?_
  refine lv_iadd hx hb dX2_measureAll_41 ?_
  refine tp_i (v := 17) (by decide) ?_
  refine lv_aload_n hx hb dX2_measureAll_42 rfl (lv_at hl 2 rfl) ?_
  refine va_get (D := D) (ci := 2) (v := .ref h2) (C := RX2) (T := TX2) (N := 6) hx hb hB inB_X2 hown hK.1 hP 3 rfl rfl 0 (by decide) (hB _ mw_94) (fun _ h9 => h9) rfl dX2_measureAll_43 ?_
  refine lv_iload hx hb dX2_measureAll_46 (lv_at hl 0 rfl) ?_
  refine va_iald hx hb hK.1 hP 4 1 rfl rfl (by unfold vp_in; decide) dX2_measureAll_48 ?_
  refine tp_i (v := 0) rfl ?_
  refine wy_iast hx hb hK hP hD hS 0 1 rfl rfl (by unfold vp_in; decide) dX2_measureAll_49 (j := 17) (by decide) (ws' := [(h4, .inl (ty 1, 256, .inl (upd (upd (upd (upd f2 0 0) 16 1000000) 1 1000000) 17 0))), (h3, .inl (ty 1, 17, .inl (upd (upd (upd f1 0 0) 1 0) 2 0))), (h0, .inr (8, [v0, .int 2, v1, v2, v3, v4, v5, v6, v7, v8, v9, v10, v11, v12, .ref h3, v13, v14, v15])), (h1, .inr (2, [.ref h2, v16, v17, v18, v19, v20])), (h2, .inl (ty 1, 16, .inl (upd (kf 1000000) 1 0)))]) rfl (fun H locs hP hD hS => ?_)
  refine lv_iinc (v := 2) (lv' := [(5, .int 2), (4, .int 1), (0, .ref h1), (1, .ref h0), (2, .ref h5), (3, .ref h4)]) hx hb dX2_measureAll_50 hl (k := 0) rfl (by decide) (by decide) rfl (fun ls hl => ?_)
  refine lv_goto (tgt := 24) hx hb dX2_measureAll_53 (by decide) ?_
  refine lv_iload hx hb dX2_measureAll_24 (lv_at hl 0 rfl) ?_
  refine lv_aload_n hx hb dX2_measureAll_26 rfl (lv_at hl 3 rfl) ?_
  refine va_get (D := D) (ci := 8) (v := .int 2) (C := RX8) (T := TX8) (N := 18) hx hb hB inB_X8 hown hK.1 hP 2 rfl rfl 1 (by decide) (hB _ mw_156) (fun _ h9 => h9) rfl dX2_measureAll_27 ?_
  refine lv_icmp_ge (tgt := 56) hx hb dX2_measureAll_30 (by decide) (fun _ => ?_) (fun h9 => absurd (by decide) h9)
  refine lv_iinc (v := 2) (lv' := [(4, .int 2), (5, .int 2), (0, .ref h1), (1, .ref h0), (2, .ref h5), (3, .ref h4)]) hx hb dX2_measureAll_56 hl (k := 1) rfl (by decide) (by decide) rfl (fun ls hl => ?_)
  refine lv_goto (tgt := 3) hx hb dX2_measureAll_59 (by decide) ?_
  refine lv_iload hx hb dX2_measureAll_3 (lv_at hl 0 rfl) ?_
  refine lv_aload_n hx hb dX2_measureAll_5 rfl (lv_at hl 3 rfl) ?_
  refine va_get (D := D) (ci := 8) (v := .int 2) (C := RX8) (T := TX8) (N := 18) hx hb hB inB_X8 hown hK.1 hP 2 rfl rfl 1 (by decide) (hB _ mw_156) (fun _ h9 => h9) rfl dX2_measureAll_6 ?_
  refine lv_icmp_ge (tgt := 62) hx hb dX2_measureAll_9 (by decide) (fun _ => ?_) (fun h9 => absurd (by decide) h9)
  exact kr_v hx hb hr hlocks hP hD hS [(h4, .inl (ty 1, 256, .inl (upd (upd (upd (upd f2 0 0) 16 1000000) 1 1000000) 17 0))), (h3, .inl (ty 1, 17, .inl (upd (upd (upd f1 0 0) 1 0) 2 0))), (h0, .inr (8, [v0, .int 2, v1, v2, v3, v4, v5, v6, v7, v8, v9, v10, v11, v12, .ref h3, v13, v14, v15])), (h1, .inr (2, [.ref h2, v16, v17, v18, v19, v20])), (h2, .inl (ty 1, 16, .inl (upd (kf 1000000) 1 0)))] [0, 1, 2, 3, 4] (by decide) rfl rfl (by decide) (by decide) dX2_measureAll_62
set_option maxHeartbeats 4000000 in
set_option maxRecDepth 100000 in
theorem c13_X2_settle (l : Launch) (D : va_G) (ty : Nat → ClassId) (sz : Nat) (h0 : Nat) (h1 : Nat) (h2 : Nat) (h3 : Nat) (h4 : Nat) (v0 : Value) (v1 : Value) (v2 : Value) (v3 : Value) (v4 : Value) (v5 : Value) (v6 : Value) (v7 : Value) (v8 : Value) (v9 : Value) (v10 : Value) (v11 : Value) (v12 : Value) (v13 : Value) (f0 : Nat → Int32) (v14 : Value) (v15 : Value) (v16 : Value) (v17 : Value) (h5 : Nat) (f1 : Nat → Int32) (f2 : Nat → Int32) : cQ l yX2_settle cX2_settle 3 none 3 81 [.ref h2, .ref h0] D ty [(h0, .inr (8, [v0, .int 2, .int 0, v1, v2, v3, v4, v5, v6, v7, v8, v9, v10, v11, .ref h1, v12, .ref h4, v13])), (h1, .inl (ty 1, 17, .inl f0)), (h2, .inr (2, [.ref h3, v14, v15, v16, v17, .ref h5])), (h3, .inl (ty 1, 16, .inl f1)), (h4, .inl (ty 1, 256, .inl f2))] sz (qV (fun (u : va_W) => [(h4, .inl (ty 1, 256, .inl (upd (upd (upd (upd f2 0 0) 16 1000000) 1 1000000) 17 0))), (h1, .inl (ty 1, 17, .inl (upd (upd (upd f0 0 0) 1 0) 2 0))), (h0, .inr (8, [v0, .int 2, .int 0, v1, v2, v3, v4, v5, v6, v7, v8, v9, v10, v11, .ref h1, v12, .ref h4, .int 0])), (h2, .inr (2, [.ref h3, v14, v15, v16, v17, .ref h5])), (h3, .inl (ty 1, 16, .inl (upd (kf 1000000) 1 0)))] = u)) 0 0 := by
  refine cQ.of (by decide) (Nat.le_of_ble_eq_true rfl) (fun p e s m below meth c A ls C hsz hP hK hD hA hl => ?_)
  obtain ⟨hx, hb, hml, hown, hB, hr, hlocks, hin⟩ := C
  have hown : s.vm.findClass RX2 = some m.cls := hown
  have hS : va_S A s.heap s.heap [] := va_S.rf
  have hl : lv_has ls 3 [(0, .ref h2), (1, .ref h0)] := hl
  refine lv_aload_n hx hb dX2_settle_0 rfl (lv_at hl 1 rfl) ?_
  refine kc_v (va_runV (As := []) (rest := []) ⟨hx, hb, hml, hown, hB⟩ (c14_X8_listEnds l D ty s.heap.size h0 h1 v0 v1 v2 v3 v4 v5 v6 v7 v8 v9 v10 v11 v12 (.ref h4) v13 f0) (cwV 0 hB (bw_V mw_152 mw_153 mw_154 mw_25 mw_151) rfl rfl rfl (by decide +kernel) ⟨Nat.le_of_ble_eq_true rfl, Nat.le_of_ble_eq_true rfl⟩) (kp_V hK hP hD [0, 1] (by decide) rfl 0 rfl rfl rfl) rfl rfl hl.1 rfl (lv_room (Nat.le_of_ble_eq_true rfl)) dX2_settle_1 ⟨Nat.le_of_ble_eq_true rfl, Nat.le_of_ble_eq_true rfl⟩) hP hD hS hA [0, 1] [2, 3, 4] (wr := [(h2, .inr (2, [.ref h3, v14, v15, v16, v17, .ref h5])), (h3, .inl (ty 1, 16, .inl f1)), (h4, .inl (ty 1, 256, .inl f2))]) rfl rfl (by decide) (by decide) (fun u H locs w1 hP hD hS => ?_)
  subst w1
  have hP : va_P D vwCl [(h2, .inr (2, [.ref h3, v14, v15, v16, v17, .ref h5])), (h3, .inl (ty 1, 16, .inl f1)), (h4, .inl (ty 1, 256, .inl f2)), (h0, .inr (8, [v0, .int 2, .int 0, v1, v2, v3, v4, v5, v6, v7, v8, v9, v10, v11, .ref h1, v12, .ref h4, v13])), (h1, .inl (ty 1, 17, .inl (upd (upd (upd f0 0 0) 1 0) 2 0)))] H := hP
  have hD : va_D A [(h2, .inr (2, [.ref h3, v14, v15, v16, v17, .ref h5])), (h3, .inl (ty 1, 16, .inl f1)), (h4, .inl (ty 1, 256, .inl f2)), (h0, .inr (8, [v0, .int 2, .int 0, v1, v2, v3, v4, v5, v6, v7, v8, v9, v10, v11, .ref h1, v12, .ref h4, v13])), (h1, .inl (ty 1, 17, .inl (upd (upd (upd f0 0 0) 1 0) 2 0)))] := hD
  refine lv_aload_n hx hb dX2_settle_4 rfl (lv_at hl 0 rfl) ?_
  refine lv_aload_n hx hb dX2_settle_5 rfl (lv_at hl 1 rfl) ?_
  refine lv_aload_n hx hb dX2_settle_6 rfl (lv_at hl 0 rfl) ?_
  refine va_get (D := D) (ci := 2) (v := .ref h5) (C := RX2) (T := TX2) (N := 6) hx hb hB inB_X2 hown hK.1 hP 0 rfl rfl 5 (by decide) (hB _ mw_99) (fun _ h9 => h9) rfl dX2_settle_7 ?_
  refine lv_aload_n hx hb dX2_settle_10 rfl (lv_at hl 1 rfl) ?_
  refine va_get (D := D) (ci := 8) (v := .ref h4) (C := RX8) (T := TX8) (N := 18) hx hb hB inB_X8 hown hK.1 hP 3 rfl rfl 16 (by decide) (hB _ mw_155) (fun _ h9 => h9) rfl dX2_settle_11 ?_
  refine kc_v (va_runV (As := [.ref h0, .ref h5, .ref h4]) (rest := []) ⟨hx, hb, hml, hown, hB⟩ (c15_X2_measureAll l D ty H.size h0 h2 h3 h1 h4 h5 v0 (.int 0) v1 v2 v3 v4 v5 v6 v7 v8 v9 v10 v11 v12 (.ref h4) v13 v14 v15 v16 v17 (.ref h5) f1 f0 f2) (cwV 3 hB (bw_V mw_172 mw_173 mw_174 mw_92 mw_171) rfl rfl rfl (by decide +kernel) ⟨Nat.le_of_ble_eq_true rfl, Nat.le_of_ble_eq_true rfl⟩) (kp_V hK hP hD [3, 0, 1, 4, 2] (by decide) rfl 0 rfl rfl rfl) rfl rfl hl.1 rfl (lv_room (Nat.le_of_ble_eq_true rfl)) dX2_settle_14 ⟨Nat.le_of_ble_eq_true rfl, Nat.le_of_ble_eq_true rfl⟩) hP hD hS hA [3, 0, 1, 4, 2] [] (wr := []) rfl rfl (by decide) (by decide) (fun u H locs w2 hP hD hS => ?_)
  subst w2
  have hP : va_P D vwCl [(h4, .inl (ty 1, 256, .inl (upd (upd (upd (upd f2 0 0) 16 1000000) 1 1000000) 17 0))), (h1, .inl (ty 1, 17, .inl (upd (upd (upd f0 0 0) 1 0) 2 0))), (h0, .inr (8, [v0, .int 2, .int 0, v1, v2, v3, v4, v5, v6, v7, v8, v9, v10, v11, .ref h1, v12, .ref h4, v13])), (h2, .inr (2, [.ref h3, v14, v15, v16, v17, .ref h5])), (h3, .inl (ty 1, 16, .inl (upd (kf 1000000) 1 0)))] H := hP
  have hD : va_D A [(h4, .inl (ty 1, 256, .inl (upd (upd (upd (upd f2 0 0) 16 1000000) 1 1000000) 17 0))), (h1, .inl (ty 1, 17, .inl (upd (upd (upd f0 0 0) 1 0) 2 0))), (h0, .inr (8, [v0, .int 2, .int 0, v1, v2, v3, v4, v5, v6, v7, v8, v9, v10, v11, .ref h1, v12, .ref h4, v13])), (h2, .inr (2, [.ref h3, v14, v15, v16, v17, .ref h5])), (h3, .inl (ty 1, 16, .inl (upd (kf 1000000) 1 0)))] := hD
  refine lv_aload_n hx hb dX2_settle_17 rfl (lv_at hl 1 rfl) ?_
  refine lv_iconst (v := 0) hx hb dX2_settle_18 (by decide) ?_
  refine wy_put (D := D) (ci := 8) (v := .int 0) (fty := .int) (C := RX8) (T := TX8) (N := 18) hx hb hB inB_X8 tyX8 tyX8_ok nmX8 hown hK hP hD hS 2 rfl rfl 17 (by decide) mw_175 (fun _ h9 => h9) rfl (by decide +kernel) rfl rfl (Nat.le_of_ble_eq_true rfl) dX2_settle_19 (ws' := [(h4, .inl (ty 1, 256, .inl (upd (upd (upd (upd f2 0 0) 16 1000000) 1 1000000) 17 0))), (h1, .inl (ty 1, 17, .inl (upd (upd (upd f0 0 0) 1 0) 2 0))), (h0, .inr (8, [v0, .int 2, .int 0, v1, v2, v3, v4, v5, v6, v7, v8, v9, v10, v11, .ref h1, v12, .ref h4, .int 0])), (h2, .inr (2, [.ref h3, v14, v15, v16, v17, .ref h5])), (h3, .inl (ty 1, 16, .inl (upd (kf 1000000) 1 0)))]) rfl (fun H locs hP hD hS => ?_)
  refine lv_iconst (v := 0) hx hb dX2_settle_22 (by decide) ?_
  refine lv_istore_n (lv' := [(2, .int 0), (0, .ref h2), (1, .ref h0)]) hx hb dX2_settle_23 rfl hl (by decide) rfl (fun ls hl => ?_)
  refine lv_iload_n hx hb dX2_settle_24 rfl (lv_at hl 0 rfl) ?_
  refine lv_aload_n hx hb dX2_settle_25 rfl (lv_at hl 2 rfl) ?_
  refine va_get (D := D) (ci := 8) (v := .int 0) (C := RX8) (T := TX8) (N := 18) hx hb hB inB_X8 hown hK.1 hP 2 rfl rfl 2 (by decide) (hB _ mw_176) (fun _ h9 => h9) rfl dX2_settle_26 ?_
  refine lv_icmp_ge (tgt := 77) hx hb dX2_settle_29 (by decide) (fun _ => ?_) (fun h9 => absurd (by decide) h9)
  exact kr_v hx hb hr hlocks hP hD hS [(h4, .inl (ty 1, 256, .inl (upd (upd (upd (upd f2 0 0) 16 1000000) 1 1000000) 17 0))), (h1, .inl (ty 1, 17, .inl (upd (upd (upd f0 0 0) 1 0) 2 0))), (h0, .inr (8, [v0, .int 2, .int 0, v1, v2, v3, v4, v5, v6, v7, v8, v9, v10, v11, .ref h1, v12, .ref h4, .int 0])), (h2, .inr (2, [.ref h3, v14, v15, v16, v17, .ref h5])), (h3, .inl (ty 1, 16, .inl (upd (kf 1000000) 1 0)))] [0, 1, 2, 3, 4] (by decide) rfl rfl (by decide) (by decide) dX2_settle_77
