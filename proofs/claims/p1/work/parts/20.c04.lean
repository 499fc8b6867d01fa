set_option maxHeartbeats 4000000 in
set_option maxRecDepth 100000 in
theorem c24_X11_appendBytes (l : Launch) (D : va_G) (ty : Nat → ClassId) (sz : Nat) (h0 : Nat) (h1 : Nat) (p0 : Int32) (v0 : Value) (v1 : Value) (v2 : Value) (v3 : Value) (v4 : Value) (v5 : Value) (v6 : Value) (v7 : Value) (v8 : Value) (v9 : Value) (v10 : Value) (v11 : Value) (v12 : Value) (f0 : Nat → Int32) : cQ l yX11_appendBytes cX11_appendBytes 3 none 0 0 [.ref h0, .int p0] D ty [(h0, .inr (11, [.ref h1, .int 8, v0, v1, v2, v3, v4, v5, v6, v7, v8, v9, v10, v11, v12])), (h1, .inl (ty 0, 800, .inl f0))] sz (qV (fun (u : va_W) => [(h0, .inr (11, [.ref h1, .int 12, v0, v1, v2, v3, v4, v5, v6, v7, v8, v9, v10, v11, v12])), (h1, .inl (ty 0, 800, .inl (upd (upd (upd (upd f0 8 (vp_nar .byte (Int8.toInt32 (Int32.toInt8 (p0 >>> (24 &&& 31)))))) 9 (vp_nar .byte (Int8.toInt32 (Int32.toInt8 (p0 >>> (16 &&& 31)))))) 10 (vp_nar .byte (Int8.toInt32 (Int32.toInt8 (p0 >>> (8 &&& 31)))))) 11 (vp_nar .byte (Int8.toInt32 (Int32.toInt8 (p0 >>> (0 &&& 31))))))))] = u)) 0 0 := by
  refine cQ.of (by decide) (Nat.le_of_ble_eq_true rfl) (fun p e s m below meth c A ls C hsz hP hK hD hA hl => ?_)
  obtain ⟨hx, hb, hml, hown, hB, hr, hlocks, hin⟩ := C
  have hown : s.vm.findClass RX11 = some m.cls := hown
  have hS : va_S A s.heap s.heap [] := va_S.rf
  have hl : lv_has ls 3 [(0, .ref h0), (1, .int p0)] := hl
  refine lv_bipush (v := 24) hx hb dX11_appendBytes_0 (by decide) ?_
  refine lv_istore_n (lv' := [(2, .int 24), (0, .ref h0), (1, .int p0)]) hx hb dX11_appendBytes_2 rfl hl (by decide) rfl (fun ls hl => ?_)
  refine lv_iload_n hx hb dX11_appendBytes_3 rfl (lv_at hl 0 rfl) ?_
  refine lv_if_lt (tgt := 36) hx hb dX11_appendBytes_4 (by decide) (fun h9 => absurd h9 (by decide)) (fun _ => ?_)
  refine lv_aload_n hx hb dX11_appendBytes_7 rfl (lv_at hl 1 rfl) ?_
  refine va_get (D := D) (ci := 11) (v := .ref h1) (C := RX11) (T := TX11) (N := 15) hx hb hB inB_X11 hown hK.1 hP 0 rfl rfl 0 (by decide) (hB _ mw_4) (fun _ h9 => h9) rfl dX11_appendBytes_8 ?_
  refine lv_aload_n hx hb dX11_appendBytes_11 rfl (lv_at hl 1 rfl) ?_
  refine va_get (D := D) (ci := 11) (v := .int 8) (C := RX11) (T := TX11) (N := 15) hx hb hB inB_X11 hown hK.1 hP 0 rfl rfl 1 (by decide) (hB _ mw_5) (fun _ h9 => h9) rfl dX11_appendBytes_12 ?_
  refine lv_iload_n hx hb dX11_appendBytes_15 rfl (lv_at hl 2 rfl) ?_
  refine lv_iload_n hx hb dX11_appendBytes_16 rfl (lv_at hl 0 rfl) ?_
  refine lv_ishr hx hb dX11_appendBytes_17 ?_
  refine lv_i2b (v := (Int8.toInt32 (Int32.toInt8 (p0 >>> (24 &&& 31))))) hx hb dX11_appendBytes_18 rfl ?_
  refine wy_bast hx hb hK hP hD hS 1 0 rfl rfl (by unfold vp_in; decide) dX11_appendBytes_19 (j := 8) (by decide) (y := (vp_nar .byte (Int8.toInt32 (Int32.toInt8 (p0 >>> (24 &&& 31)))))) (by rfl) (ws' := [(h0, .inr (11, [.ref h1, .int 8, v0, v1, v2, v3, v4, v5, v6, v7, v8, v9, v10, v11, v12])), (h1, .inl (ty 0, 800, .inl (upd f0 8 (vp_nar .byte (Int8.toInt32 (Int32.toInt8 (p0 >>> (24 &&& 31))))))))]) rfl (fun H locs hP hD hS => ?_)
  refine lv_aload_n hx hb dX11_appendBytes_20 rfl (lv_at hl 1 rfl) ?_
  refine lv_dup hx hb dX11_appendBytes_21 rfl ?_
  refine va_get (D := D) (ci := 11) (v := .int 8) (C := RX11) (T := TX11) (N := 15) hx hb hB inB_X11 hown hK.1 hP 0 rfl rfl 1 (by decide) (hB _ mw_5) (fun _ h9 => h9) rfl dX11_appendBytes_22 ?_
  refine lv_iconst (v := 1) hx hb dX11_appendBytes_25 (by decide) ?_
  refine lv_iadd hx hb dX11_appendBytes_26 ?_
  refine tp_i (v := 9) (by decide) ?_
  refine wy_put (D := D) (ci := 11) (v := .int 9) (fty := .int) (C := RX11) (T := TX11) (N := 15) hx hb hB inB_X11 tyX11 tyX11_ok nmX11 hown hK hP hD hS 0 rfl rfl 1 (by decide) mw_5 (fun _ h9 => h9) rfl (by decide +kernel) rfl rfl (Nat.le_of_ble_eq_true rfl) dX11_appendBytes_27 (ws' := [(h0, .inr (11, [.ref h1, .int 9, v0, v1, v2, v3, v4, v5, v6, v7, v8, v9, v10, v11, v12])), (h1, .inl (ty 0, 800, .inl (upd f0 8 (vp_nar .byte (Int8.toInt32 (Int32.toInt8 (p0 >>> (24 &&& 31))))))))]) rfl (fun H locs hP hD hS => ?_)
  refine lv_iinc (v := 16) (lv' := [(2, .int 16), (0, .ref h0), (1, .int p0)]) hx hb dX11_appendBytes_30 hl (k := 0) rfl (by decide) (by decide) rfl (fun ls hl => ?_)
  refine lv_goto (tgt := 3) hx hb dX11_appendBytes_33 (by decide) ?_
  refine lv_iload_n hx hb dX11_appendBytes_3 rfl (lv_at hl 0 rfl) ?_
  refine lv_if_lt (tgt := 36) hx hb dX11_appendBytes_4 (by decide) (fun h9 => absurd h9 (by decide)) (fun _ => ?_)
  refine lv_aload_n hx hb dX11_appendBytes_7 rfl (lv_at hl 1 rfl) ?_
  refine va_get (D := D) (ci := 11) (v := .ref h1) (C := RX11) (T := TX11) (N := 15) hx hb hB inB_X11 hown hK.1 hP 0 rfl rfl 0 (by decide) (hB _ mw_4) (fun _ h9 => h9) rfl dX11_appendBytes_8 ?_
  refine lv_aload_n hx hb dX11_appendBytes_11 rfl (lv_at hl 1 rfl) ?_
  refine va_get (D := D) (ci := 11) (v := .int 9) (C := RX11) (T := TX11) (N := 15) hx hb hB inB_X11 hown hK.1 hP 0 rfl rfl 1 (by decide) (hB _ mw_5) (fun _ h9 => h9) rfl dX11_appendBytes_12 ?_
  refine lv_iload_n hx hb dX11_appendBytes_15 rfl (lv_at hl 2 rfl) ?_
  refine lv_iload_n hx hb dX11_appendBytes_16 rfl (lv_at hl 0 rfl) ?_
  refine lv_ishr hx hb dX11_appendBytes_17 ?_
  refine lv_i2b (v := (Int8.toInt32 (Int32.toInt8 (p0 >>> (16 &&& 31))))) hx hb dX11_appendBytes_18 rfl ?_
  refine wy_bast hx hb hK hP hD hS 1 0 rfl rfl (by unfold vp_in; decide) dX11_appendBytes_19 (j := 9) (by decide) (y := (vp_nar .byte (Int8.toInt32 (Int32.toInt8 (p0 >>> (16 &&& 31)))))) (by rfl) (ws' := [(h0, .inr (11, [.ref h1, .int 9, v0, v1, v2, v3, v4, v5, v6, v7, v8, v9, v10, v11, v12])), (h1, .inl (ty 0, 800, .inl (upd (upd f0 8 (vp_nar .byte (Int8.toInt32 (Int32.toInt8 (p0 >>> (24 &&& 31)))))) 9 (vp_nar .byte (Int8.toInt32 (Int32.toInt8 (p0 >>> (16 &&& 31))))))))]) rfl (fun H locs hP hD hS => ?_)
  refine lv_aload_n hx hb dX11_appendBytes_20 rfl (lv_at hl 1 rfl) ?_
  refine lv_dup hx hb dX11_appendBytes_21 rfl ?_
  refine va_get (D := D) (ci := 11) (v := .int 9) (C := RX11) (T := TX11) (N := 15) hx hb hB inB_X11 hown hK.1 hP 0 rfl rfl 1 (by decide) (hB _ mw_5) (fun _ h9 => h9) rfl dX11_appendBytes_22 ?_
  refine lv_iconst (v := 1) hx hb dX11_appendBytes_25 (by decide) ?_
  refine lv_iadd hx hb dX11_appendBytes_26 ?_
  refine tp_i (v := 10) (by decide) ?_
  refine wy_put (D := D) (ci := 11) (v := .int 10) (fty := .int) (C := RX11) (T := TX11) (N := 15) hx hb hB inB_X11 tyX11 tyX11_ok nmX11 hown hK hP hD hS 0 rfl rfl 1 (by decide) mw_5 (fun _ h9 => h9) rfl (by decide +kernel) rfl rfl (Nat.le_of_ble_eq_true rfl) dX11_appendBytes_27 (ws' := [(h0, .inr (11, [.ref h1, .int 10, v0, v1, v2, v3, v4, v5, v6, v7, v8, v9, v10, v11, v12])), (h1, .inl (ty 0, 800, .inl (upd (upd f0 8 (vp_nar .byte (Int8.toInt32 (Int32.toInt8 (p0 >>> (24 &&& 31)))))) 9 (vp_nar .byte (Int8.toInt32 (Int32.toInt8 (p0 >>> (16 &&& 31))))))))]) rfl (fun H locs hP hD hS => ?_)
  refine lv_iinc (v := 8) (lv' := [(2, .int 8), (0, .ref h0), (1, .int p0)]) hx hb dX11_appendBytes_30 hl (k := 0) rfl (by decide) (by decide) rfl (fun ls hl => ?_)
  refine lv_goto (tgt := 3) hx hb dX11_appendBytes_33 (by decide) ?_
  refine lv_iload_n hx hb dX11_appendBytes_3 rfl (lv_at hl 0 rfl) ?_
  refine lv_if_lt (tgt := 36) hx hb dX11_appendBytes_4 (by decide) (fun h9 => absurd h9 (by decide)) (fun _ => ?_)
  refine lv_aload_n hx hb dX11_appendBytes_7 rfl (lv_at hl 1 rfl) ?_
  refine va_get (D := D) (ci := 11) (v := .ref h1) (C := RX11) (T := TX11) (N := 15) hx hb hB inB_X11 hown hK.1 hP 0 rfl rfl 0 (by decide) (hB _ mw_4) (fun _ h9 => h9) rfl dX11_appendBytes_8 ?_
  refine lv_aload_n hx hb dX11_appendBytes_11 rfl (lv_at hl 1 rfl) ?_
  refine va_get (D := D) (ci := 11) (v := .int 10) (C := RX11) (T := TX11) (N := 15) hx hb hB inB_X11 hown hK.1 hP 0 rfl rfl 1 (by decide) (hB _ mw_5) (fun _ h9 => h9) rfl dX11_appendBytes_12 ?_
  refine lv_iload_n hx hb dX11_appendBytes_15 rfl (lv_at hl 2 rfl) ?_
  refine lv_iload_n hx hb dX11_appendBytes_16 rfl (lv_at hl 0 rfl) ?_
  refine lv_ishr hx hb dX11_appendBytes_17 ?_
  refine lv_i2b (v := (Int8.toInt32 (Int32.toInt8 (p0 >>> (8 &&& 31))))) hx hb dX11_appendBytes_18 rfl ?_
  refine wy_bast hx hb hK hP hD hS 1 0 rfl rfl (by unfold vp_in; decide) dX11_appendBytes_19 (j := 10) (by decide) (y := (vp_nar .byte (Int8.toInt32 (Int32.toInt8 (p0 >>> (8 &&& 31)))))) (by rfl) (ws' := [(h0, .inr (11, [.ref h1, .int 10, v0, v1, v2, v3, v4, v5, v6, v7, v8, v9, v10, v11, v12])), (h1, .inl (ty 0, 800, .inl (upd (upd (upd f0 8 (vp_nar .byte (Int8.toInt32 (Int32.toInt8 (p0 >>> (24 &&& 31)))))) 9 (vp_nar .byte (Int8.toInt32 (Int32.toInt8 (p0 >>> (16 &&& 31)))))) 10 (vp_nar .byte (Int8.toInt32 (Int32.toInt8 (p0 >>> (8 &&& 31))))))))]) rfl (fun H locs hP hD hS => ?_)
  refine lv_aload_n hx hb dX11_appendBytes_20 rfl (lv_at hl 1 rfl) ?_
  refine lv_dup hx hb dX11_appendBytes_21 rfl ?_
  refine va_get (D := D) (ci := 11) (v := .int 10) (C := RX11) (T := TX11) (N := 15) hx hb hB inB_X11 hown hK.1 hP 0 rfl rfl 1 (by decide) (hB _ mw_5) (fun _ h9 => h9) rfl dX11_appendBytes_22 ?_
  refine lv_iconst (v := 1) hx hb dX11_appendBytes_25 (by decide) ?_
  refine lv_iadd hx hb dX11_appendBytes_26 ?_
  refine tp_i (v := 11) (by decide) ?_
  refine wy_put (D := D) (ci := 11) (v := .int 11) (fty := .int) (C := RX11) (T := TX11) (N := 15) hx hb hB inB_X11 tyX11 tyX11_ok nmX11 hown hK hP hD hS 0 rfl rfl 1 (by decide) mw_5 (fun _ h9 => h9) rfl (by decide +kernel) rfl rfl (Nat.le_of_ble_eq_true rfl) dX11_appendBytes_27 (ws' := [(h0, .inr (11, [.ref h1, .int 11, v0, v1, v2, v3, v4, v5, v6, v7, v8, v9, v10, v11, v12])), (h1, .inl (ty 0, 800, .inl (upd (upd (upd f0 8 (vp_nar .byte (Int8.toInt32 (Int32.toInt8 (p0 >>> (24 &&& 31)))))) 9 (vp_nar .byte (Int8.toInt32 (Int32.toInt8 (p0 >>> (16 &&& 31)))))) 10 (vp_nar .byte (Int8.toInt32 (Int32.toInt8 (p0 >>> (8 &&& 31))))))))]) rfl (fun H locs hP hD hS => ?_)
  refine lv_iinc (v := 0) (lv' := [(2, .int 0), (0, .ref h0), (1, .int p0)]) hx hb dX11_appendBytes_30 hl (k := 0) rfl (by decide) (by decide) rfl (fun ls hl => ?_)
  refine lv_goto (tgt := 3) hx hb dX11_appendBytes_33 (by decide) ?_
  refine lv_iload_n hx hb dX11_appendBytes_3 rfl (lv_at hl 0 rfl) ?_
  refine lv_if_lt (tgt := 36) hx hb dX11_appendBytes_4 (by decide) (fun h9 => absurd h9 (by decide)) (fun _ => ?_)
  refine lv_aload_n hx hb dX11_appendBytes_7 rfl (lv_at hl 1 rfl) ?_
  refine va_get (D := D) (ci := 11) (v := .ref h1) (C := RX11) (T := TX11) (N := 15) hx hb hB inB_X11 hown hK.1 hP 0 rfl rfl 0 (by decide) (hB _ mw_4) (fun _ h9 => h9) rfl dX11_appendBytes_8 ?_
  refine lv_aload_n hx hb dX11_appendBytes_11 rfl (lv_at hl 1 rfl) ?_
  refine va_get (D := D) (ci := 11) (v := .int 11) (C := RX11) (T := TX11) (N := 15) hx hb hB inB_X11 hown hK.1 hP 0 rfl rfl 1 (by decide) (hB _ mw_5) (fun _ h9 => h9) rfl dX11_appendBytes_12 ?_
  refine lv_iload_n hx hb dX11_appendBytes_15 rfl (lv_at hl 2 rfl) ?_
  refine lv_iload_n hx hb dX11_appendBytes_16 rfl (lv_at hl 0 rfl) ?_
  refine lv_ishr hx hb dX11_appendBytes_17 ?_
  refine lv_i2b (v := (Int8.toInt32 (Int32.toInt8 (p0 >>> (0 &&& 31))))) hx hb dX11_appendBytes_18 rfl ?_
  refine wy_bast hx hb hK hP hD hS 1 0 rfl rfl (by unfold vp_in; decide) dX11_appendBytes_19 (j := 11) (by decide) (y := (vp_nar .byte (Int8.toInt32 (Int32.toInt8 (p0 >>> (0 &&& 31)))))) (by rfl) (ws' := [(h0, .inr (11, [.ref h1, .int 11, v0, v1, v2, v3, v4, v5, v6, v7, v8, v9, v10, v11, v12])), (h1, .inl (ty 0, 800, .inl (upd (upd (upd (upd f0 8 (vp_nar .byte (Int8.toInt32 (Int32.toInt8 (p0 >>> (24 &&& 31)))))) 9 (vp_nar .byte (Int8.toInt32 (Int32.toInt8 (p0 >>> (16 &&& 31)))))) 10 (vp_nar .byte (Int8.toInt32 (Int32.toInt8 (p0 >>> (8 &&& 31)))))) 11 (vp_nar .byte (Int8.toInt32 (Int32.toInt8 (p0 >>> (0 &&& 31))))))))]) rfl (fun H locs hP hD hS => ?_)
  refine lv_aload_n hx hb dX11_appendBytes_20 rfl (lv_at hl 1 rfl) ?_
  refine lv_dup hx hb dX11_appendBytes_21 rfl ?_
  refine va_get (D := D) (ci := 11) (v := .int 11) (C := RX11) (T := TX11) (N := 15) hx hb hB inB_X11 hown hK.1 hP 0 rfl rfl 1 (by decide) (hB _ mw_5) (fun _ h9 => h9) rfl dX11_appendBytes_22 ?_
  refine lv_iconst (v := 1) hx hb dX11_appendBytes_25 (by decide) ?_
  refine lv_iadd hx hb dX11_appendBytes_26 ?_
  refine tp_i (v := 12) (by decide) ?_
  refine wy_put (D := D) (ci := 11) (v := .int 12) (fty := .int) (C := RX11) (T := TX11) (N := 15) hx hb hB inB_X11 tyX11 tyX11_ok nmX11 hown hK hP hD hS 0 rfl rfl 1 (by decide) mw_5 (fun _ h9 => h9) rfl (by decide +kernel) rfl rfl (Nat.le_of_ble_eq_true rfl) dX11_appendBytes_27 (ws' := [(h0, .inr (11, [.ref h1, .int 12, v0, v1, v2, v3, v4, v5, v6, v7, v8, v9, v10, v11, v12])), (h1, .inl (ty 0, 800, .inl (upd (upd (upd (upd f0 8 (vp_nar .byte (Int8.toInt32 (Int32.toInt8 (p0 >>> (24 &&& 31)))))) 9 (vp_nar .byte (Int8.toInt32 (Int32.toInt8 (p0 >>> (16 &&& 31)))))) 10 (vp_nar .byte (Int8.toInt32 (Int32.toInt8 (p0 >>> (8 &&& 31)))))) 11 (vp_nar .byte (Int8.toInt32 (Int32.toInt8 (p0 >>> (0 &&& 31))))))))]) rfl (fun H locs hP hD hS => ?_)
  refine lv_iinc (v := (-8)) (lv' := [(2, .int (-8)), (0, .ref h0), (1, .int p0)]) hx hb dX11_appendBytes_30 hl (k := 0) rfl (by decide) (by decide) rfl (fun ls hl => ?_)
  refine lv_goto (tgt := 3) hx hb dX11_appendBytes_33 (by decide) ?_
  refine lv_iload_n hx hb dX11_appendBytes_3 rfl (lv_at hl 0 rfl) ?_
  refine lv_if_lt (tgt := 36) hx hb dX11_appendBytes_4 (by decide) (fun _ => ?_) (fun h9 => absurd (by decide) h9)
  exact kr_v hx hb hr hlocks hP hD hS [(h0, .inr (11, [.ref h1, .int 12, v0, v1, v2, v3, v4, v5, v6, v7, v8, v9, v10, v11, v12])), (h1, .inl (ty 0, 800, .inl (upd (upd (upd (upd f0 8 (vp_nar .byte (Int8.toInt32 (Int32.toInt8 (p0 >>> (24 &&& 31)))))) 9 (vp_nar .byte (Int8.toInt32 (Int32.toInt8 (p0 >>> (16 &&& 31)))))) 10 (vp_nar .byte (Int8.toInt32 (Int32.toInt8 (p0 >>> (8 &&& 31)))))) 11 (vp_nar .byte (Int8.toInt32 (Int32.toInt8 (p0 >>> (0 &&& 31))))))))] [0, 1] (by decide) rfl rfl (by decide) (by decide) dX11_appendBytes_36
set_option maxHeartbeats 4000000 in
set_option maxRecDepth 100000 in
theorem c25_X11_appendBytes (l : Launch) (D : va_G) (ty : Nat → ClassId) (sz : Nat) (h0 : Nat) (h1 : Nat) (p0 : Int32) (v0 : Value) (v1 : Value) (v2 : Value) (v3 : Value) (v4 : Value) (v5 : Value) (v6 : Value) (v7 : Value) (v8 : Value) (v9 : Value) (v10 : Value) (v11 : Value) (v12 : Value) (f0 : Nat → Int32) : cQ l yX11_appendBytes cX11_appendBytes 3 none 0 0 [.ref h0, .int p0] D ty [(h0, .inr (11, [.ref h1, .int 12, v0, v1, v2, v3, v4, v5, v6, v7, v8, v9, v10, v11, v12])), (h1, .inl (ty 0, 800, .inl f0))] sz (qV (fun (u : va_W) => [(h0, .inr (11, [.ref h1, .int 16, v0, v1, v2, v3, v4, v5, v6, v7, v8, v9, v10, v11, v12])), (h1, .inl (ty 0, 800, .inl (upd (upd (upd (upd f0 12 (vp_nar .byte (Int8.toInt32 (Int32.toInt8 (p0 >>> (24 &&& 31)))))) 13 (vp_nar .byte (Int8.toInt32 (Int32.toInt8 (p0 >>> (16 &&& 31)))))) 14 (vp_nar .byte (Int8.toInt32 (Int32.toInt8 (p0 >>> (8 &&& 31)))))) 15 (vp_nar .byte (Int8.toInt32 (Int32.toInt8 (p0 >>> (0 &&& 31))))))))] = u)) 0 0 := by
  refine cQ.of (by decide) (Nat.le_of_ble_eq_true rfl) (fun p e s m below meth c A ls C hsz hP hK hD hA hl => ?_)
  obtain ⟨hx, hb, hml, hown, hB, hr, hlocks, hin⟩ := C
  have hown : s.vm.findClass RX11 = some m.cls := hown
  have hS : va_S A s.heap s.heap [] := va_S.rf
  have hl : lv_has ls 3 [(0, .ref h0), (1, .int p0)] := hl
  refine lv_bipush (v := 24) hx hb dX11_appendBytes_0 (by decide) ?_
  refine lv_istore_n (lv' := [(2, .int 24), (0, .ref h0), (1, .int p0)]) hx hb dX11_appendBytes_2 rfl hl (by decide) rfl (fun ls hl => ?_)
  refine lv_iload_n hx hb dX11_appendBytes_3 rfl (lv_at hl 0 rfl) ?_
  refine lv_if_lt (tgt := 36) hx hb dX11_appendBytes_4 (by decide) (fun h9 => absurd h9 (by decide)) (fun _ => ?_)
  refine lv_aload_n hx hb dX11_appendBytes_7 rfl (lv_at hl 1 rfl) ?_
  refine va_get (D := D) (ci := 11) (v := .ref h1) (C := RX11) (T := TX11) (N := 15) hx hb hB inB_X11 hown hK.1 hP 0 rfl rfl 0 (by decide) (hB _ mw_4) (fun _ h9 => h9) rfl dX11_appendBytes_8 ?_
  refine lv_aload_n hx hb dX11_appendBytes_11 rfl (lv_at hl 1 rfl) ?_
  refine va_get (D := D) (ci := 11) (v := .int 12) (C := RX11) (T := TX11) (N := 15) hx hb hB inB_X11 hown hK.1 hP 0 rfl rfl 1 (by decide) (hB _ mw_5) (fun _ h9 => h9) rfl dX11_appendBytes_12 ?_
  refine lv_iload_n hx hb dX11_appendBytes_15 rfl (lv_at hl 2 rfl) ?_
  refine lv_iload_n hx hb dX11_appendBytes_16 rfl (lv_at hl 0 rfl) ?_
  refine lv_ishr hx hb dX11_appendBytes_17 ?_
  refine lv_i2b (v := (Int8.toInt32 (Int32.toInt8 (p0 >>> (24 &&& 31))))) hx hb dX11_appendBytes_18 rfl ?_
  refine wy_bast hx hb hK hP hD hS 1 0 rfl rfl (by unfold vp_in; decide) dX11_appendBytes_19 (j := 12) (by decide) (y := (vp_nar .byte (Int8.toInt32 (Int32.toInt8 (p0 >>> (24 &&& 31)))))) (by rfl) (ws' := [(h0, .inr (11, [.ref h1, .int 12, v0, v1, v2, v3, v4, v5, v6, v7, v8, v9, v10, v11, v12])), (h1, .inl (ty 0, 800, .inl (upd f0 12 (vp_nar .byte (Int8.toInt32 (Int32.toInt8 (p0 >>> (24 &&& 31))))))))]) rfl (fun H locs hP hD hS => ?_)
  refine lv_aload_n hx hb dX11_appendBytes_20 rfl (lv_at hl 1 rfl) ?_
  refine lv_dup hx hb dX11_appendBytes_21 rfl ?_
  refine va_get (D := D) (ci := 11) (v := .int 12) (C := RX11) (T := TX11) (N := 15) hx hb hB inB_X11 hown hK.1 hP 0 rfl rfl 1 (by decide) (hB _ mw_5) (fun _ h9 => h9) rfl dX11_appendBytes_22 ?_
  refine lv_iconst (v := 1) hx hb dX11_appendBytes_25 (by decide) ?_
  refine lv_iadd hx hb dX11_appendBytes_26 ?_
  refine tp_i (v := 13) (by decide) ?_
  refine wy_put (D := D) (ci := 11) (v := .int 13) (fty := .int) (C := RX11) (T := TX11) (N := 15) hx hb hB inB_X11 tyX11 tyX11_ok nmX11 hown hK hP hD hS 0 rfl rfl 1 (by decide) mw_5 (fun _ h9 => h9) rfl (by decide +kernel) rfl rfl (Nat.le_of_ble_eq_true rfl) dX11_appendBytes_27 (ws' := [(h0, .inr (11, [.ref h1, .int 13, v0, v1, v2, v3, v4, v5, v6, v7, v8, v9, v10, v11, v12])), (h1, .inl (ty 0, 800, .inl (upd f0 12 (vp_nar .byte (Int8.toInt32 (Int32.toInt8 (p0 >>> (24 &&& 31))))))))]) rfl (fun H locs hP hD hS => ?_)
  refine lv_iinc (v := 16) (lv' := [(2, .int 16), (0, .ref h0), (1, .int p0)]) hx hb dX11_appendBytes_30 hl (k := 0) rfl (by decide) (by decide) rfl (fun ls hl => ?_)
  refine lv_goto (tgt := 3) hx hb dX11_appendBytes_33 (by decide) ?_
  refine lv_iload_n hx hb dX11_appendBytes_3 rfl (lv_at hl 0 rfl) ?_
  refine lv_if_lt (tgt := 36) hx hb dX11_appendBytes_4 (by decide) (fun h9 => absurd h9 (by decide)) (fun _ => ?_)
  refine lv_aload_n hx hb dX11_appendBytes_7 rfl (lv_at hl 1 rfl) ?_
  refine va_get (D := D) (ci := 11) (v := .ref h1) (C := RX11) (T := TX11) (N := 15) hx hb hB inB_X11 hown hK.1 hP 0 rfl rfl 0 (by decide) (hB _ mw_4) (fun _ h9 => h9) rfl dX11_appendBytes_8 ?_
  refine lv_aload_n hx hb dX11_appendBytes_11 rfl (lv_at hl 1 rfl) ?_
  refine va_get (D := D) (ci := 11) (v := .int 13) (C := RX11) (T := TX11) (N := 15) hx hb hB inB_X11 hown hK.1 hP 0 rfl rfl 1 (by decide) (hB _ mw_5) (fun _ h9 => h9) rfl dX11_appendBytes_12 ?_
  refine lv_iload_n hx hb dX11_appendBytes_15 rfl (lv_at hl 2 rfl) ?_
  refine lv_iload_n hx hb dX11_appendBytes_16 rfl (lv_at hl 0 rfl) ?_
  refine lv_ishr hx hb dX11_appendBytes_17 ?_
  refine lv_i2b (v := (Int8.toInt32 (Int32.toInt8 (p0 >>> (16 &&& 31))))) hx hb dX11_appendBytes_18 rfl ?_
  refine wy_bast hx hb hK hP hD hS 1 0 rfl rfl (by unfold vp_in; decide) dX11_appendBytes_19 (j := 13) (by decide) (y := (vp_nar .byte (Int8.toInt32 (Int32.toInt8 (p0 >>> (16 &&& 31)))))) (by rfl) (ws' := [(h0, .inr (11, [.ref h1, .int 13, v0, v1, v2, v3, v4, v5, v6, v7, v8, v9, v10, v11, v12])), (h1, .inl (ty 0, 800, .inl (upd (upd f0 12 (vp_nar .byte (Int8.toInt32 (Int32.toInt8 (p0 >>> (24 &&& 31)))))) 13 (vp_nar .byte (Int8.toInt32 (Int32.toInt8 (p0 >>> (16 &&& 31))))))))]) rfl (fun H locs hP hD hS => ?_)
  refine lv_aload_n hx hb dX11_appendBytes_20 rfl (lv_at hl 1 rfl) ?_
  refine lv_dup hx hb dX11_appendBytes_21 rfl ?_
  refine va_get (D := D) (ci := 11) (v := .int 13) (C := RX11) (T := TX11) (N := 15) hx hb hB inB_X11 hown hK.1 hP 0 rfl rfl 1 (by decide) (hB _ mw_5) (fun _ h9 => h9) rfl dX11_appendBytes_22 ?_
  refine lv_iconst (v := 1) hx hb dX11_appendBytes_25 (by decide) ?_
  refine lv_iadd hx hb dX11_appendBytes_26 ?_
  refine tp_i (v := 14) (by decide) ?_
  refine wy_put (D := D) (ci := 11) (v := .int 14) (fty := .int) (C := RX11) (T := TX11) (N := 15) hx hb hB inB_X11 tyX11 tyX11_ok nmX11 hown hK hP hD hS 0 rfl rfl 1 (by decide) mw_5 (fun _ h9 => h9) rfl (by decide +kernel) rfl rfl (Nat.le_of_ble_eq_true rfl) dX11_appendBytes_27 (ws' := [(h0, .inr (11, [.ref h1, .int 14, v0, v1, v2, v3, v4, v5, v6, v7, v8, v9, v10, v11, v12])), (h1, .inl (ty 0, 800, .inl (upd (upd f0 12 (vp_nar .byte (Int8.toInt32 (Int32.toInt8 (p0 >>> (24 &&& 31)))))) 13 (vp_nar .byte (Int8.toInt32 (Int32.toInt8 (p0 >>> (16 &&& 31))))))))]) rfl (fun H locs hP hD hS => ?_)
  refine lv_iinc (v := 8) (lv' := [(2, .int 8), (0, .ref h0), (1, .int p0)]) hx hb dX11_appendBytes_30 hl (k := 0) rfl (by decide) (by decide) rfl (fun ls hl => ?_)
  refine lv_goto (tgt := 3) hx hb dX11_appendBytes_33 (by decide) ?_
  refine lv_iload_n hx hb dX11_appendBytes_3 rfl (lv_at hl 0 rfl) ?_
  refine lv_if_lt (tgt := 36) hx hb dX11_appendBytes_4 (by decide) (fun h9 => absurd h9 (by decide)) (fun _ => ?_)
  refine lv_aload_n hx hb dX11_appendBytes_7 rfl (lv_at hl 1 rfl) ?_
  refine va_get (D := D) (ci := 11) (v := .ref h1) (C := RX11) (T := TX11) (N := 15) hx hb hB inB_X11 hown hK.1 hP 0 rfl rfl 0 (by decide) (hB _ mw_4) (fun _ h9 => h9) rfl dX11_appendBytes_8 ?_
  refine lv_aload_n hx hb dX11_appendBytes_11 rfl (lv_at hl 1 rfl) ?_
  refine va_get (D := D) (ci := 11) (v := .int 14) (C := RX11) (T := TX11) (N := 15) hx hb hB inB_X11 hown hK.1 hP 0 rfl rfl 1 (by decide) (hB _ mw_5) (fun _ h9 => h9) rfl dX11_appendBytes_12 ?_
  refine lv_iload_n hx hb dX11_appendBytes_15 rfl (lv_at hl 2 rfl) ?_
  refine lv_iload_n hx hb dX11_appendBytes_16 rfl (lv_at hl 0 rfl) ?_
  refine lv_ishr hx hb dX11_appendBytes_17 ?_
  refine lv_i2b (v := (Int8.toInt32 (Int32.toInt8 (p0 >>> (8 &&& 31))))) hx hb dX11_appendBytes_18 rfl ?_
  refine wy_bast hx hb hK hP hD hS 1 0 rfl rfl (by unfold vp_in; decide) dX11_appendBytes_19 (j := 14) (by decide) (y := (vp_nar .byte (Int8.toInt32 (Int32.toInt8 (p0 >>> (8 &&& 31)))))) (by rfl) (ws' := [(h0, .inr (11, [.ref h1, .int 14, v0, v1, v2, v3, v4, v5, v6, v7, v8, v9, v10, v11, v12])), (h1, .inl (ty 0, 800, .inl (upd (upd (upd f0 12 (vp_nar .byte (Int8.toInt32 (Int32.toInt8 (p0 >>> (24 &&& 31)))))) 13 (vp_nar .byte (Int8.toInt32 (Int32.toInt8 (p0 >>> (16 &&& 31)))))) 14 (vp_nar .byte (Int8.toInt32 (Int32.toInt8 (p0 >>> (8 &&& 31))))))))]) rfl (fun H locs hP hD hS => ?_)
  refine lv_aload_n hx hb dX11_appendBytes_20 rfl (lv_at hl 1 rfl) ?_
  refine lv_dup hx hb dX11_appendBytes_21 rfl ?_
  refine va_get (D := D) (ci := 11) (v := .int 14) (C := RX11) (T := TX11) (N := 15) hx hb hB inB_X11 hown hK.1 hP 0 rfl rfl 1 (by decide) (hB _ mw_5) (fun _ h9 => h9) rfl dX11_appendBytes_22 ?_
  refine lv_iconst (v := 1) hx hb dX11_appendBytes_25 (by decide) ?_
  refine lv_iadd hx hb dX11_appendBytes_26 ?_
  refine tp_i (v := 15) (by decide) ?_
  refine wy_put (D := D) (ci := 11) (v := .int 15) (fty := .int) (C := RX11) (T := TX11) (N := 15) hx hb hB inB_X11 tyX11 tyX11_ok nmX11 hown hK hP hD hS 0 rfl rfl 1 (by decide) mw_5 (fun _ h9 => h9) rfl (by decide +kernel) rfl rfl (Nat.le_of_ble_eq_true rfl) dX11_appendBytes_27 (ws' := [(h0, .inr (11, [.ref h1, .int 15, v0, v1, v2, v3, v4, v5, v6, v7, v8, v9, v10, v11, v12])), (h1, .inl (ty 0, 800, .inl (upd (upd (upd f0 12 (vp_nar .byte (Int8.toInt32 (Int32.toInt8 (p0 >>> (24 &&& 31)))))) 13 (vp_nar .byte (Int8.toInt32 (Int32.toInt8 (p0 >>> (16 &&& 31)))))) 14 (vp_nar .byte (Int8.toInt32 (Int32.toInt8 (p0 >>> (8 &&& 31))))))))]) rfl (fun H locs hP hD hS => ?_)
  refine lv_iinc (v := 0) (lv' := [(2, .int 0), (0, .ref h0), (1, .int p0)]) hx hb dX11_appendBytes_30 hl (k := 0) rfl (by decide) (by decide) rfl (fun ls hl => ?_)
  refine lv_goto (tgt := 3) hx hb dX11_appendBytes_33 (by decide) ?_
  refine lv_iload_n hx hb dX11_appendBytes_3 rfl (lv_at hl 0 rfl) ?_
  refine lv_if_lt (tgt := 36) hx hb dX11_appendBytes_4 (by decide) (fun h9 => absurd h9 (by decide)) (fun _ => ?_)
  refine lv_aload_n hx hb dX11_appendBytes_7 rfl (lv_at hl 1 rfl) ?_
  refine va_get (D := D) (ci := 11) (v := .ref h1) (C := RX11) (T := TX11) (N := 15) hx hb hB inB_X11 hown hK.1 hP 0 rfl rfl 0 (by decide) (hB _ mw_4) (fun _ h9 => h9) rfl dX11_appendBytes_8 ?_
  refine lv_aload_n hx hb dX11_appendBytes_11 rfl (lv_at hl 1 rfl) ?_
  refine va_get (D := D) (ci := 11) (v := .int 15) (C := RX11) (T := TX11) (N := 15) hx hb hB inB_X11 hown hK.1 hP 0 rfl rfl 1 (by decide) (hB _ mw_5) (fun _ h9 => h9) rfl dX11_appendBytes_12 ?_
  refine lv_iload_n hx hb dX11_appendBytes_15 rfl (lv_at hl 2 rfl) ?_
  refine lv_iload_n hx hb dX11_appendBytes_16 rfl (lv_at hl 0 rfl) ?_
  refine lv_ishr hx hb dX11_appendBytes_17 ?_
  refine lv_i2b (v := (Int8.toInt32 (Int32.toInt8 (p0 >>> (0 &&& 31))))) hx hb dX11_appendBytes_18 rfl ?_
  refine wy_bast hx hb hK hP hD hS 1 0 rfl rfl (by unfold vp_in; decide) dX11_appendBytes_19 (j := 15) (by decide) (y := (vp_nar .byte (Int8.toInt32 (Int32.toInt8 (p0 >>> (0 &&& 31)))))) (by rfl) (ws' := [(h0, .inr (11, [.ref h1, .int 15, v0, v1, v2, v3, v4, v5, v6, v7, v8, v9, v10, v11, v12])), (h1, .inl (ty 0, 800, .inl (upd (upd (upd (upd f0 12 (vp_nar .byte (Int8.toInt32 (Int32.toInt8 (p0 >>> (24 &&& 31)))))) 13 (vp_nar .byte (Int8.toInt32 (Int32.toInt8 (p0 >>> (16 &&& 31)))))) 14 (vp_nar .byte (Int8.toInt32 (Int32.toInt8 (p0 >>> (8 &&& 31)))))) 15 (vp_nar .byte (Int8.toInt32 (Int32.toInt8 (p0 >>> (0 &&& 31))))))))]) rfl (fun H locs hP hD hS => ?_)
  refine lv_aload_n hx hb dX11_appendBytes_20 rfl (lv_at hl 1 rfl) ?_
  refine lv_dup hx hb dX11_appendBytes_21 rfl ?_
  refine va_get (D := D) (ci := 11) (v := .int 15) (C := RX11) (T := TX11) (N := 15) hx hb hB inB_X11 hown hK.1 hP 0 rfl rfl 1 (by decide) (hB _ mw_5) (fun _ h9 => h9) rfl dX11_appendBytes_22 ?_
  refine lv_iconst (v := 1) hx hb dX11_appendBytes_25 (by decide) ?_
  refine lv_iadd hx hb dX11_appendBytes_26 ?_
  refine tp_i (v := 16) (by decide) ?_
  refine wy_put (D := D) (ci := 11) (v := .int 16) (fty := .int) (C := RX11) (T := TX11) (N := 15) hx hb hB inB_X11 tyX11 tyX11_ok nmX11 hown hK hP hD hS 0 rfl rfl 1 (by decide) mw_5 (fun _ h9 => h9) rfl (by decide +kernel) rfl rfl (Nat.le_of_ble_eq_true rfl) dX11_appendBytes_27 (ws' := [(h0, .inr (11, [.ref h1, .int 16, v0, v1, v2, v3, v4, v5, v6, v7, v8, v9, v10, v11, v12])), (h1, .inl (ty 0, 800, .inl (upd (upd (upd (upd f0 12 (vp_nar .byte (Int8.toInt32 (Int32.toInt8 (p0 >>> (24 &&& 31)))))) 13 (vp_nar .byte (Int8.toInt32 (Int32.toInt8 (p0 >>> (16 &&& 31)))))) 14 (vp_nar .byte (Int8.toInt32 (Int32.toInt8 (p0 >>> (8 &&& 31)))))) 15 (vp_nar .byte (Int8.toInt32 (Int32.toInt8 (p0 >>> (0 &&& 31))))))))]) rfl (fun H locs hP hD hS => ?_)
  refine lv_iinc (v := (-8)) (lv' := [(2, .int (-8)), (0, .ref h0), (1, .int p0)]) hx hb dX11_appendBytes_30 hl (k := 0) rfl (by decide) (by decide) rfl (fun ls hl => ?_)
  refine lv_goto (tgt := 3) hx hb dX11_appendBytes_33 (by decide) ?_
  refine lv_iload_n hx hb dX11_appendBytes_3 rfl (lv_at hl 0 rfl) ?_
  refine lv_if_lt (tgt := 36) hx hb dX11_appendBytes_4 (by decide) (fun _ => ?_) (fun h9 => absurd (by decide) h9)
  exact kr_v hx hb hr hlocks hP hD hS [(h0, .inr (11, [.ref h1, .int 16, v0, v1, v2, v3, v4, v5, v6, v7, v8, v9, v10, v11, v12])), (h1, .inl (ty 0, 800, .inl (upd (upd (upd (upd f0 12 (vp_nar .byte (Int8.toInt32 (Int32.toInt8 (p0 >>> (24 &&& 31)))))) 13 (vp_nar .byte (Int8.toInt32 (Int32.toInt8 (p0 >>> (16 &&& 31)))))) 14 (vp_nar .byte (Int8.toInt32 (Int32.toInt8 (p0 >>> (8 &&& 31)))))) 15 (vp_nar .byte (Int8.toInt32 (Int32.toInt8 (p0 >>> (0 &&& 31))))))))] [0, 1] (by decide) rfl rfl (by decide) (by decide) dX11_appendBytes_36
set_option maxHeartbeats 4000000 in
set_option maxRecDepth 100000 in
theorem c26_X11_appendBytes (l : Launch) (D : va_G) (ty : Nat → ClassId) (sz : Nat) (h0 : Nat) (h1 : Nat) (p0 : Int32) (v0 : Value) (v1 : Value) (v2 : Value) (v3 : Value) (v4 : Value) (v5 : Value) (v6 : Value) (v7 : Value) (v8 : Value) (v9 : Value) (v10 : Value) (v11 : Value) (v12 : Value) (f0 : Nat → Int32) : cQ l yX11_appendBytes cX11_appendBytes 3 none 0 0 [.ref h0, .int p0] D ty [(h0, .inr (11, [.ref h1, .int 16, v0, v1, v2, v3, v4, v5, v6, v7, v8, v9, v10, v11, v12])), (h1, .inl (ty 0, 800, .inl f0))] sz (qV (fun (u : va_W) => [(h0, .inr (11, [.ref h1, .int 20, v0, v1, v2, v3, v4, v5, v6, v7, v8, v9, v10, v11, v12])), (h1, .inl (ty 0, 800, .inl (upd (upd (upd (upd f0 16 (vp_nar .byte (Int8.toInt32 (Int32.toInt8 (p0 >>> (24 &&& 31)))))) 17 (vp_nar .byte (Int8.toInt32 (Int32.toInt8 (p0 >>> (16 &&& 31)))))) 18 (vp_nar .byte (Int8.toInt32 (Int32.toInt8 (p0 >>> (8 &&& 31)))))) 19 (vp_nar .byte (Int8.toInt32 (Int32.toInt8 (p0 >>> (0 &&& 31))))))))] = u)) 0 0 := by
  refine cQ.of (by decide) (Nat.le_of_ble_eq_true rfl) (fun p e s m below meth c A ls C hsz hP hK hD hA hl => ?_)
  obtain ⟨hx, hb, hml, hown, hB, hr, hlocks, hin⟩ := C
  have hown : s.vm.findClass RX11 = some m.cls := hown
  have hS : va_S A s.heap s.heap [] := va_S.rf
  have hl : lv_has ls 3 [(0, .ref h0), (1, .int p0)] := hl
  refine lv_bipush (v := 24) hx hb dX11_appendBytes_0 (by decide) ?_
  refine lv_istore_n (lv' := [(2, .int 24), (0, .ref h0), (1, .int p0)]) hx hb dX11_appendBytes_2 rfl hl (by decide) rfl (fun ls hl => ?_)
  refine lv_iload_n hx hb dX11_appendBytes_3 rfl (lv_at hl 0 rfl) ?_
  refine lv_if_lt (tgt := 36) hx hb dX11_appendBytes_4 (by decide) (fun h9 => absurd h9 (by decide)) (fun _ => ?_)
  refine lv_aload_n hx hb dX11_appendBytes_7 rfl (lv_at hl 1 rfl) ?_
  refine va_get (D := D) (ci := 11) (v := .ref h1) (C := RX11) (T := TX11) (N := 15) hx hb hB inB_X11 hown hK.1 hP 0 rfl rfl 0 (by decide) (hB _ mw_4) (fun _ h9 => h9) rfl dX11_appendBytes_8 ?_
  refine lv_aload_n hx hb dX11_appendBytes_11 rfl (lv_at hl 1 rfl) ?_
  refine va_get (D := D) (ci := 11) (v := .int 16) (C := RX11) (T := TX11) (N := 15) hx hb hB inB_X11 hown hK.1 hP 0 rfl rfl 1 (by decide) (hB _ mw_5) (fun _ h9 => h9) rfl dX11_appendBytes_12 ?_
  refine lv_iload_n hx hb dX11_appendBytes_15 rfl (lv_at hl 2 rfl) ?_
  refine lv_iload_n hx hb dX11_appendBytes_16 rfl (lv_at hl 0 rfl) ?_
  refine lv_ishr hx hb dX11_appendBytes_17 ?_
  refine lv_i2b (v := (Int8.toInt32 (Int32.toInt8 (p0 >>> (24 &&& 31))))) hx hb dX11_appendBytes_18 rfl ?_
  refine wy_bast hx hb hK hP hD hS 1 0 rfl rfl (by unfold vp_in; decide) dX11_appendBytes_19 (j := 16) (by decide) (y := (vp_nar .byte (Int8.toInt32 (Int32.toInt8 (p0 >>> (24 &&& 31)))))) (by rfl) (ws' := [(h0, .inr (11, [.ref h1, .int 16, v0, v1, v2, v3, v4, v5, v6, v7, v8, v9, v10, v11, v12])), (h1, .inl (ty 0, 800, .inl (upd f0 16 (vp_nar .byte (Int8.toInt32 (Int32.toInt8 (p0 >>> (24 &&& 31))))))))]) rfl (fun H locs hP hD hS => ?_)
  refine lv_aload_n hx hb dX11_appendBytes_20 rfl (lv_at hl 1 rfl) ?_
  refine lv_dup hx hb dX11_appendBytes_21 rfl ?_
  refine va_get (D := D) (ci := 11) (v := .int 16) (C := RX11) (T := TX11) (N := 15) hx hb hB inB_X11 hown hK.1 hP 0 rfl rfl 1 (by decide) (hB _ mw_5) (fun _ h9 => h9) rfl dX11_appendBytes_22 ?_
  refine lv_iconst (v := 1) hx hb dX11_appendBytes_25 (by decide) ?_
  refine lv_iadd hx hb dX11_appendBytes_26 ?_
  refine tp_i (v := 17) (by decide) ?_
  refine wy_put (D := D) (ci := 11) (v := .int 17) (fty := .int) (C := RX11) (T := TX11) (N := 15) hx hb hB inB_X11 tyX11 tyX11_ok nmX11 hown hK hP hD hS 0 rfl rfl 1 (by decide) mw_5 (fun _ h9 => h9) rfl (by decide +kernel) rfl rfl (Nat.le_of_ble_eq_true rfl) dX11_appendBytes_27 (ws' := [(h0, .inr (11, [.ref h1, .int 17, v0, v1, v2, v3, v4, v5, v6, v7, v8, v9, v10, v11, v12])), (h1, .inl (ty 0, 800, .inl (upd f0 16 (vp_nar .byte (Int8.toInt32 (Int32.toInt8 (p0 >>> (24 &&& 31))))))))]) rfl (fun H locs hP hD hS => ?_)
  refine lv_iinc (v := 16) (lv' := [(2, .int 16), (0, .ref h0), (1, .int p0)]) hx hb dX11_appendBytes_30 hl (k := 0) rfl (by decide) (by decide) rfl (fun ls hl => ?_)
  refine lv_goto (tgt := 3) hx hb dX11_appendBytes_33 (by decide) ?_
  refine lv_iload_n hx hb dX11_appendBytes_3 rfl (lv_at hl 0 rfl) ?_
  refine lv_if_lt (tgt := 36) hx hb dX11_appendBytes_4 (by decide) (fun h9 => absurd h9 (by decide)) (fun _ => ?_)
  refine lv_aload_n hx hb dX11_appendBytes_7 rfl (lv_at hl 1 rfl) ?_
  refine va_get (D := D) (ci := 11) (v := .ref h1) (C := RX11) (T := TX11) (N := 15) hx hb hB inB_X11 hown hK.1 hP 0 rfl rfl 0 (by decide) (hB _ mw_4) (fun _ h9 => h9) rfl dX11_appendBytes_8 ?_
  refine lv_aload_n hx hb dX11_appendBytes_11 rfl (lv_at hl 1 rfl) ?_
  refine va_get (D := D) (ci := 11) (v := .int 17) (C := RX11) (T := TX11) (N := 15) hx hb hB inB_X11 hown hK.1 hP 0 rfl rfl 1 (by decide) (hB _ mw_5) (fun _ h9 => h9) rfl dX11_appendBytes_12 ?_
  refine lv_iload_n hx hb dX11_appendBytes_15 rfl (lv_at hl 2 rfl) ?_
  refine lv_iload_n hx hb dX11_appendBytes_16 rfl (lv_at hl 0 rfl) ?_
  refine lv_ishr hx hb dX11_appendBytes_17 ?_
  refine lv_i2b (v := (Int8.toInt32 (Int32.toInt8 (p0 >>> (16 &&& 31))))) hx hb dX11_appendBytes_18 rfl ?_
  refine wy_bast hx hb hK hP hD hS 1 0 rfl rfl (by unfold vp_in; decide) dX11_appendBytes_19 (j := 17) (by decide) (y := (vp_nar .byte (Int8.toInt32 (Int32.toInt8 (p0 >>> (16 &&& 31)))))) (by rfl) (ws' := [(h0, .inr (11, [.ref h1, .int 17, v0, v1, v2, v3, v4, v5, v6, v7, v8, v9, v10, v11, v12])), (h1, .inl (ty 0, 800, .inl (upd (upd f0 16 (vp_nar .byte (Int8.toInt32 (Int32.toInt8 (p0 >>> (24 &&& 31)))))) 17 (vp_nar .byte (Int8.toInt32 (Int32.toInt8 (p0 >>> (16 &&& 31))))))))]) rfl (fun H locs hP hD hS => ?_)
  refine lv_aload_n hx hb dX11_appendBytes_20 rfl (lv_at hl 1 rfl) ?_
  refine lv_dup hx hb dX11_appendBytes_21 rfl ?_
  refine va_get (D := D) (ci := 11) (v := .int 17) (C := RX11) (T := TX11) (N := 15) hx hb hB inB_X11 hown hK.1 hP 0 rfl rfl 1 (by decide) (hB _ mw_5) (fun _ h9 => h9) rfl dX11_appendBytes_22 ?_
  refine lv_iconst (v := 1) hx hb dX11_appendBytes_25 (by decide) ?_
  refine lv_iadd hx hb dX11_appendBytes_26 ?_
  refine tp_i (v := 18) (by decide) ?_
  refine wy_put (D := D) (ci := 11) (v := .int 18) (fty := .int) (C := RX11) (T := TX11) (N := 15) hx hb hB inB_X11 tyX11 tyX11_ok nmX11 hown hK hP hD hS 0 rfl rfl 1 (by decide) mw_5 (fun _ h9 => h9) rfl (by decide +kernel) rfl rfl (Nat.le_of_ble_eq_true rfl) dX11_appendBytes_27 (ws' := [(h0, .inr (11, [.ref h1, .int 18, v0, v1, v2, v3, v4, v5, v6, v7, v8, v9, v10, v11, v12])), (h1, .inl (ty 0, 800, .inl (upd (upd f0 16 (vp_nar .byte (Int8.toInt32 (Int32.toInt8 (p0 >>> (24 &&& 31)))))) 17 (vp_nar .byte (Int8.toInt32 (Int32.toInt8 (p0 >>> (16 &&& 31))))))))]) rfl (fun H locs hP hD hS => ?_)
  refine lv_iinc (v := 8) (lv' := [(2, .int 8), (0, .ref h0), (1, .int p0)]) hx hb dX11_appendBytes_30 hl (k := 0) rfl (by decide) (by decide) rfl (fun ls hl => ?_)
  refine lv_goto (tgt := 3) hx hb dX11_appendBytes_33 (by decide) ?_
  refine lv_iload_n hx hb dX11_appendBytes_3 rfl (lv_at hl 0 rfl) ?_
  refine lv_if_lt (tgt := 36) hx hb dX11_appendBytes_4 (by decide) (fun h9 => absurd h9 (by decide)) (fun _ => ?_)
  refine lv_aload_n hx hb dX11_appendBytes_7 rfl (lv_at hl 1 rfl) ?_
  refine va_get (D := D) (ci := 11) (v := .ref h1) (C := RX11) (T := TX11) (N := 15) hx hb hB inB_X11 hown hK.1 hP 0 rfl rfl 0 (by decide) (hB _ mw_4) (fun _ h9 => h9) rfl dX11_appendBytes_8 ?_
  refine lv_aload_n hx hb dX11_appendBytes_11 rfl (lv_at hl 1 rfl) ?_
  refine va_get (D := D) (ci := 11) (v := .int 18) (C := RX11) (T := TX11) (N := 15) hx hb hB inB_X11 hown hK.1 hP 0 rfl rfl 1 (by decide) (hB _ mw_5) (fun _ h9 => h9) rfl dX11_appendBytes_12 ?_
  refine lv_iload_n hx hb dX11_appendBytes_15 rfl (lv_at hl 2 rfl) ?_
  refine lv_iload_n hx hb dX11_appendBytes_16 rfl (lv_at hl 0 rfl) ?_
  refine lv_ishr hx hb dX11_appendBytes_17 ?_
  refine lv_i2b (v := (Int8.toInt32 (Int32.toInt8 (p0 >>> (8 &&& 31))))) hx hb dX11_appendBytes_18 rfl ?_
  refine wy_bast hx hb hK hP hD hS 1 0 rfl rfl (by unfold vp_in; decide) dX11_appendBytes_19 (j := 18) (by decide) (y := (vp_nar .byte (Int8.toInt32 (Int32.toInt8 (p0 >>> (8 &&& 31)))))) (by rfl) (ws' := [(h0, .inr (11, [.ref h1, .int 18, v0, v1, v2, v3, v4, v5, v6, v7, v8, v9, v10, v11, v12])), (h1, .inl (ty 0, 800, .inl (upd (upd (upd f0 16 (vp_nar .byte (Int8.toInt32 (Int32.toInt8 (p0 >>> (24 &&& 31)))))) 17 (vp_nar .byte (Int8.toInt32 (Int32.toInt8 (p0 >>> (16 &&& 31)))))) 18 (vp_nar .byte (Int8.toInt32 (Int32.toInt8 (p0 >>> (8 &&& 31))))))))]) rfl (fun H locs hP hD hS => ?_)
  refine lv_aload_n hx hb dX11_appendBytes_20 rfl (lv_at hl 1 rfl) ?_
  refine lv_dup hx hb dX11_appendBytes_21 rfl ?_
  refine va_get (D := D) (ci := 11) (v := .int 18) (C := RX11) (T := TX11) (N := 15) hx hb hB inB_X11 hown hK.1 hP 0 rfl rfl 1 (by decide) (hB _ mw_5) (fun _ h9 => h9) rfl dX11_appendBytes_22 ?_
  refine lv_iconst (v := 1) hx hb dX11_appendBytes_25 (by decide) ?_
  refine lv_iadd hx hb dX11_appendBytes_26 ?_
  refine tp_i (v := 19) (by decide) ?_
  refine wy_put (D := D) (ci := 11) (v := .int 19) (fty := .int) (C := RX11) (T := TX11) (N := 15) hx hb hB inB_X11 tyX11 tyX11_ok nmX11 hown hK hP hD hS 0 rfl rfl 1 (by decide) mw_5 (fun _ h9 => h9) rfl (by decide +kernel) rfl rfl (Nat.le_of_ble_eq_true rfl) dX11_appendBytes_27 (ws' := [(h0, .inr (11, [.ref h1, .int 19, v0, v1, v2, v3, v4, v5, v6, v7, v8, v9, v10, v11, v12])), (h1, .inl (ty 0, 800, .inl (upd (upd (upd f0 16 (vp_nar .byte (Int8.toInt32 (Int32.toInt8 (p0 >>> (24 &&& 31)))))) 17 (vp_nar .byte (Int8.toInt32 (Int32.toInt8 (p0 >>> (16 &&& 31)))))) 18 (vp_nar .byte (Int8.toInt32 (Int32.toInt8 (p0 >>> (8 &&& 31))))))))]) rfl (fun H locs hP hD hS => ?_)
  refine lv_iinc (v := 0) (lv' := [(2, .int 0), (0, .ref h0), (1, .int p0)]) hx hb dX11_appendBytes_30 hl (k := 0) rfl (by decide) (by decide) rfl (fun ls hl => ?_)
  refine lv_goto (tgt := 3) hx hb dX11_appendBytes_33 (by decide) ?_
  refine lv_iload_n hx hb dX11_appendBytes_3 rfl (lv_at hl 0 rfl) ?_
  refine lv_if_lt (tgt := 36) hx hb dX11_appendBytes_4 (by decide) (fun h9 => absurd h9 (by decide)) (fun _ => ?_)
  refine lv_aload_n hx hb dX11_appendBytes_7 rfl (lv_at hl 1 rfl) ?_
  refine va_get (D := D) (ci := 11) (v := .ref h1) (C := RX11) (T := TX11) (N := 15) hx hb hB inB_X11 hown hK.1 hP 0 rfl rfl 0 (by decide) (hB _ mw_4) (fun _ h9 => h9) rfl dX11_appendBytes_8 ?_
  refine lv_aload_n hx hb dX11_appendBytes_11 rfl (lv_at hl 1 rfl) ?_
  refine va_get (D := D) (ci := 11) (v := .int 19) (C := RX11) (T := TX11) (N := 15) hx hb hB inB_X11 hown hK.1 hP 0 rfl rfl 1 (by decide) (hB _ mw_5) (fun _ h9 => h9) rfl dX11_appendBytes_12 ?_
  refine lv_iload_n hx hb dX11_appendBytes_15 rfl (lv_at hl 2 rfl) ?_
  refine lv_iload_n hx hb dX11_appendBytes_16 rfl (lv_at hl 0 rfl) ?_
  refine lv_ishr hx hb dX11_appendBytes_17 ?_
  refine lv_i2b (v := (Int8.toInt32 (Int32.toInt8 (p0 >>> (0 &&& 31))))) hx hb dX11_appendBytes_18 rfl ?_
  refine wy_bast hx hb hK hP hD hS 1 0 rfl rfl (by unfold vp_in; decide) dX11_appendBytes_19 (j := 19) (by decide) (y := (vp_nar .byte (Int8.toInt32 (Int32.toInt8 (p0 >>> (0 &&& 31)))))) (by rfl) (ws' := [(h0, .inr (11, [.ref h1, .int 19, v0, v1, v2, v3, v4, v5, v6, v7, v8, v9, v10, v11, v12])), (h1, .inl (ty 0, 800, .inl (upd (upd (upd (upd f0 16 (vp_nar .byte (Int8.toInt32 (Int32.toInt8 (p0 >>> (24 &&& 31)))))) 17 (vp_nar .byte (Int8.toInt32 (Int32.toInt8 (p0 >>> (16 &&& 31)))))) 18 (vp_nar .byte (Int8.toInt32 (Int32.toInt8 (p0 >>> (8 &&& 31)))))) 19 (vp_nar .byte (Int8.toInt32 (Int32.toInt8 (p0 >>> (0 &&& 31))))))))]) rfl (fun H locs hP hD hS => ?_)
  refine lv_aload_n hx hb dX11_appendBytes_20 rfl (lv_at hl 1 rfl) ?_
  refine lv_dup hx hb dX11_appendBytes_21 rfl ?_
  refine va_get (D := D) (ci := 11) (v := .int 19) (C := RX11) (T := TX11) (N := 15) hx hb hB inB_X11 hown hK.1 hP 0 rfl rfl 1 (by decide) (hB _ mw_5) (fun _ h9 => h9) rfl dX11_appendBytes_22 ?_
  refine lv_iconst (v := 1) hx hb dX11_appendBytes_25 (by decide) ?_
  refine lv_iadd hx hb dX11_appendBytes_26 ?_
  refine tp_i (v := 20) (by decide) ?_
  refine wy_put (D := D) (ci := 11) (v := .int 20) (fty := .int) (C := RX11) (T := TX11) (N := 15) hx hb hB inB_X11 tyX11 tyX11_ok nmX11 hown hK hP hD hS 0 rfl rfl 1 (by decide) mw_5 (fun _ h9 => h9) rfl (by decide +kernel) rfl rfl (Nat.le_of_ble_eq_true rfl) dX11_appendBytes_27 (ws' := [(h0, .inr (11, [.ref h1, .int 20, v0, v1, v2, v3, v4, v5, v6, v7, v8, v9, v10, v11, v12])), (h1, .inl (ty 0, 800, .inl (upd (upd (upd (upd f0 16 (vp_nar .byte (Int8.toInt32 (Int32.toInt8 (p0 >>> (24 &&& 31)))))) 17 (vp_nar .byte (Int8.toInt32 (Int32.toInt8 (p0 >>> (16 &&& 31)))))) 18 (vp_nar .byte (Int8.toInt32 (Int32.toInt8 (p0 >>> (8 &&& 31)))))) 19 (vp_nar .byte (Int8.toInt32 (Int32.toInt8 (p0 >>> (0 &&& 31))))))))]) rfl (fun H locs hP hD hS => ?_)
  refine lv_iinc (v := (-8)) (lv' := [(2, .int (-8)), (0, .ref h0), (1, .int p0)]) hx hb dX11_appendBytes_30 hl (k := 0) rfl (by decide) (by decide) rfl (fun ls hl => ?_)
  refine lv_goto (tgt := 3) hx hb dX11_appendBytes_33 (by decide) ?_
  refine lv_iload_n hx hb dX11_appendBytes_3 rfl (lv_at hl 0 rfl) ?_
  refine lv_if_lt (tgt := 36) hx hb dX11_appendBytes_4 (by decide) (fun _ => ?_) (fun h9 => absurd (by decide) h9)
  exact kr_v hx hb hr hlocks hP hD hS [(h0, .inr (11, [.ref h1, .int 20, v0, v1, v2, v3, v4, v5, v6, v7, v8, v9, v10, v11, v12])), (h1, .inl (ty 0, 800, .inl (upd (upd (upd (upd f0 16 (vp_nar .byte (Int8.toInt32 (Int32.toInt8 (p0 >>> (24 &&& 31)))))) 17 (vp_nar .byte (Int8.toInt32 (Int32.toInt8 (p0 >>> (16 &&& 31)))))) 18 (vp_nar .byte (Int8.toInt32 (Int32.toInt8 (p0 >>> (8 &&& 31)))))) 19 (vp_nar .byte (Int8.toInt32 (Int32.toInt8 (p0 >>> (0 &&& 31))))))))] [0, 1] (by decide) rfl rfl (by decide) (by decide) dX11_appendBytes_36
set_option maxHeartbeats 4000000 in
set_option maxRecDepth 100000 in
theorem c21_X11_feed (l : Launch) (D : va_G) (ty : Nat → ClassId) (sz : Nat) (h0 : Nat) (h1 : Nat) (p0 : Int32) (p1 : Int32) (p2 : Int32) (p3 : Int32) (p4 : Int32) (v0 : Value) (v1 : Value) (v2 : Value) (v3 : Value) (v4 : Value) (v5 : Value) (v6 : Value) (v7 : Value) (v8 : Value) (v9 : Value) (v10 : Value) (v11 : Value) (v12 : Value) (f0 : Nat → Int32) : cQ l yX11_feed cX11_feed 6 (some .int) 1 22 [.ref h0, .int p0, .int p1, .int p2, .int p3, .int p4] D ty [(h0, .inr (11, [.ref h1, .int 0, v0, v1, v2, v3, v4, v5, v6, v7, v8, v9, v10, v11, v12])), (h1, .inl (ty 0, 800, .inl f0))] sz (qI (fun (r : Int32) (u : va_W) => 20 = r ∧ [] = u)) 0 0 := by
  refine cQ.of (by decide) (Nat.le_of_ble_eq_true rfl) (fun p e s m below meth c A ls C hsz hP hK hD hA hl => ?_)
  obtain ⟨hx, hb, hml, hown, hB, hr, hlocks, hin⟩ := C
  have hown : s.vm.findClass RX11 = some m.cls := hown
  have hS : va_S A s.heap s.heap [] := va_S.rf
  have hl : lv_has ls 6 [(0, .ref h0), (1, .int p0), (2, .int p1), (3, .int p2), (4, .int p3), (5, .int p4)] := hl
  refine lv_aload_n hx hb dX11_feed_0 rfl (lv_at hl 0 rfl) ?_
  refine va_get (D := D) (ci := 11) (v := .int 0) (C := RX11) (T := TX11) (N := 15) hx hb hB inB_X11 hown hK.1 hP 0 rfl rfl 1 (by decide) (hB _ mw_5) (fun _ h9 => h9) rfl dX11_feed_1 ?_
  refine lv_bipush (v := 20) hx hb dX11_feed_4 (by decide) ?_
  refine lv_iadd hx hb dX11_feed_6 ?_
  refine tp_i (v := 20) (by decide) ?_
  refine lv_sipush (v := 800) hx hb dX11_feed_7 (by decide) ?_
  refine lv_icmp_le (tgt := 15) hx hb dX11_feed_10 (by decide) (fun _ => ?_) (fun h9 => absurd (by decide) h9)
  refine lv_aload_n hx hb dX11_feed_15 rfl (lv_at hl 0 rfl) ?_
  refine lv_iload_n hx hb dX11_feed_16 rfl (lv_at hl 1 rfl) ?_
  refine kc_v (va_runV (As := [.int p0]) (rest := []) ⟨hx, hb, hml, hown, hB⟩ (c22_X11_appendBytes l D ty s.heap.size h0 h1 p0 v0 v1 v2 v3 v4 v5 v6 v7 v8 v9 v10 v11 v12 f0) (cwV 1 hB (bw_V mw_213 mw_214 mw_215 mw_216 mw_212) rfl rfl rfl (by decide +kernel) ⟨Nat.le_of_ble_eq_true rfl, Nat.le_of_ble_eq_true rfl⟩) (kp_V hK hP hD [0, 1] (by decide) rfl 0 rfl rfl rfl) rfl rfl hl.1 rfl (lv_room (Nat.le_of_ble_eq_true rfl)) dX11_feed_17 ⟨Nat.le_of_ble_eq_true rfl, Nat.le_of_ble_eq_true rfl⟩) hP hD hS hA [0, 1] [] (wr := []) rfl rfl (by decide) (by decide) (fun u H locs w1 hP hD hS => ?_)
  subst w1
  have hP : va_P D vwCl [(h0, .inr (11, [.ref h1, .int 4, v0, v1, v2, v3, v4, v5, v6, v7, v8, v9, v10, v11, v12])), (h1, .inl (ty 0, 800, .inl (upd (upd (upd (upd f0 0 (vp_nar .byte (Int8.toInt32 (Int32.toInt8 (p0 >>> (24 &&& 31)))))) 1 (vp_nar .byte (Int8.toInt32 (Int32.toInt8 (p0 >>> (16 &&& 31)))))) 2 (vp_nar .byte (Int8.toInt32 (Int32.toInt8 (p0 >>> (8 &&& 31)))))) 3 (vp_nar .byte (Int8.toInt32 (Int32.toInt8 (p0 >>> (0 &&& 31))))))))] H := hP
  have hD : va_D A [(h0, .inr (11, [.ref h1, .int 4, v0, v1, v2, v3, v4, v5, v6, v7, v8, v9, v10, v11, v12])), (h1, .inl (ty 0, 800, .inl (upd (upd (upd (upd f0 0 (vp_nar .byte (Int8.toInt32 (Int32.toInt8 (p0 >>> (24 &&& 31)))))) 1 (vp_nar .byte (Int8.toInt32 (Int32.toInt8 (p0 >>> (16 &&& 31)))))) 2 (vp_nar .byte (Int8.toInt32 (Int32.toInt8 (p0 >>> (8 &&& 31)))))) 3 (vp_nar .byte (Int8.toInt32 (Int32.toInt8 (p0 >>> (0 &&& 31))))))))] := hD
  refine lv_aload_n hx hb dX11_feed_20 rfl (lv_at hl 0 rfl) ?_
  refine lv_iload_n hx hb dX11_feed_21 rfl (lv_at hl 2 rfl) ?_
  refine kc_v (va_runV (As := [.int p1]) (rest := []) ⟨hx, hb, hml, hown, hB⟩ (c23_X11_appendBytes l D ty H.size h0 h1 p1 v0 v1 v2 v3 v4 v5 v6 v7 v8 v9 v10 v11 v12 (upd (upd (upd (upd f0 0 (vp_nar .byte (Int8.toInt32 (Int32.toInt8 (p0 >>> (24 &&& 31)))))) 1 (vp_nar .byte (Int8.toInt32 (Int32.toInt8 (p0 >>> (16 &&& 31)))))) 2 (vp_nar .byte (Int8.toInt32 (Int32.toInt8 (p0 >>> (8 &&& 31)))))) 3 (vp_nar .byte (Int8.toInt32 (Int32.toInt8 (p0 >>> (0 &&& 31))))))) (cwV 1 hB (bw_V mw_213 mw_214 mw_215 mw_216 mw_212) rfl rfl rfl (by decide +kernel) ⟨Nat.le_of_ble_eq_true rfl, Nat.le_of_ble_eq_true rfl⟩) (kp_V hK hP hD [0, 1] (by decide) rfl 0 rfl rfl rfl) rfl rfl hl.1 rfl (lv_room (Nat.le_of_ble_eq_true rfl)) dX11_feed_22 ⟨Nat.le_of_ble_eq_true rfl, Nat.le_of_ble_eq_true rfl⟩) hP hD hS hA [0, 1] [] (wr := []) rfl rfl (by decide) (by decide) (fun u H locs w2 hP hD hS => ?_)
  subst w2
  have hP : va_P D vwCl [(h0, .inr (11, [.ref h1, .int 8, v0, v1, v2, v3, v4, v5, v6, v7, v8, v9, v10, v11, v12])), (h1, .inl (ty 0, 800, .inl (upd (upd (upd (upd (upd (upd (upd (upd f0 0 (vp_nar .byte (Int8.toInt32 (Int32.toInt8 (p0 >>> (24 &&& 31)))))) 1 (vp_nar .byte (Int8.toInt32 (Int32.toInt8 (p0 >>> (16 &&& 31)))))) 2 (vp_nar .byte (Int8.toInt32 (Int32.toInt8 (p0 >>> (8 &&& 31)))))) 3 (vp_nar .byte (Int8.toInt32 (Int32.toInt8 (p0 >>> (0 &&& 31)))))) 4 (vp_nar .byte (Int8.toInt32 (Int32.toInt8 (p1 >>> (24 &&& 31)))))) 5 (vp_nar .byte (Int8.toInt32 (Int32.toInt8 (p1 >>> (16 &&& 31)))))) 6 (vp_nar .byte (Int8.toInt32 (Int32.toInt8 (p1 >>> (8 &&& 31)))))) 7 (vp_nar .byte (Int8.toInt32 (Int32.toInt8 (p1 >>> (0 &&& 31))))))))] H := hP
  have hD : va_D A [(h0, .inr (11, [.ref h1, .int 8, v0, v1, v2, v3, v4, v5, v6, v7, v8, v9, v10, v11, v12])), (h1, .inl (ty 0, 800, .inl (upd (upd (upd (upd (upd (upd (upd (upd f0 0 (vp_nar .byte (Int8.toInt32 (Int32.toInt8 (p0 >>> (24 &&& 31)))))) 1 (vp_nar .byte (Int8.toInt32 (Int32.toInt8 (p0 >>> (16 &&& 31)))))) 2 (vp_nar .byte (Int8.toInt32 (Int32.toInt8 (p0 >>> (8 &&& 31)))))) 3 (vp_nar .byte (Int8.toInt32 (Int32.toInt8 (p0 >>> (0 &&& 31)))))) 4 (vp_nar .byte (Int8.toInt32 (Int32.toInt8 (p1 >>> (24 &&& 31)))))) 5 (vp_nar .byte (Int8.toInt32 (Int32.toInt8 (p1 >>> (16 &&& 31)))))) 6 (vp_nar .byte (Int8.toInt32 (Int32.toInt8 (p1 >>> (8 &&& 31)))))) 7 (vp_nar .byte (Int8.toInt32 (Int32.toInt8 (p1 >>> (0 &&& 31))))))))] := hD
  refine lv_aload_n hx hb dX11_feed_25 rfl (lv_at hl 0 rfl) ?_
  refine lv_iload_n hx hb dX11_feed_26 rfl (lv_at hl 3 rfl) ?_
  refine kc_v (va_runV (As := [.int p2]) (rest := []) ⟨hx, hb, hml, hown, hB⟩ (c24_X11_appendBytes l D ty H.size h0 h1 p2 v0 v1 v2 v3 v4 v5 v6 v7 v8 v9 v10 v11 v12 (upd (upd (upd (upd (upd (upd (upd (upd f0 0 (vp_nar .byte (Int8.toInt32 (Int32.toInt8 (p0 >>> (24 &&& 31)))))) 1 (vp_nar .byte (Int8.toInt32 (Int32.toInt8 (p0 >>> (16 &&& 31)))))) 2 (vp_nar .byte (Int8.toInt32 (Int32.toInt8 (p0 >>> (8 &&& 31)))))) 3 (vp_nar .byte (Int8.toInt32 (Int32.toInt8 (p0 >>> (0 &&& 31)))))) 4 (vp_nar .byte (Int8.toInt32 (Int32.toInt8 (p1 >>> (24 &&& 31)))))) 5 (vp_nar .byte (Int8.toInt32 (Int32.toInt8 (p1 >>> (16 &&& 31)))))) 6 (vp_nar .byte (Int8.toInt32 (Int32.toInt8 (p1 >>> (8 &&& 31)))))) 7 (vp_nar .byte (Int8.toInt32 (Int32.toInt8 (p1 >>> (0 &&& 31))))))) (cwV 1 hB (bw_V mw_213 mw_214 mw_215 mw_216 mw_212) rfl rfl rfl (by decide +kernel) ⟨Nat.le_of_ble_eq_true rfl, Nat.le_of_ble_eq_true rfl⟩) (kp_V hK hP hD [0, 1] (by decide) rfl 0 rfl rfl rfl) rfl rfl hl.1 rfl (lv_room (Nat.le_of_ble_eq_true rfl)) dX11_feed_27 ⟨Nat.le_of_ble_eq_true rfl, Nat.le_of_ble_eq_true rfl⟩) hP hD hS hA [0, 1] [] (wr := []) rfl rfl (by decide) (by decide) (fun u H locs w3 hP hD hS => ?_)
  subst w3
  have hP : va_P D vwCl [(h0, .inr (11, [.ref h1, .int 12, v0, v1, v2, v3, v4, v5, v6, v7, v8, v9, v10, v11, v12])), (h1, .inl (ty 0, 800, .inl (upd (upd (upd (upd (upd (upd (upd (upd (upd (upd (upd (upd f0 0 (vp_nar .byte (Int8.toInt32 (Int32.toInt8 (p0 >>> (24 &&& 31)))))) 1 (vp_nar .byte (Int8.toInt32 (Int32.toInt8 (p0 >>> (16 &&& 31)))))) 2 (vp_nar .byte (Int8.toInt32 (Int32.toInt8 (p0 >>> (8 &&& 31)))))) 3 (vp_nar .byte (Int8.toInt32 (Int32.toInt8 (p0 >>> (0 &&& 31)))))) 4 (vp_nar .byte (Int8.toInt32 (Int32.toInt8 (p1 >>> (24 &&& 31)))))) 5 (vp_nar .byte (Int8.toInt32 (Int32.toInt8 (p1 >>> (16 &&& 31)))))) 6 (vp_nar .byte (Int8.toInt32 (Int32.toInt8 (p1 >>> (8 &&& 31)))))) 7 (vp_nar .byte (Int8.toInt32 (Int32.toInt8 (p1 >>> (0 &&& 31)))))) 8 (vp_nar .byte (Int8.toInt32 (Int32.toInt8 (p2 >>> (24 &&& 31)))))) 9 (vp_nar .byte (Int8.toInt32 (Int32.toInt8 (p2 >>> (16 &&& 31)))))) 10 (vp_nar .byte (Int8.toInt32 (Int32.toInt8 (p2 >>> (8 &&& 31)))))) 11 (vp_nar .byte (Int8.toInt32 (Int32.toInt8 (p2 >>> (0 &&& 31))))))))] H := hP
  have hD : va_D A [(h0, .inr (11, [.ref h1, .int 12, v0, v1, v2, v3, v4, v5, v6, v7, v8, v9, v10, v11, v12])), (h1, .inl (ty 0, 800, .inl (upd (upd (upd (upd (upd (upd (upd (upd (upd (upd (upd (upd f0 0 (vp_nar .byte (Int8.toInt32 (Int32.toInt8 (p0 >>> (24 &&& 31)))))) 1 (vp_nar .byte (Int8.toInt32 (Int32.toInt8 (p0 >>> (16 &&& 31)))))) 2 (vp_nar .byte (Int8.toInt32 (Int32.toInt8 (p0 >>> (8 &&& 31)))))) 3 (vp_nar .byte (Int8.toInt32 (Int32.toInt8 (p0 >>> (0 &&& 31)))))) 4 (vp_nar .byte (Int8.toInt32 (Int32.toInt8 (p1 >>> (24 &&& 31)))))) 5 (vp_nar .byte (Int8.toInt32 (Int32.toInt8 (p1 >>> (16 &&& 31)))))) 6 (vp_nar .byte (Int8.toInt32 (Int32.toInt8 (p1 >>> (8 &&& 31)))))) 7 (vp_nar .byte (Int8.toInt32 (Int32.toInt8 (p1 >>> (0 &&& 31)))))) 8 (vp_nar .byte (Int8.toInt32 (Int32.toInt8 (p2 >>> (24 &&& 31)))))) 9 (vp_nar .byte (Int8.toInt32 (Int32.toInt8 (p2 >>> (16 &&& 31)))))) 10 (vp_nar .byte (Int8.toInt32 (Int32.toInt8 (p2 >>> (8 &&& 31)))))) 11 (vp_nar .byte (Int8.toInt32 (Int32.toInt8 (p2 >>> (0 &&& 31))))))))] := hD
  refine lv_aload_n hx hb dX11_feed_30 rfl (lv_at hl 0 rfl) ?_
  refine lv_iload hx hb dX11_feed_31 (lv_at hl 4 rfl) ?_
  refine kc_v (va_runV (As := [.int p3]) (rest := []) ⟨hx, hb, hml, hown, hB⟩ (c25_X11_appendBytes l D ty H.size h0 h1 p3 v0 v1 v2 v3 v4 v5 v6 v7 v8 v9 v10 v11 v12 (upd (upd (upd (upd (upd (upd (upd (upd (upd (upd (upd (upd f0 0 (vp_nar .byte (Int8.toInt32 (Int32.toInt8 (p0 >>> (24 &&& 31)))))) 1 (vp_nar .byte (Int8.toInt32 (Int32.toInt8 (p0 >>> (16 &&& 31)))))) 2 (vp_nar .byte (Int8.toInt32 (Int32.toInt8 (p0 >>> (8 &&& 31)))))) 3 (vp_nar .byte (Int8.toInt32 (Int32.toInt8 (p0 >>> (0 &&& 31)))))) 4 (vp_nar .byte (Int8.toInt32 (Int32.toInt8 (p1 >>> (24 &&& 31)))))) 5 (vp_nar .byte (Int8.toInt32 (Int32.toInt8 (p1 >>> (16 &&& 31)))))) 6 (vp_nar .byte (Int8.toInt32 (Int32.toInt8 (p1 >>> (8 &&& 31)))))) 7 (vp_nar .byte (Int8.toInt32 (Int32.toInt8 (p1 >>> (0 &&& 31)))))) 8 (vp_nar .byte (Int8.toInt32 (Int32.toInt8 (p2 >>> (24 &&& 31)))))) 9 (vp_nar .byte (Int8.toInt32 (Int32.toInt8 (p2 >>> (16 &&& 31)))))) 10 (vp_nar .byte (Int8.toInt32 (Int32.toInt8 (p2 >>> (8 &&& 31)))))) 11 (vp_nar .byte (Int8.toInt32 (Int32.toInt8 (p2 >>> (0 &&& 31))))))) (cwV 1 hB (bw_V mw_213 mw_214 mw_215 mw_216 mw_212) rfl rfl rfl (by decide +kernel) ⟨Nat.le_of_ble_eq_true rfl, Nat.le_of_ble_eq_true rfl⟩) (kp_V hK hP hD [0, 1] (by decide) rfl 0 rfl rfl rfl) rfl rfl hl.1 rfl (lv_room (Nat.le_of_ble_eq_true rfl)) dX11_feed_33 ⟨Nat.le_of_ble_eq_true rfl, Nat.le_of_ble_eq_true rfl⟩) hP hD hS hA [0, 1] [] (wr := []) rfl rfl (by decide) (by decide) (fun u H locs w4 hP hD hS => ?_)
  subst w4
  have hP : va_P D vwCl [(h0, .inr (11, [.ref h1, .int 16, v0, v1, v2, v3, v4, v5, v6, v7, v8, v9, v10, v11, v12])), (h1, .inl (ty 0, 800, .inl (upd (upd (upd (upd (upd (upd (upd (upd (upd (upd (upd (upd (upd (upd (upd (upd f0 0 (vp_nar .byte (Int8.toInt32 (Int32.toInt8 (p0 >>> (24 &&& 31)))))) 1 (vp_nar .byte (Int8.toInt32 (Int32.toInt8 (p0 >>> (16 &&& 31)))))) 2 (vp_nar .byte (Int8.toInt32 (Int32.toInt8 (p0 >>> (8 &&& 31)))))) 3 (vp_nar .byte (Int8.toInt32 (Int32.toInt8 (p0 >>> (0 &&& 31)))))) 4 (vp_nar .byte (Int8.toInt32 (Int32.toInt8 (p1 >>> (24 &&& 31)))))) 5 (vp_nar .byte (Int8.toInt32 (Int32.toInt8 (p1 >>> (16 &&& 31)))))) 6 (vp_nar .byte (Int8.toInt32 (Int32.toInt8 (p1 >>> (8 &&& 31)))))) 7 (vp_nar .byte (Int8.toInt32 (Int32.toInt8 (p1 >>> (0 &&& 31)))))) 8 (vp_nar .byte (Int8.toInt32 (Int32.toInt8 (p2 >>> (24 &&& 31)))))) 9 (vp_nar .byte (Int8.toInt32 (Int32.toInt8 (p2 >>> (16 &&& 31)))))) 10 (vp_nar .byte (Int8.toInt32 (Int32.toInt8 (p2 >>> (8 &&& 31)))))) 11 (vp_nar .byte (Int8.toInt32 (Int32.toInt8 (p2 >>> (0 &&& 31)))))) 12 (vp_nar .byte (Int8.toInt32 (Int32.toInt8 (p3 >>> (24 &&& 31)))))) 13 (vp_nar .byte (Int8.toInt32 (Int32.toInt8 (p3 >>> (16 &&& 31)))))) 14 (vp_nar .byte (Int8.toInt32 (Int32.toInt8 (p3 >>> (8 &&& 31)))))) 15 (vp_nar .byte (Int8.toInt32 (Int32.toInt8 (p3 >>> (0 &&& 31))))))))] H := hP
  have hD : va_D A [(h0, .inr (11, [.ref h1, .int 16, v0, v1, v2, v3, v4, v5, v6, v7, v8, v9, v10, v11, v12])), (h1, .inl (ty 0, 800, .inl (upd (upd (upd (upd (upd (upd (upd (upd (upd (upd (upd (upd (upd (upd (upd (upd f0 0 (vp_nar .byte (Int8.toInt32 (Int32.toInt8 (p0 >>> (24 &&& 31)))))) 1 (vp_nar .byte (Int8.toInt32 (Int32.toInt8 (p0 >>> (16 &&& 31)))))) 2 (vp_nar .byte (Int8.toInt32 (Int32.toInt8 (p0 >>> (8 &&& 31)))))) 3 (vp_nar .byte (Int8.toInt32 (Int32.toInt8 (p0 >>> (0 &&& 31)))))) 4 (vp_nar .byte (Int8.toInt32 (Int32.toInt8 (p1 >>> (24 &&& 31)))))) 5 (vp_nar .byte (Int8.toInt32 (Int32.toInt8 (p1 >>> (16 &&& 31)))))) 6 (vp_nar .byte (Int8.toInt32 (Int32.toInt8 (p1 >>> (8 &&& 31)))))) 7 (vp_nar .byte (Int8.toInt32 (Int32.toInt8 (p1 >>> (0 &&& 31)))))) 8 (vp_nar .byte (Int8.toInt32 (Int32.toInt8 (p2 >>> (24 &&& 31)))))) 9 (vp_nar .byte (Int8.toInt32 (Int32.toInt8 (p2 >>> (16 &&& 31)))))) 10 (vp_nar .byte (Int8.toInt32 (Int32.toInt8 (p2 >>> (8 &&& 31)))))) 11 (vp_nar .byte (Int8.toInt32 (Int32.toInt8 (p2 >>> (0 &&& 31)))))) 12 (vp_nar .byte (Int8.toInt32 (Int32.toInt8 (p3 >>> (24 &&& 31)))))) 13 (vp_nar .byte (Int8.toInt32 (Int32.toInt8 (p3 >>> (16 &&& 31)))))) 14 (vp_nar .byte (Int8.toInt32 (Int32.toInt8 (p3 >>> (8 &&& 31)))))) 15 (vp_nar .byte (Int8.toInt32 (Int32.toInt8 (p3 >>> (0 &&& 31))))))))] := hD
  refine lv_aload_n hx hb dX11_feed_36 rfl (lv_at hl 0 rfl) ?_
  refine lv_iload hx hb dX11_feed_37 (lv_at hl 5 rfl) ?_
  refine kc_v (va_runV (As := [.int p4]) (rest := []) ⟨hx, hb, hml, hown, hB⟩ (c26_X11_appendBytes l D ty H.size h0 h1 p4 v0 v1 v2 v3 v4 v5 v6 v7 v8 v9 v10 v11 v12 (upd (upd (upd (upd (upd (upd (upd (upd (upd (upd (upd (upd (upd (upd (upd (upd f0 0 (vp_nar .byte (Int8.toInt32 (Int32.toInt8 (p0 >>> (24 &&& 31)))))) 1 (vp_nar .byte (Int8.toInt32 (Int32.toInt8 (p0 >>> (16 &&& 31)))))) 2 (vp_nar .byte (Int8.toInt32 (Int32.toInt8 (p0 >>> (8 &&& 31)))))) 3 (vp_nar .byte (Int8.toInt32 (Int32.toInt8 (p0 >>> (0 &&& 31)))))) 4 (vp_nar .byte (Int8.toInt32 (Int32.toInt8 (p1 >>> (24 &&& 31)))))) 5 (vp_nar .byte (Int8.toInt32 (Int32.toInt8 (p1 >>> (16 &&& 31)))))) 6 (vp_nar .byte (Int8.toInt32 (Int32.toInt8 (p1 >>> (8 &&& 31)))))) 7 (vp_nar .byte (Int8.toInt32 (Int32.toInt8 (p1 >>> (0 &&& 31)))))) 8 (vp_nar .byte (Int8.toInt32 (Int32.toInt8 (p2 >>> (24 &&& 31)))))) 9 (vp_nar .byte (Int8.toInt32 (Int32.toInt8 (p2 >>> (16 &&& 31)))))) 10 (vp_nar .byte (Int8.toInt32 (Int32.toInt8 (p2 >>> (8 &&& 31)))))) 11 (vp_nar .byte (Int8.toInt32 (Int32.toInt8 (p2 >>> (0 &&& 31)))))) 12 (vp_nar .byte (Int8.toInt32 (Int32.toInt8 (p3 >>> (24 &&& 31)))))) 13 (vp_nar .byte (Int8.toInt32 (Int32.toInt8 (p3 >>> (16 &&& 31)))))) 14 (vp_nar .byte (Int8.toInt32 (Int32.toInt8 (p3 >>> (8 &&& 31)))))) 15 (vp_nar .byte (Int8.toInt32 (Int32.toInt8 (p3 >>> (0 &&& 31))))))) (cwV 1 hB (bw_V mw_213 mw_214 mw_215 mw_216 mw_212) rfl rfl rfl (by decide +kernel) ⟨Nat.le_of_ble_eq_true rfl, Nat.le_of_ble_eq_true rfl⟩) (kp_V hK hP hD [0, 1] (by decide) rfl 0 rfl rfl rfl) rfl rfl hl.1 rfl (lv_room (Nat.le_of_ble_eq_true rfl)) dX11_feed_39 ⟨Nat.le_of_ble_eq_true rfl, Nat.le_of_ble_eq_true rfl⟩) hP hD hS hA [0, 1] [] (wr := []) rfl rfl (by decide) (by decide) (fun u H locs w5 hP hD hS => ?_)
  subst w5
  have hP : va_P D vwCl [(h0, .inr (11, [.ref h1, .int 20, v0, v1, v2, v3, v4, v5, v6, v7, v8, v9, v10, v11, v12])), (h1, .inl (ty 0, 800, .inl (upd (upd (upd (upd (upd (upd (upd (upd (upd (upd (upd (upd (upd (upd (upd (upd (upd (upd (upd (upd f0 0 (vp_nar .byte (Int8.toInt32 (Int32.toInt8 (p0 >>> (24 &&& 31)))))) 1 (vp_nar .byte (Int8.toInt32 (Int32.toInt8 (p0 >>> (16 &&& 31)))))) 2 (vp_nar .byte (Int8.toInt32 (Int32.toInt8 (p0 >>> (8 &&& 31)))))) 3 (vp_nar .byte (Int8.toInt32 (Int32.toInt8 (p0 >>> (0 &&& 31)))))) 4 (vp_nar .byte (Int8.toInt32 (Int32.toInt8 (p1 >>> (24 &&& 31)))))) 5 (vp_nar .byte (Int8.toInt32 (Int32.toInt8 (p1 >>> (16 &&& 31)))))) 6 (vp_nar .byte (Int8.toInt32 (Int32.toInt8 (p1 >>> (8 &&& 31)))))) 7 (vp_nar .byte (Int8.toInt32 (Int32.toInt8 (p1 >>> (0 &&& 31)))))) 8 (vp_nar .byte (Int8.toInt32 (Int32.toInt8 (p2 >>> (24 &&& 31)))))) 9 (vp_nar .byte (Int8.toInt32 (Int32.toInt8 (p2 >>> (16 &&& 31)))))) 10 (vp_nar .byte (Int8.toInt32 (Int32.toInt8 (p2 >>> (8 &&& 31)))))) 11 (vp_nar .byte (Int8.toInt32 (Int32.toInt8 (p2 >>> (0 &&& 31)))))) 12 (vp_nar .byte (Int8.toInt32 (Int32.toInt8 (p3 >>> (24 &&& 31)))))) 13 (vp_nar .byte (Int8.toInt32 (Int32.toInt8 (p3 >>> (16 &&& 31)))))) 14 (vp_nar .byte (Int8.toInt32 (Int32.toInt8 (p3 >>> (8 &&& 31)))))) 15 (vp_nar .byte (Int8.toInt32 (Int32.toInt8 (p3 >>> (0 &&& 31)))))) 16 (vp_nar .byte (Int8.toInt32 (Int32.toInt8 (p4 >>> (24 &&& 31)))))) 17 (vp_nar .byte (Int8.toInt32 (Int32.toInt8 (p4 >>> (16 &&& 31)))))) 18 (vp_nar .byte (Int8.toInt32 (Int32.toInt8 (p4 >>> (8 &&& 31)))))) 19 (vp_nar .byte (Int8.toInt32 (Int32.toInt8 (p4 >>> (0 &&& 31))))))))] H := hP
  have hD : va_D A [(h0, .inr (11, [.ref h1, .int 20, v0, v1, v2, v3, v4, v5, v6, v7, v8, v9, v10, v11, v12])), (h1, .inl (ty 0, 800, .inl (upd (upd (upd (upd (upd (upd (upd (upd (upd (upd (upd (upd (upd (upd (upd (upd (upd (upd (upd (upd f0 0 (vp_nar .byte (Int8.toInt32 (Int32.toInt8 (p0 >>> (24 &&& 31)))))) 1 (vp_nar .byte (Int8.toInt32 (Int32.toInt8 (p0 >>> (16 &&& 31)))))) 2 (vp_nar .byte (Int8.toInt32 (Int32.toInt8 (p0 >>> (8 &&& 31)))))) 3 (vp_nar .byte (Int8.toInt32 (Int32.toInt8 (p0 >>> (0 &&& 31)))))) 4 (vp_nar .byte (Int8.toInt32 (Int32.toInt8 (p1 >>> (24 &&& 31)))))) 5 (vp_nar .byte (Int8.toInt32 (Int32.toInt8 (p1 >>> (16 &&& 31)))))) 6 (vp_nar .byte (Int8.toInt32 (Int32.toInt8 (p1 >>> (8 &&& 31)))))) 7 (vp_nar .byte (Int8.toInt32 (Int32.toInt8 (p1 >>> (0 &&& 31)))))) 8 (vp_nar .byte (Int8.toInt32 (Int32.toInt8 (p2 >>> (24 &&& 31)))))) 9 (vp_nar .byte (Int8.toInt32 (Int32.toInt8 (p2 >>> (16 &&& 31)))))) 10 (vp_nar .byte (Int8.toInt32 (Int32.toInt8 (p2 >>> (8 &&& 31)))))) 11 (vp_nar .byte (Int8.toInt32 (Int32.toInt8 (p2 >>> (0 &&& 31)))))) 12 (vp_nar .byte (Int8.toInt32 (Int32.toInt8 (p3 >>> (24 &&& 31)))))) 13 (vp_nar .byte (Int8.toInt32 (Int32.toInt8 (p3 >>> (16 &&& 31)))))) 14 (vp_nar .byte (Int8.toInt32 (Int32.toInt8 (p3 >>> (8 &&& 31)))))) 15 (vp_nar .byte (Int8.toInt32 (Int32.toInt8 (p3 >>> (0 &&& 31)))))) 16 (vp_nar .byte (Int8.toInt32 (Int32.toInt8 (p4 >>> (24 &&& 31)))))) 17 (vp_nar .byte (Int8.toInt32 (Int32.toInt8 (p4 >>> (16 &&& 31)))))) 18 (vp_nar .byte (Int8.toInt32 (Int32.toInt8 (p4 >>> (8 &&& 31)))))) 19 (vp_nar .byte (Int8.toInt32 (Int32.toInt8 (p4 >>> (0 &&& 31))))))))] := hD
  refine lv_aload_n hx hb dX11_feed_42 rfl (lv_at hl 0 rfl) ?_
  refine va_get (D := D) (ci := 11) (v := .int 20) (C := RX11) (T := TX11) (N := 15) hx hb hB inB_X11 hown hK.1 hP 0 rfl rfl 1 (by decide) (hB _ mw_5) (fun _ h9 => h9) rfl dX11_feed_43 ?_
  exact kr_z hx hb hr rfl hlocks hP hD hS [] [] (by decide) rfl ⟨rfl, rfl⟩ (by decide) (by decide) dX11_feed_46
set_option maxHeartbeats 4000000 in
set_option maxRecDepth 100000 in
theorem c27_X11_end (l : Launch) (D : va_G) (ty : Nat → ClassId) (sz : Nat) (h0 : Nat) (p0 : Int32) (v0 : Value) (v1 : Value) (v2 : Value) (v3 : Value) (v4 : Value) (v5 : Value) (v6 : Value) (v7 : Value) (v8 : Value) (v9 : Value) (v10 : Value) (v11 : Value) (v12 : Value) (v13 : Value) : cQ l yX11_end cX11_end 2 (some .int) 0 0 [.ref h0, .int p0] D ty [(h0, .inr (11, [v0, .int 0, v1, v2, v3, v4, v5, v6, v7, v8, v9, v10, v11, v12, v13]))] sz (qI (fun (r : Int32) (u : va_W) => ((((p0 < 0)) ∨ ((¬ (p0 < 0)) ∧ (¬ (p0 ≤ 0)))) ∧ (-1) = r ∧ [] = u) ∨ (((¬ (p0 < 0)) ∧ (p0 ≤ 0)) ∧ p0 = r ∧ [] = u))) 0 0 := by
  refine cQ.of (by decide) (Nat.le_of_ble_eq_true rfl) (fun p e s m below meth c A ls C hsz hP hK hD hA hl => ?_)
  obtain ⟨hx, hb, hml, hown, hB, hr, hlocks, hin⟩ := C
  have hown : s.vm.findClass RX11 = some m.cls := hown
  have hS : va_S A s.heap s.heap [] := va_S.rf
  have hl : lv_has ls 2 [(0, .ref h0), (1, .int p0)] := hl
  refine lv_iload_n hx hb dX11_end_0 rfl (lv_at hl 1 rfl) ?_
  refine lv_if_lt (tgt := 12) hx hb dX11_end_1 (by decide) (fun c1 => ?_) (fun c1 => ?_)
  · refine lv_iconst (v := (-1)) hx hb dX11_end_12 (by decide) ?_
    exact kr_z hx hb hr rfl hlocks hP hD hS [] [] (by decide) rfl (Or.inl ⟨(Or.inl c1), rfl, rfl⟩) (by decide) (by decide) dX11_end_13
  · refine lv_iload_n hx hb dX11_end_4 rfl (lv_at hl 1 rfl) ?_
    refine lv_aload_n hx hb dX11_end_5 rfl (lv_at hl 0 rfl) ?_
    refine va_get (D := D) (ci := 11) (v := .int 0) (C := RX11) (T := TX11) (N := 15) hx hb hB inB_X11 hown hK.1 hP 0 rfl rfl 1 (by decide) (hB _ mw_5) (fun _ h9 => h9) rfl dX11_end_6 ?_
    refine lv_icmp_le (tgt := 14) hx hb dX11_end_9 (by decide) (fun c2 => ?_) (fun c2 => ?_)
    · refine lv_aload_n hx hb dX11_end_14 rfl (lv_at hl 0 rfl) ?_
      refine lv_iload_n hx hb dX11_end_15 rfl (lv_at hl 1 rfl) ?_
      refine wy_put (D := D) (ci := 11) (v := .int p0) (fty := .int) (C := RX11) (T := TX11) (N := 15) hx hb hB inB_X11 tyX11 tyX11_ok nmX11 hown hK hP hD hS 0 rfl rfl 1 (by decide) mw_5 (fun _ h9 => h9) rfl (by decide +kernel) rfl rfl (Nat.le_of_ble_eq_true rfl) dX11_end_16 (ws' := [(h0, .inr (11, [v0, .int p0, v1, v2, v3, v4, v5, v6, v7, v8, v9, v10, v11, v12, v13]))]) rfl (fun H locs hP hD hS => ?_)
      refine lv_iload_n hx hb dX11_end_19 rfl (lv_at hl 1 rfl) ?_
      exact kr_z hx hb hr rfl hlocks hP hD hS [] [] (by decide) rfl (Or.inr ⟨⟨c1, c2⟩, rfl, rfl⟩) (by decide) (by decide) dX11_end_20
    · refine lv_iconst (v := (-1)) hx hb dX11_end_12 (by decide) ?_
      exact kr_z hx hb hr rfl hlocks hP hD hS [] [] (by decide) rfl (Or.inl ⟨(Or.inr ⟨c1, c2⟩), rfl, rfl⟩) (by decide) (by decide) dX11_end_13
set_option maxHeartbeats 4000000 in
set_option maxRecDepth 100000 in
theorem c31_X6_drop (l : Launch) (D : va_G) (ty : Nat → ClassId) (sz : Nat) (h0 : Nat) (h1 : Nat) (v0 : Value) (v1 : Value) (v2 : Value) (f0 : Nat → Int32) : cQ l yX6_drop cX6_drop 1 none 1 23 [.ref h0] D ty [(h0, .inr (6, [v0, v1, .ref h1, v2])), (h1, .inl (ty 1, 6, .inl f0))] sz (qV (fun (u : va_W) => [(h0, .inr (6, [.int 0, .int 0, .ref h1, v2])), (h1, .inl (ty 1, 6, .inl (kf 0)))] = u)) 0 0 := by
  refine cQ.of (by decide) (Nat.le_of_ble_eq_true rfl) (fun p e s m below meth c A ls C hsz hP hK hD hA hl => ?_)
  obtain ⟨hx, hb, hml, hown, hB, hr, hlocks, hin⟩ := C
  have hown : s.vm.findClass RX6 = some m.cls := hown
  have hS : va_S A s.heap s.heap [] := va_S.rf
  have hl : lv_has ls 1 [(0, .ref h0)] := hl
  refine lv_aload_n hx hb dX6_drop_0 rfl (lv_at hl 0 rfl) ?_
  refine lv_iconst (v := 0) hx hb dX6_drop_1 (by decide) ?_
  refine wy_put (D := D) (ci := 6) (v := .int 0) (fty := .int) (C := RX6) (T := TX6) (N := 4) hx hb hB inB_X6 tyX6 tyX6_ok nmX6 hown hK hP hD hS 0 rfl rfl 0 (by decide) mw_55 (fun _ h9 => h9) rfl (by decide +kernel) rfl rfl (Nat.le_of_ble_eq_true rfl) dX6_drop_2 (ws' := [(h0, .inr (6, [.int 0, v1, .ref h1, v2])), (h1, .inl (ty 1, 6, .inl f0))]) rfl (fun H locs hP hD hS => ?_)
  refine lv_aload_n hx hb dX6_drop_5 rfl (lv_at hl 0 rfl) ?_
  refine lv_iconst (v := 0) hx hb dX6_drop_6 (by decide) ?_
  refine wy_put (D := D) (ci := 6) (v := .int 0) (fty := .int) (C := RX6) (T := TX6) (N := 4) hx hb hB inB_X6 tyX6 tyX6_ok nmX6 hown hK hP hD hS 0 rfl rfl 1 (by decide) mw_56 (fun _ h9 => h9) rfl (by decide +kernel) rfl rfl (Nat.le_of_ble_eq_true rfl) dX6_drop_7 (ws' := [(h0, .inr (6, [.int 0, .int 0, .ref h1, v2])), (h1, .inl (ty 1, 6, .inl f0))]) rfl (fun H locs hP hD hS => ?_)
  refine lv_aload_n hx hb dX6_drop_10 rfl (lv_at hl 0 rfl) ?_
  refine va_get (D := D) (ci := 6) (v := .ref h1) (C := RX6) (T := TX6) (N := 4) hx hb hB inB_X6 hown hK.1 hP 0 rfl rfl 2 (by decide) (hB _ mw_57) (fun _ h9 => h9) rfl dX6_drop_11 ?_
  refine lv_iconst (v := 0) hx hb dX6_drop_14 (by decide) ?_
  refine kc_v (va_runS (As := [.ref h1, .int 0]) (rest := []) ⟨hx, hb, hml, hown, hB⟩ (c_fillI l D ty H.size h1 6 f0 0 (by decide)) (va_cwS 2 hB (bw_S mw_218 mw_160 mw_161 mw_158) rfl rfl rfl (by decide +kernel) ⟨Nat.le_of_ble_eq_true rfl, Nat.le_of_ble_eq_true rfl⟩) (kp_S hK hP hD [1] (by decide) rfl) rfl rfl hl.1 rfl (lv_room (Nat.le_of_ble_eq_true rfl)) dX6_drop_15 ⟨Nat.le_of_ble_eq_true rfl, Nat.le_of_ble_eq_true rfl⟩) hP hD hS hA [1] [0] (wr := [(h0, .inr (6, [.int 0, .int 0, .ref h1, v2]))]) rfl rfl (by decide) (by decide) (fun u H locs w1 hP hD hS => ?_)
  subst w1
  have hP : va_P D vwCl [(h0, .inr (6, [.int 0, .int 0, .ref h1, v2])), (h1, .inl (ty 1, 6, .inl (kf 0)))] H := hP
  have hD : va_D A [(h0, .inr (6, [.int 0, .int 0, .ref h1, v2])), (h1, .inl (ty 1, 6, .inl (kf 0)))] := hD
  exact kr_v hx hb hr hlocks hP hD hS [(h0, .inr (6, [.int 0, .int 0, .ref h1, v2])), (h1, .inl (ty 1, 6, .inl (kf 0)))] [0, 1] (by decide) rfl rfl (by decide) (by decide) dX6_drop_18
set_option maxHeartbeats 4000000 in
set_option maxRecDepth 100000 in
theorem c30_X8_drop (l : Launch) (D : va_G) (ty : Nat → ClassId) (sz : Nat) (h0 : Nat) (h1 : Nat) (h2 : Nat) (h3 : Nat) (v0 : Value) (v1 : Value) (v2 : Value) (v3 : Value) (v4 : Value) (v5 : Value) (v6 : Value) (v7 : Value) (v8 : Value) (v9 : Value) (v10 : Value) (v11 : Value) (v12 : Value) (v13 : Value) (v14 : Value) (v15 : Value) (v16 : Value) (v17 : Value) (v18 : Value) (v19 : Value) (v20 : Value) (v21 : Value) (v22 : Value) (f0 : Nat → Int32) : cQ l yX8_drop cX8_drop 1 none 2 43 [.ref h0] D ty [(h0, .inr (8, [v0, v1, v2, v3, v4, v5, v6, v7, v8, v9, v10, v11, .ref h1, .ref h2, v12, v13, v14, v15])), (h1, .inr (1, [v16, v17, v18, v19])), (h2, .inr (6, [v20, v21, .ref h3, v22])), (h3, .inl (ty 1, 6, .inl f0))] sz (qV (fun (u : va_W) => [(h0, .inr (8, [.int 0, .int 2, .int 0, .int (-1), .int 0, .int 0, v6, v7, v8, v9, .int 0, .int 0, .ref h1, .ref h2, v12, v13, v14, v15])), (h1, .inr (1, [.int 0, v17, v18, v19])), (h2, .inr (6, [.int 0, .int 0, .ref h3, v22])), (h3, .inl (ty 1, 6, .inl (kf 0)))] = u)) 0 0 := by
  refine cQ.of (by decide) (Nat.le_of_ble_eq_true rfl) (fun p e s m below meth c A ls C hsz hP hK hD hA hl => ?_)
  obtain ⟨hx, hb, hml, hown, hB, hr, hlocks, hin⟩ := C
  have hown : s.vm.findClass RX8 = some m.cls := hown
  have hS : va_S A s.heap s.heap [] := va_S.rf
  have hl : lv_has ls 1 [(0, .ref h0)] := hl
  refine lv_aload_n hx hb dX8_drop_0 rfl (lv_at hl 0 rfl) ?_
  refine lv_iconst (v := 0) hx hb dX8_drop_1 (by decide) ?_
  refine wy_put (D := D) (ci := 8) (v := .int 0) (fty := .int) (C := RX8) (T := TX8) (N := 18) hx hb hB inB_X8 tyX8 tyX8_ok nmX8 hown hK hP hD hS 0 rfl rfl 0 (by decide) mw_27 (fun _ h9 => h9) rfl (by decide +kernel) rfl rfl (Nat.le_of_ble_eq_true rfl) dX8_drop_2 (ws' := [(h0, .inr (8, [.int 0, v1, v2, v3, v4, v5, v6, v7, v8, v9, v10, v11, .ref h1, .ref h2, v12, v13, v14, v15])), (h1, .inr (1, [v16, v17, v18, v19])), (h2, .inr (6, [v20, v21, .ref h3, v22])), (h3, .inl (ty 1, 6, .inl f0))]) rfl (fun H locs hP hD hS => ?_)
  refine lv_aload_n hx hb dX8_drop_5 rfl (lv_at hl 0 rfl) ?_
  refine lv_iconst (v := 2) hx hb dX8_drop_6 (by decide) ?_
  refine wy_put (D := D) (ci := 8) (v := .int 2) (fty := .int) (C := RX8) (T := TX8) (N := 18) hx hb hB inB_X8 tyX8 tyX8_ok nmX8 hown hK hP hD hS 0 rfl rfl 1 (by decide) mw_28 (fun _ h9 => h9) rfl (by decide +kernel) rfl rfl (Nat.le_of_ble_eq_true rfl) dX8_drop_7 (ws' := [(h0, .inr (8, [.int 0, .int 2, v2, v3, v4, v5, v6, v7, v8, v9, v10, v11, .ref h1, .ref h2, v12, v13, v14, v15])), (h1, .inr (1, [v16, v17, v18, v19])), (h2, .inr (6, [v20, v21, .ref h3, v22])), (h3, .inl (ty 1, 6, .inl f0))]) rfl (fun H locs hP hD hS => ?_)
  refine lv_aload_n hx hb dX8_drop_10 rfl (lv_at hl 0 rfl) ?_
  refine lv_iconst (v := 0) hx hb dX8_drop_11 (by decide) ?_
  refine wy_put (D := D) (ci := 8) (v := .int 0) (fty := .int) (C := RX8) (T := TX8) (N := 18) hx hb hB inB_X8 tyX8 tyX8_ok nmX8 hown hK hP hD hS 0 rfl rfl 2 (by decide) mw_29 (fun _ h9 => h9) rfl (by decide +kernel) rfl rfl (Nat.le_of_ble_eq_true rfl) dX8_drop_12 (ws' := [(h0, .inr (8, [.int 0, .int 2, .int 0, v3, v4, v5, v6, v7, v8, v9, v10, v11, .ref h1, .ref h2, v12, v13, v14, v15])), (h1, .inr (1, [v16, v17, v18, v19])), (h2, .inr (6, [v20, v21, .ref h3, v22])), (h3, .inl (ty 1, 6, .inl f0))]) rfl (fun H locs hP hD hS => ?_)
  refine lv_aload_n hx hb dX8_drop_15 rfl (lv_at hl 0 rfl) ?_
  refine lv_iconst (v := (-1)) hx hb dX8_drop_16 (by decide) ?_
  refine wy_put (D := D) (ci := 8) (v := .int (-1)) (fty := .int) (C := RX8) (T := TX8) (N := 18) hx hb hB inB_X8 tyX8 tyX8_ok nmX8 hown hK hP hD hS 0 rfl rfl 3 (by decide) mw_30 (fun _ h9 => h9) rfl (by decide +kernel) rfl rfl (Nat.le_of_ble_eq_true rfl) dX8_drop_17 (ws' := [(h0, .inr (8, [.int 0, .int 2, .int 0, .int (-1), v4, v5, v6, v7, v8, v9, v10, v11, .ref h1, .ref h2, v12, v13, v14, v15])), (h1, .inr (1, [v16, v17, v18, v19])), (h2, .inr (6, [v20, v21, .ref h3, v22])), (h3, .inl (ty 1, 6, .inl f0))]) rfl (fun H locs hP hD hS => ?_)
  refine lv_aload_n hx hb dX8_drop_20 rfl (lv_at hl 0 rfl) ?_
  refine lv_iconst (v := 0) hx hb dX8_drop_21 (by decide) ?_
  refine wy_put (D := D) (ci := 8) (v := .int 0) (fty := .int) (C := RX8) (T := TX8) (N := 18) hx hb hB inB_X8 tyX8 tyX8_ok nmX8 hown hK hP hD hS 0 rfl rfl 4 (by decide) mw_31 (fun _ h9 => h9) rfl (by decide +kernel) rfl rfl (Nat.le_of_ble_eq_true rfl) dX8_drop_22 (ws' := [(h0, .inr (8, [.int 0, .int 2, .int 0, .int (-1), .int 0, v5, v6, v7, v8, v9, v10, v11, .ref h1, .ref h2, v12, v13, v14, v15])), (h1, .inr (1, [v16, v17, v18, v19])), (h2, .inr (6, [v20, v21, .ref h3, v22])), (h3, .inl (ty 1, 6, .inl f0))]) rfl (fun H locs hP hD hS => ?_)
  refine lv_aload_n hx hb dX8_drop_25 rfl (lv_at hl 0 rfl) ?_
  refine lv_iconst (v := 0) hx hb dX8_drop_26 (by decide) ?_
  refine wy_put (D := D) (ci := 8) (v := .int 0) (fty := .int) (C := RX8) (T := TX8) (N := 18) hx hb hB inB_X8 tyX8 tyX8_ok nmX8 hown hK hP hD hS 0 rfl rfl 5 (by decide) mw_32 (fun _ h9 => h9) rfl (by decide +kernel) rfl rfl (Nat.le_of_ble_eq_true rfl) dX8_drop_27 (ws' := [(h0, .inr (8, [.int 0, .int 2, .int 0, .int (-1), .int 0, .int 0, v6, v7, v8, v9, v10, v11, .ref h1, .ref h2, v12, v13, v14, v15])), (h1, .inr (1, [v16, v17, v18, v19])), (h2, .inr (6, [v20, v21, .ref h3, v22])), (h3, .inl (ty 1, 6, .inl f0))]) rfl (fun H locs hP hD hS => ?_)
  refine lv_aload_n hx hb dX8_drop_30 rfl (lv_at hl 0 rfl) ?_
  refine lv_iconst (v := 0) hx hb dX8_drop_31 (by decide) ?_
  refine wy_put (D := D) (ci := 8) (v := .int 0) (fty := .int) (C := RX8) (T := TX8) (N := 18) hx hb hB inB_X8 tyX8 tyX8_ok nmX8 hown hK hP hD hS 0 rfl rfl 10 (by decide) mw_38 (fun _ h9 => h9) rfl (by decide +kernel) rfl rfl (Nat.le_of_ble_eq_true rfl) dX8_drop_32 (ws' := [(h0, .inr (8, [.int 0, .int 2, .int 0, .int (-1), .int 0, .int 0, v6, v7, v8, v9, .int 0, v11, .ref h1, .ref h2, v12, v13, v14, v15])), (h1, .inr (1, [v16, v17, v18, v19])), (h2, .inr (6, [v20, v21, .ref h3, v22])), (h3, .inl (ty 1, 6, .inl f0))]) rfl (fun H locs hP hD hS => ?_)
  refine lv_aload_n hx hb dX8_drop_35 rfl (lv_at hl 0 rfl) ?_
  refine lv_iconst (v := 0) hx hb dX8_drop_36 (by decide) ?_
  refine wy_put (D := D) (ci := 8) (v := .int 0) (fty := .int) (C := RX8) (T := TX8) (N := 18) hx hb hB inB_X8 tyX8 tyX8_ok nmX8 hown hK hP hD hS 0 rfl rfl 11 (by decide) mw_39 (fun _ h9 => h9) rfl (by decide +kernel) rfl rfl (Nat.le_of_ble_eq_true rfl) dX8_drop_37 (ws' := [(h0, .inr (8, [.int 0, .int 2, .int 0, .int (-1), .int 0, .int 0, v6, v7, v8, v9, .int 0, .int 0, .ref h1, .ref h2, v12, v13, v14, v15])), (h1, .inr (1, [v16, v17, v18, v19])), (h2, .inr (6, [v20, v21, .ref h3, v22])), (h3, .inl (ty 1, 6, .inl f0))]) rfl (fun H locs hP hD hS => ?_)
  refine lv_aload_n hx hb dX8_drop_40 rfl (lv_at hl 0 rfl) ?_
  refine va_get (D := D) (ci := 8) (v := .ref h1) (C := RX8) (T := TX8) (N := 18) hx hb hB inB_X8 hown hK.1 hP 0 rfl rfl 12 (by decide) (hB _ mw_50) (fun _ h9 => h9) rfl dX8_drop_41 ?_
  refine lv_iconst (v := 0) hx hb dX8_drop_44 (by decide) ?_
  refine wy_put (D := D) (ci := 1) (v := .int 0) (fty := .int) (C := RX1) (T := TX1) (N := 4) hx hb hB inB_X1 tyX1 tyX1_ok nmX1 hown hK hP hD hS 1 rfl rfl 0 (by decide) mw_217 (fun _ h9 => h9) rfl (by decide +kernel) rfl rfl (Nat.le_of_ble_eq_true rfl) dX8_drop_45 (ws' := [(h0, .inr (8, [.int 0, .int 2, .int 0, .int (-1), .int 0, .int 0, v6, v7, v8, v9, .int 0, .int 0, .ref h1, .ref h2, v12, v13, v14, v15])), (h1, .inr (1, [.int 0, v17, v18, v19])), (h2, .inr (6, [v20, v21, .ref h3, v22])), (h3, .inl (ty 1, 6, .inl f0))]) rfl (fun H locs hP hD hS => ?_)
  refine lv_aload_n hx hb dX8_drop_48 rfl (lv_at hl 0 rfl) ?_
  refine va_get (D := D) (ci := 8) (v := .ref h2) (C := RX8) (T := TX8) (N := 18) hx hb hB inB_X8 hown hK.1 hP 0 rfl rfl 13 (by decide) (hB _ mw_61) (fun _ h9 => h9) rfl dX8_drop_49 ?_
  refine kc_v (va_runV (As := []) (rest := []) ⟨hx, hb, hml, hown, hB⟩ (c31_X6_drop l D ty H.size h2 h3 v20 v21 v22 f0) (cwV 0 hB (bw_V mw_220 mw_221 mw_222 mw_53 mw_219) rfl rfl rfl (by decide +kernel) ⟨Nat.le_of_ble_eq_true rfl, Nat.le_of_ble_eq_true rfl⟩) (kp_V hK hP hD [2, 3] (by decide) rfl 2 rfl rfl rfl) rfl rfl hl.1 rfl (lv_room (Nat.le_of_ble_eq_true rfl)) dX8_drop_52 ⟨Nat.le_of_ble_eq_true rfl, Nat.le_of_ble_eq_true rfl⟩) hP hD hS hA [2, 3] [0, 1] (wr := [(h0, .inr (8, [.int 0, .int 2, .int 0, .int (-1), .int 0, .int 0, v6, v7, v8, v9, .int 0, .int 0, .ref h1, .ref h2, v12, v13, v14, v15])), (h1, .inr (1, [.int 0, v17, v18, v19]))]) rfl rfl (by decide) (by decide) (fun u H locs w1 hP hD hS => ?_)
  subst w1
  have hP : va_P D vwCl [(h0, .inr (8, [.int 0, .int 2, .int 0, .int (-1), .int 0, .int 0, v6, v7, v8, v9, .int 0, .int 0, .ref h1, .ref h2, v12, v13, v14, v15])), (h1, .inr (1, [.int 0, v17, v18, v19])), (h2, .inr (6, [.int 0, .int 0, .ref h3, v22])), (h3, .inl (ty 1, 6, .inl (kf 0)))] H := hP
  have hD : va_D A [(h0, .inr (8, [.int 0, .int 2, .int 0, .int (-1), .int 0, .int 0, v6, v7, v8, v9, .int 0, .int 0, .ref h1, .ref h2, v12, v13, v14, v15])), (h1, .inr (1, [.int 0, v17, v18, v19])), (h2, .inr (6, [.int 0, .int 0, .ref h3, v22])), (h3, .inl (ty 1, 6, .inl (kf 0)))] := hD
  exact kr_v hx hb hr hlocks hP hD hS [(h0, .inr (8, [.int 0, .int 2, .int 0, .int (-1), .int 0, .int 0, v6, v7, v8, v9, .int 0, .int 0, .ref h1, .ref h2, v12, v13, v14, v15])), (h1, .inr (1, [.int 0, v17, v18, v19])), (h2, .inr (6, [.int 0, .int 0, .ref h3, v22])), (h3, .inl (ty 1, 6, .inl (kf 0)))] [0, 1, 2, 3] (by decide) rfl rfl (by decide) (by decide) dX8_drop_55
set_option maxHeartbeats 4000000 in
set_option maxRecDepth 100000 in
theorem c33_X7_advance (l : Launch) (D : va_G) (ty : Nat → ClassId) (sz : Nat) (h0 : Nat) (v0 : Value) (v1 : Value) (v2 : Value) (v3 : Value) : cQ l yX7_advance cX7_advance 1 none 0 0 [.ref h0] D ty [(h0, .inr (7, [v0, .int 0, .int 0, v1, v2, v3]))] sz (qV (fun (u : va_W) => [(h0, .inr (7, [v0, .int 0, .int 0, .int 0, .int 0, .int 0]))] = u)) 0 0 := by
  refine cQ.of (by decide) (Nat.le_of_ble_eq_true rfl) (fun p e s m below meth c A ls C hsz hP hK hD hA hl => ?_)
  obtain ⟨hx, hb, hml, hown, hB, hr, hlocks, hin⟩ := C
  have hown : s.vm.findClass RX7 = some m.cls := hown
  have hS : va_S A s.heap s.heap [] := va_S.rf
  have hl : lv_has ls 1 [(0, .ref h0)] := hl
  refine lv_aload_n hx hb dX7_advance_0 rfl (lv_at hl 0 rfl) ?_
  refine lv_aload_n hx hb dX7_advance_1 rfl (lv_at hl 0 rfl) ?_
  refine va_get (D := D) (ci := 7) (v := .int 0) (C := RX7) (T := TX7) (N := 6) hx hb hB inB_X7 hown hK.1 hP 0 rfl rfl 2 (by decide) (hB _ mw_16) (fun _ h9 => h9) rfl dX7_advance_2 ?_
  refine wy_put (D := D) (ci := 7) (v := .int 0) (fty := .int) (C := RX7) (T := TX7) (N := 6) hx hb hB inB_X7 tyX7 tyX7_ok nmX7 hown hK hP hD hS 0 rfl rfl 4 (by decide) mw_18 (fun _ h9 => h9) rfl (by decide +kernel) rfl rfl (Nat.le_of_ble_eq_true rfl) dX7_advance_5 (ws' := [(h0, .inr (7, [v0, .int 0, .int 0, v1, .int 0, v3]))]) rfl (fun H locs hP hD hS => ?_)
  refine lv_aload_n hx hb dX7_advance_8 rfl (lv_at hl 0 rfl) ?_
  refine va_get (D := D) (ci := 7) (v := .int 0) (C := RX7) (T := TX7) (N := 6) hx hb hB inB_X7 hown hK.1 hP 0 rfl rfl 4 (by decide) (hB _ mw_18) (fun _ h9 => h9) rfl dX7_advance_9 ?_
  refine lv_aload_n hx hb dX7_advance_12 rfl (lv_at hl 0 rfl) ?_
  refine va_get (D := D) (ci := 7) (v := .int 0) (C := RX7) (T := TX7) (N := 6) hx hb hB inB_X7 hown hK.1 hP 0 rfl rfl 1 (by decide) (hB _ mw_15) (fun _ h9 => h9) rfl dX7_advance_13 ?_
  refine lv_icmp_ge (tgt := 47) hx hb dX7_advance_16 (by decide) (fun _ => ?_) (fun h9 => absurd (by decide) h9)
  refine lv_aload_n hx hb dX7_advance_47 rfl (lv_at hl 0 rfl) ?_
  refine lv_aload_n hx hb dX7_advance_48 rfl (lv_at hl 0 rfl) ?_
  refine va_get (D := D) (ci := 7) (v := .int 0) (C := RX7) (T := TX7) (N := 6) hx hb hB inB_X7 hown hK.1 hP 0 rfl rfl 4 (by decide) (hB _ mw_18) (fun _ h9 => h9) rfl dX7_advance_49 ?_
  refine wy_put (D := D) (ci := 7) (v := .int 0) (fty := .int) (C := RX7) (T := TX7) (N := 6) hx hb hB inB_X7 tyX7 tyX7_ok nmX7 hown hK hP hD hS 0 rfl rfl 2 (by decide) mw_16 (fun _ h9 => h9) rfl (by decide +kernel) rfl rfl (Nat.le_of_ble_eq_true rfl) dX7_advance_52 (ws' := [(h0, .inr (7, [v0, .int 0, .int 0, v1, .int 0, v3]))]) rfl (fun H locs hP hD hS => ?_)
  refine lv_aload_n hx hb dX7_advance_55 rfl (lv_at hl 0 rfl) ?_
  refine lv_iconst (v := 0) hx hb dX7_advance_56 (by decide) ?_
  refine wy_put (D := D) (ci := 7) (v := .int 0) (fty := .int) (C := RX7) (T := TX7) (N := 6) hx hb hB inB_X7 tyX7 tyX7_ok nmX7 hown hK hP hD hS 0 rfl rfl 5 (by decide) mw_19 (fun _ h9 => h9) rfl (by decide +kernel) rfl rfl (Nat.le_of_ble_eq_true rfl) dX7_advance_57 (ws' := [(h0, .inr (7, [v0, .int 0, .int 0, v1, .int 0, .int 0]))]) rfl (fun H locs hP hD hS => ?_)
  refine lv_aload_n hx hb dX7_advance_60 rfl (lv_at hl 0 rfl) ?_
  refine va_get (D := D) (ci := 7) (v := .int 0) (C := RX7) (T := TX7) (N := 6) hx hb hB inB_X7 hown hK.1 hP 0 rfl rfl 4 (by decide) (hB _ mw_18) (fun _ h9 => h9) rfl dX7_advance_61 ?_
  refine lv_aload_n hx hb dX7_advance_64 rfl (lv_at hl 0 rfl) ?_
  refine va_get (D := D) (ci := 7) (v := .int 0) (C := RX7) (T := TX7) (N := 6) hx hb hB inB_X7 hown hK.1 hP 0 rfl rfl 1 (by decide) (hB _ mw_15) (fun _ h9 => h9) rfl dX7_advance_65 ?_
  refine lv_icmp_lt (tgt := 79) hx hb dX7_advance_68 (by decide) (fun h9 => absurd h9 (by decide)) (fun _ => ?_)
  refine lv_aload_n hx hb dX7_advance_71 rfl (lv_at hl 0 rfl) ?_
  refine lv_iconst (v := 0) hx hb dX7_advance_72 (by decide) ?_
  refine wy_put (D := D) (ci := 7) (v := .int 0) (fty := .int) (C := RX7) (T := TX7) (N := 6) hx hb hB inB_X7 tyX7 tyX7_ok nmX7 hown hK hP hD hS 0 rfl rfl 3 (by decide) mw_17 (fun _ h9 => h9) rfl (by decide +kernel) rfl rfl (Nat.le_of_ble_eq_true rfl) dX7_advance_73 (ws' := [(h0, .inr (7, [v0, .int 0, .int 0, .int 0, .int 0, .int 0]))]) rfl (fun H locs hP hD hS => ?_)
  refine lv_goto (tgt := 259) hx hb dX7_advance_76 (by decide) ?_
  exact kr_v hx hb hr hlocks hP hD hS [(h0, .inr (7, [v0, .int 0, .int 0, .int 0, .int 0, .int 0]))] [0] (by decide) rfl rfl (by decide) (by decide) dX7_advance_259
set_option maxHeartbeats 4000000 in
set_option maxRecDepth 100000 in
theorem c32_X7_open (l : Launch) (D : va_G) (ty : Nat → ClassId) (sz : Nat) (h0 : Nat) (h1 : Nat) (v0 : Value) (v1 : Value) (v2 : Value) (v3 : Value) (v4 : Value) (v5 : Value) (f0 : Nat → Int32) : cQ l yX7_open cX7_open 3 none 1 30 [.ref h0, .ref h1, .int 0] D ty [(h0, .inr (7, [v0, v1, v2, v3, v4, v5])), (h1, .inl (ty 0, 800, .inl f0))] sz (qV (fun (u : va_W) => [(h1, .inl (ty 0, 800, .inl f0)), (h0, .inr (7, [.ref h1, .int 0, .int 0, .int 0, .int 0, .int 0]))] = u)) 0 0 := by
  refine cQ.of (by decide) (Nat.le_of_ble_eq_true rfl) (fun p e s m below meth c A ls C hsz hP hK hD hA hl => ?_)
  obtain ⟨hx, hb, hml, hown, hB, hr, hlocks, hin⟩ := C
  have hown : s.vm.findClass RX7 = some m.cls := hown
  have hS : va_S A s.heap s.heap [] := va_S.rf
  have hl : lv_has ls 3 [(0, .ref h0), (1, .ref h1), (2, .int 0)] := hl
  refine lv_aload_n hx hb dX7_open_0 rfl (lv_at hl 0 rfl) ?_
  refine lv_aload_n hx hb dX7_open_1 rfl (lv_at hl 1 rfl) ?_
  refine wy_put (D := D) (ci := 7) (v := .ref h1) (fty := (.array .byte)) (C := RX7) (T := TX7) (N := 6) hx hb hB inB_X7 tyX7 tyX7_ok nmX7 hown hK hP hD hS 0 rfl rfl 0 (by decide) mw_14 (fun _ h9 => h9) rfl (by decide +kernel) rfl rfl (Nat.le_of_ble_eq_true rfl) dX7_open_2 (ws' := [(h0, .inr (7, [.ref h1, v1, v2, v3, v4, v5])), (h1, .inl (ty 0, 800, .inl f0))]) rfl (fun H locs hP hD hS => ?_)
  refine lv_aload_n hx hb dX7_open_5 rfl (lv_at hl 0 rfl) ?_
  refine lv_iload_n hx hb dX7_open_6 rfl (lv_at hl 2 rfl) ?_
  refine lv_aload_n hx hb dX7_open_7 rfl (lv_at hl 1 rfl) ?_
  refine va_alen (v := 800) hx hb hK.1 hP 1 0 rfl rfl rfl dX7_open_8 ?_
  refine va_mmin hx hb (by rw [hml]; exact hl.1.symm) hown (hB _ mw_227) (hB _ mw_228) (hB _ mw_229) (hB _ mw_230) (Nat.le_of_ble_eq_true rfl) (Nat.le_of_ble_eq_true rfl) (Nat.le_of_ble_eq_true rfl) (Nat.le_of_ble_eq_true rfl) dX7_open_9 ?_
  refine tp_i (v := 0) (by decide) ?_
  refine wy_put (D := D) (ci := 7) (v := .int 0) (fty := .int) (C := RX7) (T := TX7) (N := 6) hx hb hB inB_X7 tyX7 tyX7_ok nmX7 hown hK hP hD hS 0 rfl rfl 1 (by decide) mw_15 (fun _ h9 => h9) rfl (by decide +kernel) rfl rfl (Nat.le_of_ble_eq_true rfl) dX7_open_12 (ws' := [(h0, .inr (7, [.ref h1, .int 0, v2, v3, v4, v5])), (h1, .inl (ty 0, 800, .inl f0))]) rfl (fun H locs hP hD hS => ?_)
  refine lv_aload_n hx hb dX7_open_15 rfl (lv_at hl 0 rfl) ?_
  refine lv_iconst (v := 0) hx hb dX7_open_16 (by decide) ?_
  refine wy_put (D := D) (ci := 7) (v := .int 0) (fty := .int) (C := RX7) (T := TX7) (N := 6) hx hb hB inB_X7 tyX7 tyX7_ok nmX7 hown hK hP hD hS 0 rfl rfl 2 (by decide) mw_16 (fun _ h9 => h9) rfl (by decide +kernel) rfl rfl (Nat.le_of_ble_eq_true rfl) dX7_open_17 (ws' := [(h0, .inr (7, [.ref h1, .int 0, .int 0, v3, v4, v5])), (h1, .inl (ty 0, 800, .inl f0))]) rfl (fun H locs hP hD hS => ?_)
  refine lv_aload_n hx hb dX7_open_20 rfl (lv_at hl 0 rfl) ?_
  refine kc_v (va_runV (As := []) (rest := []) ⟨hx, hb, hml, hown, hB⟩ (c33_X7_advance l D ty H.size h0 (.ref h1) v3 v4 v5) (cwV 0 hB (bw_V mw_232 mw_233 mw_234 mw_12 mw_231) rfl rfl rfl (by decide +kernel) ⟨Nat.le_of_ble_eq_true rfl, Nat.le_of_ble_eq_true rfl⟩) (kp_V hK hP hD [0] (by decide) rfl 0 rfl rfl rfl) rfl rfl hl.1 rfl (lv_room (Nat.le_of_ble_eq_true rfl)) dX7_open_21 ⟨Nat.le_of_ble_eq_true rfl, Nat.le_of_ble_eq_true rfl⟩) hP hD hS hA [0] [1] (wr := [(h1, .inl (ty 0, 800, .inl f0))]) rfl rfl (by decide) (by decide) (fun u H locs w1 hP hD hS => ?_)
  subst w1
  have hP : va_P D vwCl [(h1, .inl (ty 0, 800, .inl f0)), (h0, .inr (7, [.ref h1, .int 0, .int 0, .int 0, .int 0, .int 0]))] H := hP
  have hD : va_D A [(h1, .inl (ty 0, 800, .inl f0)), (h0, .inr (7, [.ref h1, .int 0, .int 0, .int 0, .int 0, .int 0]))] := hD
  exact kr_v hx hb hr hlocks hP hD hS [(h1, .inl (ty 0, 800, .inl f0)), (h0, .inr (7, [.ref h1, .int 0, .int 0, .int 0, .int 0, .int 0]))] [0, 1] (by decide) rfl rfl (by decide) (by decide) dX7_open_24
set_option maxHeartbeats 4000000 in
set_option maxRecDepth 100000 in
theorem c29_X9_read (l : Launch) (D : va_G) (ty : Nat → ClassId) (sz : Nat) (h0 : Nat) (h1 : Nat) (h2 : Nat) (h3 : Nat) (h4 : Nat) (h5 : Nat) (h6 : Nat) (v0 : Value) (v1 : Value) (v2 : Value) (v3 : Value) (v4 : Value) (v5 : Value) (v6 : Value) (v7 : Value) (v8 : Value) (v9 : Value) (v10 : Value) (v11 : Value) (v12 : Value) (v13 : Value) (v14 : Value) (v15 : Value) (v16 : Value) (v17 : Value) (v18 : Value) (v19 : Value) (v20 : Value) (v21 : Value) (v22 : Value) (v23 : Value) (v24 : Value) (f0 : Nat → Int32) (v25 : Value) (v26 : Value) (v27 : Value) (v28 : Value) (v29 : Value) (v30 : Value) (f1 : Nat → Int32) : cQ l yX9_read cX9_read 4 (some .boolean) 3 63 [.ref h0, .ref h6, .int 0] D ty [(h0, .inr (9, [.ref h5, .ref h1, v0, v1])), (h1, .inr (8, [v2, v3, v4, v5, v6, v7, v8, v9, v10, v11, v12, v13, .ref h2, .ref h3, v14, v15, v16, v17])), (h2, .inr (1, [v18, v19, v20, v21])), (h3, .inr (6, [v22, v23, .ref h4, v24])), (h4, .inl (ty 1, 6, .inl f0)), (h5, .inr (7, [v25, v26, v27, v28, v29, v30])), (h6, .inl (ty 0, 800, .inl f1))] sz (qI (fun (r : Int32) (u : va_W) => 1 = r ∧ [(h0, .inr (9, [.ref h5, .ref h1, .int 0, .int (-1)])), (h1, .inr (8, [.int 0, .int 2, .int 0, .int (-1), .int 0, .int 0, v8, v9, v10, v11, .int 0, .int 0, .ref h2, .ref h3, v14, v15, v16, v17])), (h2, .inr (1, [.int 0, v19, v20, v21])), (h3, .inr (6, [.int 0, .int 0, .ref h4, v24])), (h4, .inl (ty 1, 6, .inl (kf 0))), (h6, .inl (ty 0, 800, .inl f1)), (h5, .inr (7, [.ref h6, .int 0, .int 0, .int 0, .int 0, .int 0]))] = u)) 0 0 := by
  refine cQ.of (by decide) (Nat.le_of_ble_eq_true rfl) (fun p e s m below meth c A ls C hsz hP hK hD hA hl => ?_)
  obtain ⟨hx, hb, hml, hown, hB, hr, hlocks, hin⟩ := C
  have hown : s.vm.findClass RX9 = some m.cls := hown
  have hS : va_S A s.heap s.heap [] := va_S.rf
  have hl : lv_has ls 4 [(0, .ref h0), (1, .ref h6), (2, .int 0)] := hl
  refine lv_aload_n hx hb dX9_read_0 rfl (lv_at hl 0 rfl) ?_
  refine va_get (D := D) (ci := 9) (v := .ref h1) (C := RX9) (T := TX9) (N := 4) hx hb hB inB_X9 hown hK.1 hP 0 rfl rfl 1 (by decide) (hB _ mw_68) (fun _ h9 => h9) rfl dX9_read_1 ?_
  refine kc_v (va_runV (As := []) (rest := []) ⟨hx, hb, hml, hown, hB⟩ (c30_X8_drop l D ty s.heap.size h1 h2 h3 h4 v2 v3 v4 v5 v6 v7 v8 v9 v10 v11 v12 v13 v14 v15 v16 v17 v18 v19 v20 v21 v22 v23 v24 f0) (cwV 0 hB (bw_V mw_224 mw_225 mw_226 mw_25 mw_223) rfl rfl rfl (by decide +kernel) ⟨Nat.le_of_ble_eq_true rfl, Nat.le_of_ble_eq_true rfl⟩) (kp_V hK hP hD [1, 2, 3, 4] (by decide) rfl 1 rfl rfl rfl) rfl rfl hl.1 rfl (lv_room (Nat.le_of_ble_eq_true rfl)) dX9_read_4 ⟨Nat.le_of_ble_eq_true rfl, Nat.le_of_ble_eq_true rfl⟩) hP hD hS hA [1, 2, 3, 4] [0, 5, 6] (wr := [(h0, .inr (9, [.ref h5, .ref h1, v0, v1])), (h5, .inr (7, [v25, v26, v27, v28, v29, v30])), (h6, .inl (ty 0, 800, .inl f1))]) rfl rfl (by decide) (by decide) (fun u H locs w1 hP hD hS => ?_)
  subst w1
  have hP : va_P D vwCl [(h0, .inr (9, [.ref h5, .ref h1, v0, v1])), (h5, .inr (7, [v25, v26, v27, v28, v29, v30])), (h6, .inl (ty 0, 800, .inl f1)), (h1, .inr (8, [.int 0, .int 2, .int 0, .int (-1), .int 0, .int 0, v8, v9, v10, v11, .int 0, .int 0, .ref h2, .ref h3, v14, v15, v16, v17])), (h2, .inr (1, [.int 0, v19, v20, v21])), (h3, .inr (6, [.int 0, .int 0, .ref h4, v24])), (h4, .inl (ty 1, 6, .inl (kf 0)))] H := hP
  have hD : va_D A [(h0, .inr (9, [.ref h5, .ref h1, v0, v1])), (h5, .inr (7, [v25, v26, v27, v28, v29, v30])), (h6, .inl (ty 0, 800, .inl f1)), (h1, .inr (8, [.int 0, .int 2, .int 0, .int (-1), .int 0, .int 0, v8, v9, v10, v11, .int 0, .int 0, .ref h2, .ref h3, v14, v15, v16, v17])), (h2, .inr (1, [.int 0, v19, v20, v21])), (h3, .inr (6, [.int 0, .int 0, .ref h4, v24])), (h4, .inl (ty 1, 6, .inl (kf 0)))] := hD
  refine lv_aload_n hx hb dX9_read_7 rfl (lv_at hl 0 rfl) ?_
  refine lv_iconst (v := 0) hx hb dX9_read_8 (by decide) ?_
  refine wy_put (D := D) (ci := 9) (v := .int 0) (fty := .int) (C := RX9) (T := TX9) (N := 4) hx hb hB inB_X9 tyX9 tyX9_ok nmX9 hown hK hP hD hS 0 rfl rfl 2 (by decide) mw_69 (fun _ h9 => h9) rfl (by decide +kernel) rfl rfl (Nat.le_of_ble_eq_true rfl) dX9_read_9 (ws' := [(h0, .inr (9, [.ref h5, .ref h1, .int 0, v1])), (h5, .inr (7, [v25, v26, v27, v28, v29, v30])), (h6, .inl (ty 0, 800, .inl f1)), (h1, .inr (8, [.int 0, .int 2, .int 0, .int (-1), .int 0, .int 0, v8, v9, v10, v11, .int 0, .int 0, .ref h2, .ref h3, v14, v15, v16, v17])), (h2, .inr (1, [.int 0, v19, v20, v21])), (h3, .inr (6, [.int 0, .int 0, .ref h4, v24])), (h4, .inl (ty 1, 6, .inl (kf 0)))]) rfl (fun H locs hP hD hS => ?_)
  refine lv_aload_n hx hb dX9_read_12 rfl (lv_at hl 0 rfl) ?_
  refine lv_iconst (v := (-1)) hx hb dX9_read_13 (by decide) ?_
  refine wy_put (D := D) (ci := 9) (v := .int (-1)) (fty := .int) (C := RX9) (T := TX9) (N := 4) hx hb hB inB_X9 tyX9 tyX9_ok nmX9 hown hK hP hD hS 0 rfl rfl 3 (by decide) mw_70 (fun _ h9 => h9) rfl (by decide +kernel) rfl rfl (Nat.le_of_ble_eq_true rfl) dX9_read_14 (ws' := [(h0, .inr (9, [.ref h5, .ref h1, .int 0, .int (-1)])), (h5, .inr (7, [v25, v26, v27, v28, v29, v30])), (h6, .inl (ty 0, 800, .inl f1)), (h1, .inr (8, [.int 0, .int 2, .int 0, .int (-1), .int 0, .int 0, v8, v9, v10, v11, .int 0, .int 0, .ref h2, .ref h3, v14, v15, v16, v17])), (h2, .inr (1, [.int 0, v19, v20, v21])), (h3, .inr (6, [.int 0, .int 0, .ref h4, v24])), (h4, .inl (ty 1, 6, .inl (kf 0)))]) rfl (fun H locs hP hD hS => ?_)
  refine lv_aload_n hx hb dX9_read_17 rfl (lv_at hl 0 rfl) ?_
  refine va_get (D := D) (ci := 9) (v := .ref h5) (C := RX9) (T := TX9) (N := 4) hx hb hB inB_X9 hown hK.1 hP 0 rfl rfl 0 (by decide) (hB _ mw_22) (fun _ h9 => h9) rfl dX9_read_18 ?_
  refine lv_aload_n hx hb dX9_read_21 rfl (lv_at hl 1 rfl) ?_
  refine lv_iload_n hx hb dX9_read_22 rfl (lv_at hl 2 rfl) ?_
  refine kc_v (va_runV (As := [.ref h6, .int 0]) (rest := []) ⟨hx, hb, hml, hown, hB⟩ (c32_X7_open l D ty H.size h5 h6 v25 v26 v27 v28 v29 v30 f1) (cwV 2 hB (bw_V mw_236 mw_237 mw_238 mw_12 mw_235) rfl rfl rfl (by decide +kernel) ⟨Nat.le_of_ble_eq_true rfl, Nat.le_of_ble_eq_true rfl⟩) (kp_V hK hP hD [1, 2] (by decide) rfl 1 rfl rfl rfl) rfl rfl hl.1 rfl (lv_room (Nat.le_of_ble_eq_true rfl)) dX9_read_23 ⟨Nat.le_of_ble_eq_true rfl, Nat.le_of_ble_eq_true rfl⟩) hP hD hS hA [1, 2] [0, 3, 4, 5, 6] (wr := [(h0, .inr (9, [.ref h5, .ref h1, .int 0, .int (-1)])), (h1, .inr (8, [.int 0, .int 2, .int 0, .int (-1), .int 0, .int 0, v8, v9, v10, v11, .int 0, .int 0, .ref h2, .ref h3, v14, v15, v16, v17])), (h2, .inr (1, [.int 0, v19, v20, v21])), (h3, .inr (6, [.int 0, .int 0, .ref h4, v24])), (h4, .inl (ty 1, 6, .inl (kf 0)))]) rfl rfl (by decide) (by decide) (fun u H locs w2 hP hD hS => ?_)
  subst w2
  have hP : va_P D vwCl [(h0, .inr (9, [.ref h5, .ref h1, .int 0, .int (-1)])), (h1, .inr (8, [.int 0, .int 2, .int 0, .int (-1), .int 0, .int 0, v8, v9, v10, v11, .int 0, .int 0, .ref h2, .ref h3, v14, v15, v16, v17])), (h2, .inr (1, [.int 0, v19, v20, v21])), (h3, .inr (6, [.int 0, .int 0, .ref h4, v24])), (h4, .inl (ty 1, 6, .inl (kf 0))), (h6, .inl (ty 0, 800, .inl f1)), (h5, .inr (7, [.ref h6, .int 0, .int 0, .int 0, .int 0, .int 0]))] H := hP
  have hD : va_D A [(h0, .inr (9, [.ref h5, .ref h1, .int 0, .int (-1)])), (h1, .inr (8, [.int 0, .int 2, .int 0, .int (-1), .int 0, .int 0, v8, v9, v10, v11, .int 0, .int 0, .ref h2, .ref h3, v14, v15, v16, v17])), (h2, .inr (1, [.int 0, v19, v20, v21])), (h3, .inr (6, [.int 0, .int 0, .ref h4, v24])), (h4, .inl (ty 1, 6, .inl (kf 0))), (h6, .inl (ty 0, 800, .inl f1)), (h5, .inr (7, [.ref h6, .int 0, .int 0, .int 0, .int 0, .int 0]))] := hD
  refine lv_iconst (v := 0) hx hb dX9_read_26 (by decide) ?_
  refine lv_istore_n (lv' := [(3, .int 0), (0, .ref h0), (1, .ref h6), (2, .int 0)]) hx hb dX9_read_27 rfl hl (by decide) rfl (fun ls hl => ?_)
  refine lv_iload_n hx hb dX9_read_28 rfl (lv_at hl 0 rfl) ?_
  refine lv_iload_n hx hb dX9_read_29 rfl (lv_at hl 3 rfl) ?_
  refine lv_icmp_ge (tgt := 73) hx hb dX9_read_30 (by decide) (fun _ => ?_) (fun h9 => absurd (by decide) h9)
  refine lv_aload_n hx hb dX9_read_73 rfl (lv_at hl 1 rfl) ?_
  refine va_get (D := D) (ci := 9) (v := .int 0) (C := RX9) (T := TX9) (N := 4) hx hb hB inB_X9 hown hK.1 hP 0 rfl rfl 2 (by decide) (hB _ mw_69) (fun _ h9 => h9) rfl dX9_read_74 ?_
  refine lv_if_ne (tgt := 84) hx hb dX9_read_77 (by decide) (fun h9 => absurd (by decide) h9) (fun _ => ?_)
  refine lv_iconst (v := 1) hx hb dX9_read_80 (by decide) ?_
  refine lv_goto (tgt := 85) hx hb dX9_read_81 (by decide) ?_
  exact kr_z hx hb hr rfl hlocks hP hD hS [(h0, .inr (9, [.ref h5, .ref h1, .int 0, .int (-1)])), (h1, .inr (8, [.int 0, .int 2, .int 0, .int (-1), .int 0, .int 0, v8, v9, v10, v11, .int 0, .int 0, .ref h2, .ref h3, v14, v15, v16, v17])), (h2, .inr (1, [.int 0, v19, v20, v21])), (h3, .inr (6, [.int 0, .int 0, .ref h4, v24])), (h4, .inl (ty 1, 6, .inl (kf 0))), (h6, .inl (ty 0, 800, .inl f1)), (h5, .inr (7, [.ref h6, .int 0, .int 0, .int 0, .int 0, .int 0]))] [0, 1, 2, 3, 4, 5, 6] (by decide) rfl ⟨rfl, rfl⟩ (by decide) (by decide) dX9_read_85
set_option maxHeartbeats 4000000 in
set_option maxRecDepth 100000 in
theorem c34_X5_openAll (l : Launch) (D : va_G) (ty : Nat → ClassId) (sz : Nat) (h0 : Nat) (h1 : Nat) (v0 : Value) (v1 : Value) (v2 : Value) (v3 : Value) (v4 : Value) (v5 : Value) (v6 : Value) (v7 : Value) (v8 : Value) (v9 : Value) (v10 : Value) (v11 : Value) (v12 : Value) (v13 : Value) (v14 : Value) (v15 : Value) (v16 : Value) (v17 : Value) (v18 : Value) : cQ l yX5_openAll cX5_openAll 4 (some .int) 0 0 [.ref h0, .int 0] D ty [(h0, .inr (5, [.ref h1, v0, v1])), (h1, .inr (8, [v2, v3, .int 0, v4, v5, v6, v7, v8, v9, v10, v11, v12, v13, v14, v15, v16, v17, v18]))] sz (qI (fun (r : Int32) (u : va_W) => 0 = r ∧ [(h0, .inr (5, [.ref h1, v0, v1])), (h1, .inr (8, [v2, v3, .int 0, v4, v5, v6, v7, v8, v9, v10, v11, v12, v13, v14, v15, v16, v17, v18]))] = u)) 0 0 := by
  refine cQ.of (by decide) (Nat.le_of_ble_eq_true rfl) (fun p e s m below meth c A ls C hsz hP hK hD hA hl => ?_)
  obtain ⟨hx, hb, hml, hown, hB, hr, hlocks, hin⟩ := C
  have hown : s.vm.findClass RX5 = some m.cls := hown
  have hS : va_S A s.heap s.heap [] := va_S.rf
  have hl : lv_has ls 4 [(0, .ref h0), (1, .int 0)] := hl
  refine lv_iconst (v := 0) hx hb dX5_openAll_0 (by decide) ?_
  refine lv_istore_n (lv' := [(2, .int 0), (0, .ref h0), (1, .int 0)]) hx hb dX5_openAll_1 rfl hl (by decide) rfl (fun ls hl => ?_)
  refine lv_iconst (v := 0) hx hb dX5_openAll_2 (by decide) ?_
  refine lv_istore_n (lv' := [(3, .int 0), (2, .int 0), (0, .ref h0), (1, .int 0)]) hx hb dX5_openAll_3 rfl hl (by decide) rfl (fun ls hl => ?_)
  refine lv_iload_n hx hb dX5_openAll_4 rfl (lv_at hl 0 rfl) ?_
  refine lv_aload_n hx hb dX5_openAll_5 rfl (lv_at hl 2 rfl) ?_
  refine va_get (D := D) (ci := 5) (v := .ref h1) (C := RX5) (T := TX5) (N := 3) hx hb hB inB_X5 hown hK.1 hP 0 rfl rfl 0 (by decide) (hB _ mw_79) (fun _ h9 => h9) rfl dX5_openAll_6 ?_
  refine va_get (D := D) (ci := 8) (v := .int 0) (C := RX8) (T := TX8) (N := 18) hx hb hB inB_X8 hown hK.1 hP 1 rfl rfl 2 (by decide) (hB _ mw_244) (fun _ h9 => h9) rfl dX5_openAll_9 ?_
  refine lv_icmp_ge (tgt := 72) hx hb dX5_openAll_12 (by decide) (fun _ => ?_) (fun h9 => absurd (by decide) h9)
  refine lv_iload_n hx hb dX5_openAll_72 rfl (lv_at hl 1 rfl) ?_
  exact kr_z hx hb hr rfl hlocks hP hD hS [(h0, .inr (5, [.ref h1, v0, v1])), (h1, .inr (8, [v2, v3, .int 0, v4, v5, v6, v7, v8, v9, v10, v11, v12, v13, v14, v15, v16, v17, v18]))] [0, 1] (by decide) rfl ⟨rfl, rfl⟩ (by decide) (by decide) dX5_openAll_73
set_option maxHeartbeats 4000000 in
set_option maxRecDepth 100000 in
theorem c35_X5_openAll (l : Launch) (D : va_G) (ty : Nat → ClassId) (sz : Nat) (h0 : Nat) (h1 : Nat) (v0 : Value) (v1 : Value) (v2 : Value) (v3 : Value) (v4 : Value) (v5 : Value) (v6 : Value) (v7 : Value) (v8 : Value) (v9 : Value) (v10 : Value) (v11 : Value) (v12 : Value) (v13 : Value) (v14 : Value) (v15 : Value) (v16 : Value) (v17 : Value) (v18 : Value) : cQ l yX5_openAll cX5_openAll 4 (some .int) 0 0 [.ref h0, .int 1] D ty [(h0, .inr (5, [.ref h1, v0, v1])), (h1, .inr (8, [v2, v3, .int 0, v4, v5, v6, v7, v8, v9, v10, v11, v12, v13, v14, v15, v16, v17, v18]))] sz (qI (fun (r : Int32) (u : va_W) => 0 = r ∧ [(h0, .inr (5, [.ref h1, v0, v1])), (h1, .inr (8, [v2, v3, .int 0, v4, v5, v6, v7, v8, v9, v10, v11, v12, v13, v14, v15, v16, v17, v18]))] = u)) 0 0 := by
  refine cQ.of (by decide) (Nat.le_of_ble_eq_true rfl) (fun p e s m below meth c A ls C hsz hP hK hD hA hl => ?_)
  obtain ⟨hx, hb, hml, hown, hB, hr, hlocks, hin⟩ := C
  have hown : s.vm.findClass RX5 = some m.cls := hown
  have hS : va_S A s.heap s.heap [] := va_S.rf
  have hl : lv_has ls 4 [(0, .ref h0), (1, .int 1)] := hl
  refine lv_iconst (v := 0) hx hb dX5_openAll_0 (by decide) ?_
  refine lv_istore_n (lv' := [(2, .int 0), (0, .ref h0), (1, .int 1)]) hx hb dX5_openAll_1 rfl hl (by decide) rfl (fun ls hl => ?_)
  refine lv_iconst (v := 0) hx hb dX5_openAll_2 (by decide) ?_
  refine lv_istore_n (lv' := [(3, .int 0), (2, .int 0), (0, .ref h0), (1, .int 1)]) hx hb dX5_openAll_3 rfl hl (by decide) rfl (fun ls hl => ?_)
  refine lv_iload_n hx hb dX5_openAll_4 rfl (lv_at hl 0 rfl) ?_
  refine lv_aload_n hx hb dX5_openAll_5 rfl (lv_at hl 2 rfl) ?_
  refine va_get (D := D) (ci := 5) (v := .ref h1) (C := RX5) (T := TX5) (N := 3) hx hb hB inB_X5 hown hK.1 hP 0 rfl rfl 0 (by decide) (hB _ mw_79) (fun _ h9 => h9) rfl dX5_openAll_6 ?_
  refine va_get (D := D) (ci := 8) (v := .int 0) (C := RX8) (T := TX8) (N := 18) hx hb hB inB_X8 hown hK.1 hP 1 rfl rfl 2 (by decide) (hB _ mw_244) (fun _ h9 => h9) rfl dX5_openAll_9 ?_
  refine lv_icmp_ge (tgt := 72) hx hb dX5_openAll_12 (by decide) (fun _ => ?_) (fun h9 => absurd (by decide) h9)
  refine lv_iload_n hx hb dX5_openAll_72 rfl (lv_at hl 1 rfl) ?_
  exact kr_z hx hb hr rfl hlocks hP hD hS [(h0, .inr (5, [.ref h1, v0, v1])), (h1, .inr (8, [v2, v3, .int 0, v4, v5, v6, v7, v8, v9, v10, v11, v12, v13, v14, v15, v16, v17, v18]))] [0, 1] (by decide) rfl ⟨rfl, rfl⟩ (by decide) (by decide) dX5_openAll_73
set_option maxHeartbeats 4000000 in
set_option maxRecDepth 100000 in
theorem c28_X11_text (l : Launch) (D : va_G) (ty : Nat → ClassId) (sz : Nat) (h0 : Nat) (h1 : Nat) (h2 : Nat) (h3 : Nat) (h4 : Nat) (h5 : Nat) (h6 : Nat) (h7 : Nat) (h8 : Nat) (h9 : Nat) (h10 : Nat) (h11 : Nat) (h12 : Nat) (v0 : Value) (v1 : Value) (v2 : Value) (v3 : Value) (v4 : Value) (v5 : Value) (v6 : Value) (v7 : Value) (v8 : Value) (v9 : Value) (v10 : Value) (v11 : Value) (v12 : Value) (v13 : Value) (v14 : Value) (v15 : Value) (v16 : Value) (v17 : Value) (v18 : Value) (v19 : Value) (v20 : Value) (v21 : Value) (v22 : Value) (v23 : Value) (v24 : Value) (v25 : Value) (v26 : Value) (v27 : Value) (v28 : Value) (v29 : Value) (v30 : Value) (v31 : Value) (v32 : Value) (f0 : Nat → Int32) (v33 : Value) (v34 : Value) (v35 : Value) (v36 : Value) (v37 : Value) (v38 : Value) (f1 : Nat → Int32) (h13 : Nat) (v39 : Value) (v40 : Value) (v41 : Value) (v42 : Value) (v43 : Value) (v44 : Value) (h14 : Nat) (f2 : Nat → Int32) (f3 : Nat → Int32) (f4 : Nat → Int32) : cQ l yX11_text cX11_text 3 (some .int) 4 103 [.ref h0] D ty [(h0, .inr (11, [.ref h7, .int 0, .ref h1, .ref h8, v0, v1, .ref h9, v2, v3, v4, v5, v6, v7, v8, v9])), (h1, .inr (9, [.ref h6, .ref h2, v10, v11])), (h2, .inr (8, [v12, v13, v14, v15, v16, v17, v18, v19, v20, v21, v22, v23, .ref h3, .ref h4, .ref h10, v24, .ref h12, v25])), (h3, .inr (1, [v26, v27, v28, v29])), (h4, .inr (6, [v30, v31, .ref h5, v32])), (h5, .inl (ty 1, 6, .inl f0)), (h6, .inr (7, [v33, v34, v35, v36, v37, v38])), (h7, .inl (ty 0, 800, .inl f1)), (h8, .inr (5, [.ref h13, v39, v40])), (h9, .inr (2, [.ref h11, v41, v42, v43, v44, .ref h14])), (h10, .inl (ty 1, 17, .inl f2)), (h11, .inl (ty 1, 16, .inl f3)), (h12, .inl (ty 1, 256, .inl f4))] sz (qI (fun (r : Int32) (u : va_W) => 0 = r ∧ [] = u)) 0 0 := by
  refine cQ.of (by decide) (Nat.le_of_ble_eq_true rfl) (fun p e s m below meth c A ls C hsz hP hK hD hA hl => ?_)
  obtain ⟨hx, hb, hml, hown, hB, hr, hlocks, hin⟩ := C
  have hown : s.vm.findClass RX11 = some m.cls := hown
  have hS : va_S A s.heap s.heap [] := va_S.rf
  have hl : lv_has ls 3 [(0, .ref h0)] := hl
  refine lv_aload_n hx hb dX11_text_0 rfl (lv_at hl 0 rfl) ?_
  refine va_get (D := D) (ci := 11) (v := .ref h1) (C := RX11) (T := TX11) (N := 15) hx hb hB inB_X11 hown hK.1 hP 0 rfl rfl 2 (by decide) (hB _ mw_73) (fun _ h9 => h9) rfl dX11_text_1 ?_
  refine lv_aload_n hx hb dX11_text_4 rfl (lv_at hl 0 rfl) ?_
  refine va_get (D := D) (ci := 11) (v := .ref h7) (C := RX11) (T := TX11) (N := 15) hx hb hB inB_X11 hown hK.1 hP 0 rfl rfl 0 (by decide) (hB _ mw_4) (fun _ h9 => h9) rfl dX11_text_5 ?_
  refine lv_aload_n hx hb dX11_text_8 rfl (lv_at hl 0 rfl) ?_
  refine va_get (D := D) (ci := 11) (v := .int 0) (C := RX11) (T := TX11) (N := 15) hx hb hB inB_X11 hown hK.1 hP 0 rfl rfl 1 (by decide) (hB _ mw_5) (fun _ h9 => h9) rfl dX11_text_9 ?_
  refine kc_i (va_runV (As := [.ref h7, .int 0]) (rest := []) ⟨hx, hb, hml, hown, hB⟩ (c29_X9_read l D ty s.heap.size h1 h2 h3 h4 h5 h6 h7 v10 v11 v12 v13 v14 v15 v16 v17 v18 v19 v20 v21 v22 v23 (.ref h10) v24 (.ref h12) v25 v26 v27 v28 v29 v30 v31 v32 f0 v33 v34 v35 v36 v37 v38 f1) (cwV 2 hB (bw_V mw_240 mw_241 mw_242 mw_8 mw_239) rfl rfl rfl (by decide +kernel) ⟨Nat.le_of_ble_eq_true rfl, Nat.le_of_ble_eq_true rfl⟩) (kp_V hK hP hD [1, 2, 3, 4, 5, 6, 7] (by decide) rfl 1 rfl rfl rfl) rfl rfl hl.1 rfl (lv_room (Nat.le_of_ble_eq_true rfl)) dX11_text_12 ⟨Nat.le_of_ble_eq_true rfl, Nat.le_of_ble_eq_true rfl⟩) hP hD hS hA [1, 2, 3, 4, 5, 6, 7] [0, 8, 9, 10, 11, 12] (wr := [(h0, .inr (11, [.ref h7, .int 0, .ref h1, .ref h8, v0, v1, .ref h9, v2, v3, v4, v5, v6, v7, v8, v9])), (h8, .inr (5, [.ref h13, v39, v40])), (h9, .inr (2, [.ref h11, v41, v42, v43, v44, .ref h14])), (h10, .inl (ty 1, 17, .inl f2)), (h11, .inl (ty 1, 16, .inl f3)), (h12, .inl (ty 1, 256, .inl f4))]) rfl rfl (by decide) (by decide) (fun r u H locs w1 hP hD hS => ?_)
  obtain ⟨rfl, rfl⟩ := w1
  have hP : va_P D vwCl [(h0, .inr (11, [.ref h7, .int 0, .ref h1, .ref h8, v0, v1, .ref h9, v2, v3, v4, v5, v6, v7, v8, v9])), (h8, .inr (5, [.ref h13, v39, v40])), (h9, .inr (2, [.ref h11, v41, v42, v43, v44, .ref h14])), (h10, .inl (ty 1, 17, .inl f2)), (h11, .inl (ty 1, 16, .inl f3)), (h12, .inl (ty 1, 256, .inl f4)), (h1, .inr (9, [.ref h6, .ref h2, .int 0, .int (-1)])), (h2, .inr (8, [.int 0, .int 2, .int 0, .int (-1), .int 0, .int 0, v18, v19, v20, v21, .int 0, .int 0, .ref h3, .ref h4, .ref h10, v24, .ref h12, v25])), (h3, .inr (1, [.int 0, v27, v28, v29])), (h4, .inr (6, [.int 0, .int 0, .ref h5, v32])), (h5, .inl (ty 1, 6, .inl (kf 0))), (h7, .inl (ty 0, 800, .inl f1)), (h6, .inr (7, [.ref h7, .int 0, .int 0, .int 0, .int 0, .int 0]))] H := hP
  have hD : va_D A [(h0, .inr (11, [.ref h7, .int 0, .ref h1, .ref h8, v0, v1, .ref h9, v2, v3, v4, v5, v6, v7, v8, v9])), (h8, .inr (5, [.ref h13, v39, v40])), (h9, .inr (2, [.ref h11, v41, v42, v43, v44, .ref h14])), (h10, .inl (ty 1, 17, .inl f2)), (h11, .inl (ty 1, 16, .inl f3)), (h12, .inl (ty 1, 256, .inl f4)), (h1, .inr (9, [.ref h6, .ref h2, .int 0, .int (-1)])), (h2, .inr (8, [.int 0, .int 2, .int 0, .int (-1), .int 0, .int 0, v18, v19, v20, v21, .int 0, .int 0, .ref h3, .ref h4, .ref h10, v24, .ref h12, v25])), (h3, .inr (1, [.int 0, v27, v28, v29])), (h4, .inr (6, [.int 0, .int 0, .ref h5, v32])), (h5, .inl (ty 1, 6, .inl (kf 0))), (h7, .inl (ty 0, 800, .inl f1)), (h6, .inr (7, [.ref h7, .int 0, .int 0, .int 0, .int 0, .int 0]))] := hD
  refine lv_if_ne (tgt := 21) hx hb dX11_text_15 (by decide) (fun _ => ?_) (fun h9 => absurd h9 (by decide))
  refine lv_aload_n hx hb dX11_text_21 rfl (lv_at hl 0 rfl) ?_
  refine lv_iconst (v := 0) hx hb dX11_text_22 (by decide) ?_
  refine wy_put (D := D) (ci := 11) (v := .int 0) (fty := .int) (C := RX11) (T := TX11) (N := 15) hx hb hB inB_X11 tyX11 tyX11_ok nmX11 hown hK hP hD hS 0 rfl rfl 1 (by decide) mw_5 (fun _ h9 => h9) rfl (by decide +kernel) rfl rfl (Nat.le_of_ble_eq_true rfl) dX11_text_23 (ws' := [(h0, .inr (11, [.ref h7, .int 0, .ref h1, .ref h8, v0, v1, .ref h9, v2, v3, v4, v5, v6, v7, v8, v9])), (h8, .inr (5, [.ref h13, v39, v40])), (h9, .inr (2, [.ref h11, v41, v42, v43, v44, .ref h14])), (h10, .inl (ty 1, 17, .inl f2)), (h11, .inl (ty 1, 16, .inl f3)), (h12, .inl (ty 1, 256, .inl f4)), (h1, .inr (9, [.ref h6, .ref h2, .int 0, .int (-1)])), (h2, .inr (8, [.int 0, .int 2, .int 0, .int (-1), .int 0, .int 0, v18, v19, v20, v21, .int 0, .int 0, .ref h3, .ref h4, .ref h10, v24, .ref h12, v25])), (h3, .inr (1, [.int 0, v27, v28, v29])), (h4, .inr (6, [.int 0, .int 0, .ref h5, v32])), (h5, .inl (ty 1, 6, .inl (kf 0))), (h7, .inl (ty 0, 800, .inl f1)), (h6, .inr (7, [.ref h7, .int 0, .int 0, .int 0, .int 0, .int 0]))]) rfl (fun H locs hP hD hS => ?_)
  refine lv_aload_n hx hb dX11_text_26 rfl (lv_at hl 0 rfl) ?_
  refine va_get (D := D) (ci := 11) (v := .ref h8) (C := RX11) (T := TX11) (N := 15) hx hb hB inB_X11 hown hK.1 hP 0 rfl rfl 3 (by decide) (hB _ mw_85) (fun _ h9 => h9) rfl dX11_text_27 ?_
  refine va_get (D := D) (ci := 5) (v := .ref h13) (C := RX5) (T := TX5) (N := 3) hx hb hB inB_X5 hown hK.1 hP 1 rfl rfl 0 (by decide) (hB _ mw_150) (fun _ h9 => h9) rfl dX11_text_30 ?_
  refine lv_astore_n (lv' := [(1, .ref h13), (0, .ref h0)]) hx hb dX11_text_33 rfl hl (by decide) rfl (fun ls hl => ?_)
  refine lv_aload_n hx hb dX11_text_34 rfl (lv_at hl 1 rfl) ?_
  refine va_get (D := D) (ci := 11) (v := .ref h8) (C := RX11) (T := TX11) (N := 15) hx hb hB inB_X11 hown hK.1 hP 0 rfl rfl 3 (by decide) (hB _ mw_85) (fun _ h9 => h9) rfl dX11_text_35 ?_
  refine lv_aload_n hx hb dX11_text_38 rfl (lv_at hl 1 rfl) ?_
  refine va_get (D := D) (ci := 11) (v := .ref h1) (C := RX11) (T := TX11) (N := 15) hx hb hB inB_X11 hown hK.1 hP 0 rfl rfl 2 (by decide) (hB _ mw_73) (fun _ h9 => h9) rfl dX11_text_39 ?_
  refine va_get (D := D) (ci := 9) (v := .ref h2) (C := RX9) (T := TX9) (N := 4) hx hb hB inB_X9 hown hK.1 hP 6 rfl rfl 1 (by decide) (hB _ mw_243) (fun _ h9 => h9) rfl dX11_text_42 ?_
  refine wy_put (D := D) (ci := 5) (v := .ref h2) (fty := (.object "OneWays$Town")) (C := RX5) (T := TX5) (N := 3) hx hb hB inB_X5 tyX5 tyX5_ok nmX5 hown hK hP hD hS 1 rfl rfl 0 (by decide) mw_150 (fun _ h9 => h9) rfl (by decide +kernel) rfl rfl (Nat.le_of_ble_eq_true rfl) dX11_text_45 (ws' := [(h0, .inr (11, [.ref h7, .int 0, .ref h1, .ref h8, v0, v1, .ref h9, v2, v3, v4, v5, v6, v7, v8, v9])), (h8, .inr (5, [.ref h2, v39, v40])), (h9, .inr (2, [.ref h11, v41, v42, v43, v44, .ref h14])), (h10, .inl (ty 1, 17, .inl f2)), (h11, .inl (ty 1, 16, .inl f3)), (h12, .inl (ty 1, 256, .inl f4)), (h1, .inr (9, [.ref h6, .ref h2, .int 0, .int (-1)])), (h2, .inr (8, [.int 0, .int 2, .int 0, .int (-1), .int 0, .int 0, v18, v19, v20, v21, .int 0, .int 0, .ref h3, .ref h4, .ref h10, v24, .ref h12, v25])), (h3, .inr (1, [.int 0, v27, v28, v29])), (h4, .inr (6, [.int 0, .int 0, .ref h5, v32])), (h5, .inl (ty 1, 6, .inl (kf 0))), (h7, .inl (ty 0, 800, .inl f1)), (h6, .inr (7, [.ref h7, .int 0, .int 0, .int 0, .int 0, .int 0]))]) rfl (fun H locs hP hD hS => ?_)
  refine lv_aload_n hx hb dX11_text_48 rfl (lv_at hl 1 rfl) ?_
  refine va_get (D := D) (ci := 11) (v := .ref h1) (C := RX11) (T := TX11) (N := 15) hx hb hB inB_X11 hown hK.1 hP 0 rfl rfl 2 (by decide) (hB _ mw_73) (fun _ h9 => h9) rfl dX11_text_49 ?_
  refine lv_aload_n hx hb dX11_text_52 rfl (lv_at hl 0 rfl) ?_
  refine wy_put (D := D) (ci := 9) (v := .ref h13) (fty := (.object "OneWays$Town")) (C := RX9) (T := TX9) (N := 4) hx hb hB inB_X9 tyX9 tyX9_ok nmX9 hown hK hP hD hS 6 rfl rfl 1 (by decide) mw_243 (fun _ h9 => h9) rfl (by decide +kernel) rfl rfl (Nat.le_of_ble_eq_true rfl) dX11_text_53 (ws' := [(h0, .inr (11, [.ref h7, .int 0, .ref h1, .ref h8, v0, v1, .ref h9, v2, v3, v4, v5, v6, v7, v8, v9])), (h8, .inr (5, [.ref h2, v39, v40])), (h9, .inr (2, [.ref h11, v41, v42, v43, v44, .ref h14])), (h10, .inl (ty 1, 17, .inl f2)), (h11, .inl (ty 1, 16, .inl f3)), (h12, .inl (ty 1, 256, .inl f4)), (h1, .inr (9, [.ref h6, .ref h13, .int 0, .int (-1)])), (h2, .inr (8, [.int 0, .int 2, .int 0, .int (-1), .int 0, .int 0, v18, v19, v20, v21, .int 0, .int 0, .ref h3, .ref h4, .ref h10, v24, .ref h12, v25])), (h3, .inr (1, [.int 0, v27, v28, v29])), (h4, .inr (6, [.int 0, .int 0, .ref h5, v32])), (h5, .inl (ty 1, 6, .inl (kf 0))), (h7, .inl (ty 0, 800, .inl f1)), (h6, .inr (7, [.ref h7, .int 0, .int 0, .int 0, .int 0, .int 0]))]) rfl (fun H locs hP hD hS => ?_)
  refine lv_aload_n hx hb dX11_text_56 rfl (lv_at hl 1 rfl) ?_
  refine va_get (D := D) (ci := 11) (v := .ref h9) (C := RX11) (T := TX11) (N := 15) hx hb hB inB_X11 hown hK.1 hP 0 rfl rfl 6 (by decide) (hB _ mw_102) (fun _ h9 => h9) rfl dX11_text_57 ?_
  refine lv_aload_n hx hb dX11_text_60 rfl (lv_at hl 1 rfl) ?_
  refine va_get (D := D) (ci := 11) (v := .ref h8) (C := RX11) (T := TX11) (N := 15) hx hb hB inB_X11 hown hK.1 hP 0 rfl rfl 3 (by decide) (hB _ mw_85) (fun _ h9 => h9) rfl dX11_text_61 ?_
  refine va_get (D := D) (ci := 5) (v := .ref h2) (C := RX5) (T := TX5) (N := 3) hx hb hB inB_X5 hown hK.1 hP 1 rfl rfl 0 (by decide) (hB _ mw_150) (fun _ h9 => h9) rfl dX11_text_64 ?_
  refine kc_v (va_runV (As := [.ref h2]) (rest := []) ⟨hx, hb, hml, hown, hB⟩ (c13_X2_settle l D ty H.size h2 h10 h9 h11 h12 (.int 0) (.int (-1)) (.int 0) (.int 0) v18 v19 v20 v21 (.int 0) (.int 0) (.ref h3) (.ref h4) v24 v25 f2 v41 v42 v43 v44 h14 f3 f4) (cwV 1 hB (bw_V mw_178 mw_179 mw_180 mw_92 mw_177) rfl rfl rfl (by decide +kernel) ⟨Nat.le_of_ble_eq_true rfl, Nat.le_of_ble_eq_true rfl⟩) (kp_V hK hP hD [7, 3, 2, 4, 5] (by decide) rfl 2 rfl rfl rfl) rfl rfl hl.1 rfl (lv_room (Nat.le_of_ble_eq_true rfl)) dX11_text_67 ⟨Nat.le_of_ble_eq_true rfl, Nat.le_of_ble_eq_true rfl⟩) hP hD hS hA [7, 3, 2, 4, 5] [0, 1, 6, 8, 9, 10, 11, 12] (wr := [(h0, .inr (11, [.ref h7, .int 0, .ref h1, .ref h8, v0, v1, .ref h9, v2, v3, v4, v5, v6, v7, v8, v9])), (h8, .inr (5, [.ref h2, v39, v40])), (h1, .inr (9, [.ref h6, .ref h13, .int 0, .int (-1)])), (h3, .inr (1, [.int 0, v27, v28, v29])), (h4, .inr (6, [.int 0, .int 0, .ref h5, v32])), (h5, .inl (ty 1, 6, .inl (kf 0))), (h7, .inl (ty 0, 800, .inl f1)), (h6, .inr (7, [.ref h7, .int 0, .int 0, .int 0, .int 0, .int 0]))]) rfl rfl (by decide) (by decide) (fun u H locs w2 hP hD hS => ?_)
  subst w2
  have hP : va_P D vwCl [(h0, .inr (11, [.ref h7, .int 0, .ref h1, .ref h8, v0, v1, .ref h9, v2, v3, v4, v5, v6, v7, v8, v9])), (h8, .inr (5, [.ref h2, v39, v40])), (h1, .inr (9, [.ref h6, .ref h13, .int 0, .int (-1)])), (h3, .inr (1, [.int 0, v27, v28, v29])), (h4, .inr (6, [.int 0, .int 0, .ref h5, v32])), (h5, .inl (ty 1, 6, .inl (kf 0))), (h7, .inl (ty 0, 800, .inl f1)), (h6, .inr (7, [.ref h7, .int 0, .int 0, .int 0, .int 0, .int 0])), (h12, .inl (ty 1, 256, .inl (upd (upd (upd (upd f4 0 0) 16 1000000) 1 1000000) 17 0))), (h10, .inl (ty 1, 17, .inl (upd (upd (upd f2 0 0) 1 0) 2 0))), (h2, .inr (8, [.int 0, .int 2, .int 0, .int (-1), .int 0, .int 0, v18, v19, v20, v21, .int 0, .int 0, .ref h3, .ref h4, .ref h10, v24, .ref h12, .int 0])), (h9, .inr (2, [.ref h11, v41, v42, v43, v44, .ref h14])), (h11, .inl (ty 1, 16, .inl (upd (kf 1000000) 1 0)))] H := hP
  have hD : va_D A [(h0, .inr (11, [.ref h7, .int 0, .ref h1, .ref h8, v0, v1, .ref h9, v2, v3, v4, v5, v6, v7, v8, v9])), (h8, .inr (5, [.ref h2, v39, v40])), (h1, .inr (9, [.ref h6, .ref h13, .int 0, .int (-1)])), (h3, .inr (1, [.int 0, v27, v28, v29])), (h4, .inr (6, [.int 0, .int 0, .ref h5, v32])), (h5, .inl (ty 1, 6, .inl (kf 0))), (h7, .inl (ty 0, 800, .inl f1)), (h6, .inr (7, [.ref h7, .int 0, .int 0, .int 0, .int 0, .int 0])), (h12, .inl (ty 1, 256, .inl (upd (upd (upd (upd f4 0 0) 16 1000000) 1 1000000) 17 0))), (h10, .inl (ty 1, 17, .inl (upd (upd (upd f2 0 0) 1 0) 2 0))), (h2, .inr (8, [.int 0, .int 2, .int 0, .int (-1), .int 0, .int 0, v18, v19, v20, v21, .int 0, .int 0, .ref h3, .ref h4, .ref h10, v24, .ref h12, .int 0])), (h9, .inr (2, [.ref h11, v41, v42, v43, v44, .ref h14])), (h11, .inl (ty 1, 16, .inl (upd (kf 1000000) 1 0)))] := hD
  refine lv_iconst (v := 0) hx hb dX11_text_70 (by decide) ?_
  refine lv_istore_n (lv' := [(2, .int 0), (1, .ref h13), (0, .ref h0)]) hx hb dX11_text_71 rfl hl (by decide) rfl (fun ls hl => ?_)
  refine lv_iload_n hx hb dX11_text_72 rfl (lv_at hl 0 rfl) ?_
  refine lv_iconst (v := 2) hx hb dX11_text_73 (by decide) ?_
  refine lv_icmp_ge (tgt := 92) hx hb dX11_text_74 (by decide) (fun h9 => absurd h9 (by decide)) (fun _ => ?_)
  refine lv_aload_n hx hb dX11_text_77 rfl (lv_at hl 2 rfl) ?_
  refine va_get (D := D) (ci := 11) (v := .ref h8) (C := RX11) (T := TX11) (N := 15) hx hb hB inB_X11 hown hK.1 hP 0 rfl rfl 3 (by decide) (hB _ mw_85) (fun _ h9 => h9) rfl dX11_text_78 ?_
  refine lv_iload_n hx hb dX11_text_81 rfl (lv_at hl 0 rfl) ?_
  refine kc_i (va_runV (As := [.int 0]) (rest := []) ⟨hx, hb, hml, hown, hB⟩ (c34_X5_openAll l D ty H.size h8 h2 v39 v40 (.int 0) (.int 2) (.int (-1)) (.int 0) (.int 0) v18 v19 v20 v21 (.int 0) (.int 0) (.ref h3) (.ref h4) (.ref h10) v24 (.ref h12) (.int 0)) (cwV 1 hB (bw_V mw_246 mw_247 mw_248 mw_76 mw_245) rfl rfl rfl (by decide +kernel) ⟨Nat.le_of_ble_eq_true rfl, Nat.le_of_ble_eq_true rfl⟩) (kp_V hK hP hD [1, 10] (by decide) rfl 1 rfl rfl rfl) rfl rfl hl.1 rfl (lv_room (Nat.le_of_ble_eq_true rfl)) dX11_text_82 ⟨Nat.le_of_ble_eq_true rfl, Nat.le_of_ble_eq_true rfl⟩) hP hD hS hA [1, 10] [0, 2, 3, 4, 5, 6, 7, 8, 9, 11, 12] (wr := [(h0, .inr (11, [.ref h7, .int 0, .ref h1, .ref h8, v0, v1, .ref h9, v2, v3, v4, v5, v6, v7, v8, v9])), (h1, .inr (9, [.ref h6, .ref h13, .int 0, .int (-1)])), (h3, .inr (1, [.int 0, v27, v28, v29])), (h4, .inr (6, [.int 0, .int 0, .ref h5, v32])), (h5, .inl (ty 1, 6, .inl (kf 0))), (h7, .inl (ty 0, 800, .inl f1)), (h6, .inr (7, [.ref h7, .int 0, .int 0, .int 0, .int 0, .int 0])), (h12, .inl (ty 1, 256, .inl (upd (upd (upd (upd f4 0 0) 16 1000000) 1 1000000) 17 0))), (h10, .inl (ty 1, 17, .inl (upd (upd (upd f2 0 0) 1 0) 2 0))), (h9, .inr (2, [.ref h11, v41, v42, v43, v44, .ref h14])), (h11, .inl (ty 1, 16, .inl (upd (kf 1000000) 1 0)))]) rfl rfl (by decide) (by decide) (fun r u H locs w3 hP hD hS => ?_)
  obtain ⟨rfl, rfl⟩ := w3
  have hP : va_P D vwCl [(h0, .inr (11, [.ref h7, .int 0, .ref h1, .ref h8, v0, v1, .ref h9, v2, v3, v4, v5, v6, v7, v8, v9])), (h1, .inr (9, [.ref h6, .ref h13, .int 0, .int (-1)])), (h3, .inr (1, [.int 0, v27, v28, v29])), (h4, .inr (6, [.int 0, .int 0, .ref h5, v32])), (h5, .inl (ty 1, 6, .inl (kf 0))), (h7, .inl (ty 0, 800, .inl f1)), (h6, .inr (7, [.ref h7, .int 0, .int 0, .int 0, .int 0, .int 0])), (h12, .inl (ty 1, 256, .inl (upd (upd (upd (upd f4 0 0) 16 1000000) 1 1000000) 17 0))), (h10, .inl (ty 1, 17, .inl (upd (upd (upd f2 0 0) 1 0) 2 0))), (h9, .inr (2, [.ref h11, v41, v42, v43, v44, .ref h14])), (h11, .inl (ty 1, 16, .inl (upd (kf 1000000) 1 0))), (h8, .inr (5, [.ref h2, v39, v40])), (h2, .inr (8, [.int 0, .int 2, .int 0, .int (-1), .int 0, .int 0, v18, v19, v20, v21, .int 0, .int 0, .ref h3, .ref h4, .ref h10, v24, .ref h12, .int 0]))] H := hP
  have hD : va_D A [(h0, .inr (11, [.ref h7, .int 0, .ref h1, .ref h8, v0, v1, .ref h9, v2, v3, v4, v5, v6, v7, v8, v9])), (h1, .inr (9, [.ref h6, .ref h13, .int 0, .int (-1)])), (h3, .inr (1, [.int 0, v27, v28, v29])), (h4, .inr (6, [.int 0, .int 0, .ref h5, v32])), (h5, .inl (ty 1, 6, .inl (kf 0))), (h7, .inl (ty 0, 800, .inl f1)), (h6, .inr (7, [.ref h7, .int 0, .int 0, .int 0, .int 0, .int 0])), (h12, .inl (ty 1, 256, .inl (upd (upd (upd (upd f4 0 0) 16 1000000) 1 1000000) 17 0))), (h10, .inl (ty 1, 17, .inl (upd (upd (upd f2 0 0) 1 0) 2 0))), (h9, .inr (2, [.ref h11, v41, v42, v43, v44, .ref h14])), (h11, .inl (ty 1, 16, .inl (upd (kf 1000000) 1 0))), (h8, .inr (5, [.ref h2, v39, v40])), (h2, .inr (8, [.int 0, .int 2, .int 0, .int (-1), .int 0, .int 0, v18, v19, v20, v21, .int 0, .int 0, .ref h3, .ref h4, .ref h10, v24, .ref h12, .int 0]))] := hD
  refine lv_pop hx hb dX11_text_85 rfl ?_
  refine lv_iinc (v := 1) (lv' := [(2, .int 1), (1, .ref h13), (0, .ref h0)]) hx hb dX11_text_86 hl (k := 0) rfl (by decide) (by decide) rfl (fun ls hl => ?_)
  refine lv_goto (tgt := 72) hx hb dX11_text_89 (by decide) ?_
  refine lv_iload_n hx hb dX11_text_72 rfl (lv_at hl 0 rfl) ?_
  refine lv_iconst (v := 2) hx hb dX11_text_73 (by decide) ?_
  refine lv_icmp_ge (tgt := 92) hx hb dX11_text_74 (by decide) (fun h9 => absurd h9 (by decide)) (fun _ => ?_)
  refine lv_aload_n hx hb dX11_text_77 rfl (lv_at hl 2 rfl) ?_
  refine va_get (D := D) (ci := 11) (v := .ref h8) (C := RX11) (T := TX11) (N := 15) hx hb hB inB_X11 hown hK.1 hP 0 rfl rfl 3 (by decide) (hB _ mw_85) (fun _ h9 => h9) rfl dX11_text_78 ?_
  refine lv_iload_n hx hb dX11_text_81 rfl (lv_at hl 0 rfl) ?_
  refine kc_i (va_runV (As := [.int 1]) (rest := []) ⟨hx, hb, hml, hown, hB⟩ (c35_X5_openAll l D ty H.size h8 h2 v39 v40 (.int 0) (.int 2) (.int (-1)) (.int 0) (.int 0) v18 v19 v20 v21 (.int 0) (.int 0) (.ref h3) (.ref h4) (.ref h10) v24 (.ref h12) (.int 0)) (cwV 1 hB (bw_V mw_246 mw_247 mw_248 mw_76 mw_245) rfl rfl rfl (by decide +kernel) ⟨Nat.le_of_ble_eq_true rfl, Nat.le_of_ble_eq_true rfl⟩) (kp_V hK hP hD [11, 12] (by decide) rfl 11 rfl rfl rfl) rfl rfl hl.1 rfl (lv_room (Nat.le_of_ble_eq_true rfl)) dX11_text_82 ⟨Nat.le_of_ble_eq_true rfl, Nat.le_of_ble_eq_true rfl⟩) hP hD hS hA [11, 12] [0, 1, 2, 3, 4, 5, 6, 7, 8, 9, 10] (wr := [(h0, .inr (11, [.ref h7, .int 0, .ref h1, .ref h8, v0, v1, .ref h9, v2, v3, v4, v5, v6, v7, v8, v9])), (h1, .inr (9, [.ref h6, .ref h13, .int 0, .int (-1)])), (h3, .inr (1, [.int 0, v27, v28, v29])), (h4, .inr (6, [.int 0, .int 0, .ref h5, v32])), (h5, .inl (ty 1, 6, .inl (kf 0))), (h7, .inl (ty 0, 800, .inl f1)), (h6, .inr (7, [.ref h7, .int 0, .int 0, .int 0, .int 0, .int 0])), (h12, .inl (ty 1, 256, .inl (upd (upd (upd (upd f4 0 0) 16 1000000) 1 1000000) 17 0))), (h10, .inl (ty 1, 17, .inl (upd (upd (upd f2 0 0) 1 0) 2 0))), (h9, .inr (2, [.ref h11, v41, v42, v43, v44, .ref h14])), (h11, .inl (ty 1, 16, .inl (upd (kf 1000000) 1 0)))]) rfl rfl (by decide) (by decide) (fun r u H locs w4 hP hD hS => ?_)
  obtain ⟨rfl, rfl⟩ := w4
  have hP : va_P D vwCl [(h0, .inr (11, [.ref h7, .int 0, .ref h1, .ref h8, v0, v1, .ref h9, v2, v3, v4, v5, v6, v7, v8, v9])), (h1, .inr (9, [.ref h6, .ref h13, .int 0, .int (-1)])), (h3, .inr (1, [.int 0, v27, v28, v29])), (h4, .inr (6, [.int 0, .int 0, .ref h5, v32])), (h5, .inl (ty 1, 6, .inl (kf 0))), (h7, .inl (ty 0, 800, .inl f1)), (h6, .inr (7, [.ref h7, .int 0, .int 0, .int 0, .int 0, .int 0])), (h12, .inl (ty 1, 256, .inl (upd (upd (upd (upd f4 0 0) 16 1000000) 1 1000000) 17 0))), (h10, .inl (ty 1, 17, .inl (upd (upd (upd f2 0 0) 1 0) 2 0))), (h9, .inr (2, [.ref h11, v41, v42, v43, v44, .ref h14])), (h11, .inl (ty 1, 16, .inl (upd (kf 1000000) 1 0))), (h8, .inr (5, [.ref h2, v39, v40])), (h2, .inr (8, [.int 0, .int 2, .int 0, .int (-1), .int 0, .int 0, v18, v19, v20, v21, .int 0, .int 0, .ref h3, .ref h4, .ref h10, v24, .ref h12, .int 0]))] H := hP
  have hD : va_D A [(h0, .inr (11, [.ref h7, .int 0, .ref h1, .ref h8, v0, v1, .ref h9, v2, v3, v4, v5, v6, v7, v8, v9])), (h1, .inr (9, [.ref h6, .ref h13, .int 0, .int (-1)])), (h3, .inr (1, [.int 0, v27, v28, v29])), (h4, .inr (6, [.int 0, .int 0, .ref h5, v32])), (h5, .inl (ty 1, 6, .inl (kf 0))), (h7, .inl (ty 0, 800, .inl f1)), (h6, .inr (7, [.ref h7, .int 0, .int 0, .int 0, .int 0, .int 0])), (h12, .inl (ty 1, 256, .inl (upd (upd (upd (upd f4 0 0) 16 1000000) 1 1000000) 17 0))), (h10, .inl (ty 1, 17, .inl (upd (upd (upd f2 0 0) 1 0) 2 0))), (h9, .inr (2, [.ref h11, v41, v42, v43, v44, .ref h14])), (h11, .inl (ty 1, 16, .inl (upd (kf 1000000) 1 0))), (h8, .inr (5, [.ref h2, v39, v40])), (h2, .inr (8, [.int 0, .int 2, .int 0, .int (-1), .int 0, .int 0, v18, v19, v20, v21, .int 0, .int 0, .ref h3, .ref h4, .ref h10, v24, .ref h12, .int 0]))] := hD
  refine lv_pop hx hb dX11_text_85 rfl ?_
  refine lv_iinc (v := 2) (lv' := [(2, .int 2), (1, .ref h13), (0, .ref h0)]) hx hb dX11_text_86 hl (k := 0) rfl (by decide) (by decide) rfl (fun ls hl => ?_)
  refine lv_goto (tgt := 72) hx hb dX11_text_89 (by decide) ?_
  refine lv_iload_n hx hb dX11_text_72 rfl (lv_at hl 0 rfl) ?_
  refine lv_iconst (v := 2) hx hb dX11_text_73 (by decide) ?_
  refine lv_icmp_ge (tgt := 92) hx hb dX11_text_74 (by decide) (fun _ => ?_) (fun h9 => absurd (by decide) h9)
  refine lv_aload_n hx hb dX11_text_92 rfl (lv_at hl 2 rfl) ?_
  refine va_get (D := D) (ci := 11) (v := .ref h8) (C := RX11) (T := TX11) (N := 15) hx hb hB inB_X11 hown hK.1 hP 0 rfl rfl 3 (by decide) (hB _ mw_85) (fun _ h9 => h9) rfl dX11_text_93 ?_
  refine va_get (D := D) (ci := 5) (v := .ref h2) (C := RX5) (T := TX5) (N := 3) hx hb hB inB_X5 hown hK.1 hP 11 rfl rfl 0 (by decide) (hB _ mw_150) (fun _ h9 => h9) rfl dX11_text_96 ?_
  refine va_get (D := D) (ci := 8) (v := .int 0) (C := RX8) (T := TX8) (N := 18) hx hb hB inB_X8 hown hK.1 hP 12 rfl rfl 0 (by decide) (hB _ mw_249) (fun _ h9 => h9) rfl dX11_text_99 ?_
  exact kr_z hx hb hr rfl hlocks hP hD hS [] [] (by decide) rfl ⟨rfl, rfl⟩ (by decide) (by decide) dX11_text_102
