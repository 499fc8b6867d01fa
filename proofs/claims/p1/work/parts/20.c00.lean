set_option maxHeartbeats 4000000 in
set_option maxRecDepth 100000 in
theorem c3_X7_init (l : Launch) (D : va_G) (ty : Nat → ClassId) (sz : Nat) (h0 : Nat) (v0 : Value) (v1 : Value) (v2 : Value) (v3 : Value) (v4 : Value) : cQ l yX7_init cX7_init 1 none 1 20 [.ref h0] D ty [(h0, .inr (7, [.null, v0, v1, v2, v3, v4]))] sz (qV (fun (u : va_W) => ∃ q : Nat → Nat, [(h0, .inr (7, [.ref (q 0), .int 0, .int 0, .int 0, .int 0, .int 0])), ((q 0), .inl (ty 0, 0, .inl (kf 0)))] = u)) 1 0 := by
  refine cQ.of (by decide) (Nat.le_of_ble_eq_true rfl) (fun p e s m below meth c A ls C hsz hP hK hD hA hl => ?_)
  obtain ⟨hx, hb, hml, hown, hB, hr, hlocks, hin⟩ := C
  have hown : s.vm.findClass RX7 = some m.cls := hown
  have hS : va_S A s.heap s.heap [] := va_S.rf
  have hl : lv_has ls 1 [(0, .ref h0)] := hl
  have hin : meth.name = "<init>" := hin
  refine lv_aload_n hx hb dX7_init_0 rfl (lv_at hl 0 rfl) ?_
  refine W.objInit hx hb hown (hB _ mw_13) (hB _ mw_1) (hB _ mw_2) rfl (by rw [hml]; exact hl.1) rfl dX7_init_1 (Nat.le_of_ble_eq_true rfl) (Nat.le_of_ble_eq_true rfl) ?_
  refine W.eq (g2 := F0 m 4 ls []) rfl ?_
  refine lv_aload_n hx hb dX7_init_4 rfl (lv_at hl 0 rfl) ?_
  refine lv_iconst (v := 0) hx hb dX7_init_5 (by decide) ?_
  refine ny_newa (atype := .byte) (N' := 0) (a0 := (0, .inl (kf 0))) hx hb (hB _ mw_3) rfl hK 0 rfl (by intro C h; cases h) hP hD hS hA (fun _ => rfl) (by decide) (by decide) (by decide) (Nat.le_of_ble_eq_true rfl) (Nat.le_of_ble_eq_true rfl) dX7_init_6 (fun n1 H hP hD hS => ?_)
  refine W.widen (k := 1) (n := 0) (by omega) (by omega) ?_
  have hP : va_P D vwCl [(h0, .inr (7, [.null, v0, v1, v2, v3, v4])), (n1, .inl (ty 0, 0, .inl (kf 0)))] H := hP
  have hD : va_D A [(h0, .inr (7, [.null, v0, v1, v2, v3, v4])), (n1, .inl (ty 0, 0, .inl (kf 0)))] := hD
  refine wy_put (D := D) (ci := 7) (v := .ref n1) (fty := (.array .byte)) (C := RX7) (T := TX7) (N := 6) hx hb hB inB_X7 tyX7 tyX7_ok nmX7 hown hK hP hD hS 0 rfl rfl 0 (by decide) mw_14 (fun _ h9 => h9) rfl (by decide +kernel) rfl rfl (Nat.le_of_ble_eq_true rfl) dX7_init_8 (ws' := [(h0, .inr (7, [.ref n1, v0, v1, v2, v3, v4])), (n1, .inl (ty 0, 0, .inl (kf 0)))]) rfl (fun H locs hP hD hS => ?_)
  refine lv_aload_n hx hb dX7_init_11 rfl (lv_at hl 0 rfl) ?_
  refine lv_iconst (v := 0) hx hb dX7_init_12 (by decide) ?_
  refine wy_put (D := D) (ci := 7) (v := .int 0) (fty := .int) (C := RX7) (T := TX7) (N := 6) hx hb hB inB_X7 tyX7 tyX7_ok nmX7 hown hK hP hD hS 0 rfl rfl 1 (by decide) mw_15 (fun _ h9 => h9) rfl (by decide +kernel) rfl rfl (Nat.le_of_ble_eq_true rfl) dX7_init_13 (ws' := [(h0, .inr (7, [.ref n1, .int 0, v1, v2, v3, v4])), (n1, .inl (ty 0, 0, .inl (kf 0)))]) rfl (fun H locs hP hD hS => ?_)
  refine lv_aload_n hx hb dX7_init_16 rfl (lv_at hl 0 rfl) ?_
  refine lv_iconst (v := 0) hx hb dX7_init_17 (by decide) ?_
  refine wy_put (D := D) (ci := 7) (v := .int 0) (fty := .int) (C := RX7) (T := TX7) (N := 6) hx hb hB inB_X7 tyX7 tyX7_ok nmX7 hown hK hP hD hS 0 rfl rfl 2 (by decide) mw_16 (fun _ h9 => h9) rfl (by decide +kernel) rfl rfl (Nat.le_of_ble_eq_true rfl) dX7_init_18 (ws' := [(h0, .inr (7, [.ref n1, .int 0, .int 0, v2, v3, v4])), (n1, .inl (ty 0, 0, .inl (kf 0)))]) rfl (fun H locs hP hD hS => ?_)
  refine lv_aload_n hx hb dX7_init_21 rfl (lv_at hl 0 rfl) ?_
  refine lv_iconst (v := 0) hx hb dX7_init_22 (by decide) ?_
  refine wy_put (D := D) (ci := 7) (v := .int 0) (fty := .int) (C := RX7) (T := TX7) (N := 6) hx hb hB inB_X7 tyX7 tyX7_ok nmX7 hown hK hP hD hS 0 rfl rfl 3 (by decide) mw_17 (fun _ h9 => h9) rfl (by decide +kernel) rfl rfl (Nat.le_of_ble_eq_true rfl) dX7_init_23 (ws' := [(h0, .inr (7, [.ref n1, .int 0, .int 0, .int 0, v3, v4])), (n1, .inl (ty 0, 0, .inl (kf 0)))]) rfl (fun H locs hP hD hS => ?_)
  refine lv_aload_n hx hb dX7_init_26 rfl (lv_at hl 0 rfl) ?_
  refine lv_iconst (v := 0) hx hb dX7_init_27 (by decide) ?_
  refine wy_put (D := D) (ci := 7) (v := .int 0) (fty := .int) (C := RX7) (T := TX7) (N := 6) hx hb hB inB_X7 tyX7 tyX7_ok nmX7 hown hK hP hD hS 0 rfl rfl 4 (by decide) mw_18 (fun _ h9 => h9) rfl (by decide +kernel) rfl rfl (Nat.le_of_ble_eq_true rfl) dX7_init_28 (ws' := [(h0, .inr (7, [.ref n1, .int 0, .int 0, .int 0, .int 0, v4])), (n1, .inl (ty 0, 0, .inl (kf 0)))]) rfl (fun H locs hP hD hS => ?_)
  refine lv_aload_n hx hb dX7_init_31 rfl (lv_at hl 0 rfl) ?_
  refine lv_iconst (v := 0) hx hb dX7_init_32 (by decide) ?_
  refine wy_put (D := D) (ci := 7) (v := .int 0) (fty := .int) (C := RX7) (T := TX7) (N := 6) hx hb hB inB_X7 tyX7 tyX7_ok nmX7 hown hK hP hD hS 0 rfl rfl 5 (by decide) mw_19 (fun _ h9 => h9) rfl (by decide +kernel) rfl rfl (Nat.le_of_ble_eq_true rfl) dX7_init_33 (ws' := [(h0, .inr (7, [.ref n1, .int 0, .int 0, .int 0, .int 0, .int 0])), (n1, .inl (ty 0, 0, .inl (kf 0)))]) rfl (fun H locs hP hD hS => ?_)
  exact kr_v hx hb hr hlocks hP hD hS [(h0, .inr (7, [.ref n1, .int 0, .int 0, .int 0, .int 0, .int 0])), (n1, .inl (ty 0, 0, .inl (kf 0)))] [0, 1] (by decide) rfl ⟨(fun k => [n1].getD k 0), rfl⟩ (by decide) (by decide) dX7_init_36
set_option maxHeartbeats 4000000 in
set_option maxRecDepth 100000 in
theorem c5_X1_init (l : Launch) (D : va_G) (ty : Nat → ClassId) (sz : Nat) (h0 : Nat) (v0 : Value) : cQ l yX1_init cX1_init 1 none 1 20 [.ref h0] D ty [(h0, .inr (1, [v0, .null, .null, .null]))] sz (qV (fun (u : va_W) => ∃ q : Nat → Nat, [(h0, .inr (1, [.int 0, .ref (q 0), .ref (q 1), .ref (q 2)])), ((q 0), .inl (ty 1, 10, .inl (kf 0))), ((q 1), .inl (ty 1, 10, .inl (kf 0))), ((q 2), .inl (ty 1, 10, .inl (kf 0)))] = u)) 3 30 := by
  refine cQ.of (by decide) (Nat.le_of_ble_eq_true rfl) (fun p e s m below meth c A ls C hsz hP hK hD hA hl => ?_)
  obtain ⟨hx, hb, hml, hown, hB, hr, hlocks, hin⟩ := C
  have hown : s.vm.findClass RX1 = some m.cls := hown
  have hS : va_S A s.heap s.heap [] := va_S.rf
  have hl : lv_has ls 1 [(0, .ref h0)] := hl
  have hin : meth.name = "<init>" := hin
  refine lv_aload_n hx hb dX1_init_0 rfl (lv_at hl 0 rfl) ?_
  refine W.objInit hx hb hown (hB _ mw_43) (hB _ mw_1) (hB _ mw_2) rfl (by rw [hml]; exact hl.1) rfl dX1_init_1 (Nat.le_of_ble_eq_true rfl) (Nat.le_of_ble_eq_true rfl) ?_
  refine W.eq (g2 := F0 m 4 ls []) rfl ?_
  refine lv_aload_n hx hb dX1_init_4 rfl (lv_at hl 0 rfl) ?_
  refine lv_iconst (v := 0) hx hb dX1_init_5 (by decide) ?_
  refine wy_put (D := D) (ci := 1) (v := .int 0) (fty := .int) (C := RX1) (T := TX1) (N := 4) hx hb hB inB_X1 tyX1 tyX1_ok nmX1 hown hK hP hD hS 0 rfl rfl 0 (by decide) mw_44 (fun _ h9 => h9) rfl (by decide +kernel) rfl rfl (Nat.le_of_ble_eq_true rfl) dX1_init_6 (ws' := [(h0, .inr (1, [.int 0, .null, .null, .null]))]) rfl (fun H locs hP hD hS => ?_)
  refine lv_aload_n hx hb dX1_init_9 rfl (lv_at hl 0 rfl) ?_
  refine lv_bipush (v := 10) hx hb dX1_init_10 (by decide) ?_
  refine ny_newa (atype := .int) (N' := 10) (a0 := (10, .inl (kf 0))) hx hb (hB _ mw_33) rfl hK 1 rfl (by intro C h; cases h) hP hD hS hA (fun _ => rfl) (by decide) (by decide) (by decide) (Nat.le_of_ble_eq_true rfl) (Nat.le_of_ble_eq_true rfl) dX1_init_12 (fun n1 H hP hD hS => ?_)
  refine W.widen (k := 1) (n := 10) (by omega) (by omega) ?_
  have hP : va_P D vwCl [(h0, .inr (1, [.int 0, .null, .null, .null])), (n1, .inl (ty 1, 10, .inl (kf 0)))] H := hP
  have hD : va_D A [(h0, .inr (1, [.int 0, .null, .null, .null])), (n1, .inl (ty 1, 10, .inl (kf 0)))] := hD
  refine wy_putF (D := D) (ci := 1) (v := .ref n1) (fty := (.array .int)) (C := RX1) (T := TX1) (N := 4) hx hb hB inB_X1 tyX1 tyX1_ok nmX1 hown hK hP hD hS 0 rfl rfl 1 (by decide) mw_45 (fun _ h9 => h9) rfl hin rfl (by decide +kernel) rfl rfl (Nat.le_of_ble_eq_true rfl) dX1_init_14 (ws' := [(h0, .inr (1, [.int 0, .ref n1, .null, .null])), (n1, .inl (ty 1, 10, .inl (kf 0)))]) rfl (fun H locs hP hD hS => ?_)
  refine lv_aload_n hx hb dX1_init_17 rfl (lv_at hl 0 rfl) ?_
  refine lv_bipush (v := 10) hx hb dX1_init_18 (by decide) ?_
  refine ny_newa (atype := .int) (N' := 10) (a0 := (10, .inl (kf 0))) hx hb (hB _ mw_33) rfl hK 1 rfl (by intro C h; cases h) hP hD hS hA (fun _ => rfl) (by decide) (by decide) (by decide) (Nat.le_of_ble_eq_true rfl) (Nat.le_of_ble_eq_true rfl) dX1_init_20 (fun n2 H hP hD hS => ?_)
  refine W.widen (k := 2) (n := 20) (by omega) (by omega) ?_
  have hP : va_P D vwCl [(h0, .inr (1, [.int 0, .ref n1, .null, .null])), (n1, .inl (ty 1, 10, .inl (kf 0))), (n2, .inl (ty 1, 10, .inl (kf 0)))] H := hP
  have hD : va_D A [(h0, .inr (1, [.int 0, .ref n1, .null, .null])), (n1, .inl (ty 1, 10, .inl (kf 0))), (n2, .inl (ty 1, 10, .inl (kf 0)))] := hD
  refine wy_putF (D := D) (ci := 1) (v := .ref n2) (fty := (.array .int)) (C := RX1) (T := TX1) (N := 4) hx hb hB inB_X1 tyX1 tyX1_ok nmX1 hown hK hP hD hS 0 rfl rfl 2 (by decide) mw_46 (fun _ h9 => h9) rfl hin rfl (by decide +kernel) rfl rfl (Nat.le_of_ble_eq_true rfl) dX1_init_22 (ws' := [(h0, .inr (1, [.int 0, .ref n1, .ref n2, .null])), (n1, .inl (ty 1, 10, .inl (kf 0))), (n2, .inl (ty 1, 10, .inl (kf 0)))]) rfl (fun H locs hP hD hS => ?_)
  refine lv_aload_n hx hb dX1_init_25 rfl (lv_at hl 0 rfl) ?_
  refine lv_bipush (v := 10) hx hb dX1_init_26 (by decide) ?_
  refine ny_newa (atype := .int) (N' := 10) (a0 := (10, .inl (kf 0))) hx hb (hB _ mw_33) rfl hK 1 rfl (by intro C h; cases h) hP hD hS hA (fun _ => rfl) (by decide) (by decide) (by decide) (Nat.le_of_ble_eq_true rfl) (Nat.le_of_ble_eq_true rfl) dX1_init_28 (fun n3 H hP hD hS => ?_)
  refine W.widen (k := 3) (n := 30) (by omega) (by omega) ?_
  have hP : va_P D vwCl [(h0, .inr (1, [.int 0, .ref n1, .ref n2, .null])), (n1, .inl (ty 1, 10, .inl (kf 0))), (n2, .inl (ty 1, 10, .inl (kf 0))), (n3, .inl (ty 1, 10, .inl (kf 0)))] H := hP
  have hD : va_D A [(h0, .inr (1, [.int 0, .ref n1, .ref n2, .null])), (n1, .inl (ty 1, 10, .inl (kf 0))), (n2, .inl (ty 1, 10, .inl (kf 0))), (n3, .inl (ty 1, 10, .inl (kf 0)))] := hD
  refine wy_putF (D := D) (ci := 1) (v := .ref n3) (fty := (.array .int)) (C := RX1) (T := TX1) (N := 4) hx hb hB inB_X1 tyX1 tyX1_ok nmX1 hown hK hP hD hS 0 rfl rfl 3 (by decide) mw_47 (fun _ h9 => h9) rfl hin rfl (by decide +kernel) rfl rfl (Nat.le_of_ble_eq_true rfl) dX1_init_30 (ws' := [(h0, .inr (1, [.int 0, .ref n1, .ref n2, .ref n3])), (n1, .inl (ty 1, 10, .inl (kf 0))), (n2, .inl (ty 1, 10, .inl (kf 0))), (n3, .inl (ty 1, 10, .inl (kf 0)))]) rfl (fun H locs hP hD hS => ?_)
  exact kr_v hx hb hr hlocks hP hD hS [(h0, .inr (1, [.int 0, .ref n1, .ref n2, .ref n3])), (n1, .inl (ty 1, 10, .inl (kf 0))), (n2, .inl (ty 1, 10, .inl (kf 0))), (n3, .inl (ty 1, 10, .inl (kf 0)))] [0, 1, 2, 3] (by decide) rfl ⟨(fun k => [n1, n2, n3].getD k 0), rfl⟩ (by decide) (by decide) dX1_init_33
set_option maxHeartbeats 4000000 in
set_option maxRecDepth 100000 in
theorem c6_X6_init (l : Launch) (D : va_G) (ty : Nat → ClassId) (sz : Nat) (h0 : Nat) (v0 : Value) (v1 : Value) : cQ l yX6_init cX6_init 1 none 1 20 [.ref h0] D ty [(h0, .inr (6, [v0, v1, .null, .null]))] sz (qV (fun (u : va_W) => ∃ q : Nat → Nat, [(h0, .inr (6, [.int 0, .int 0, .ref (q 0), .ref (q 1)])), ((q 0), .inl (ty 1, 6, .inl (kf 0))), ((q 1), .inl (ty 1, 36, .inl (kf 0)))] = u)) 2 42 := by
  refine cQ.of (by decide) (Nat.le_of_ble_eq_true rfl) (fun p e s m below meth c A ls C hsz hP hK hD hA hl => ?_)
  obtain ⟨hx, hb, hml, hown, hB, hr, hlocks, hin⟩ := C
  have hown : s.vm.findClass RX6 = some m.cls := hown
  have hS : va_S A s.heap s.heap [] := va_S.rf
  have hl : lv_has ls 1 [(0, .ref h0)] := hl
  have hin : meth.name = "<init>" := hin
  refine lv_aload_n hx hb dX6_init_0 rfl (lv_at hl 0 rfl) ?_
  refine W.objInit hx hb hown (hB _ mw_54) (hB _ mw_1) (hB _ mw_2) rfl (by rw [hml]; exact hl.1) rfl dX6_init_1 (Nat.le_of_ble_eq_true rfl) (Nat.le_of_ble_eq_true rfl) ?_
  refine W.eq (g2 := F0 m 4 ls []) rfl ?_
  refine lv_aload_n hx hb dX6_init_4 rfl (lv_at hl 0 rfl) ?_
  refine lv_iconst (v := 0) hx hb dX6_init_5 (by decide) ?_
  refine wy_put (D := D) (ci := 6) (v := .int 0) (fty := .int) (C := RX6) (T := TX6) (N := 4) hx hb hB inB_X6 tyX6 tyX6_ok nmX6 hown hK hP hD hS 0 rfl rfl 0 (by decide) mw_55 (fun _ h9 => h9) rfl (by decide +kernel) rfl rfl (Nat.le_of_ble_eq_true rfl) dX6_init_6 (ws' := [(h0, .inr (6, [.int 0, v1, .null, .null]))]) rfl (fun H locs hP hD hS => ?_)
  refine lv_aload_n hx hb dX6_init_9 rfl (lv_at hl 0 rfl) ?_
  refine lv_iconst (v := 0) hx hb dX6_init_10 (by decide) ?_
  refine wy_put (D := D) (ci := 6) (v := .int 0) (fty := .int) (C := RX6) (T := TX6) (N := 4) hx hb hB inB_X6 tyX6 tyX6_ok nmX6 hown hK hP hD hS 0 rfl rfl 1 (by decide) mw_56 (fun _ h9 => h9) rfl (by decide +kernel) rfl rfl (Nat.le_of_ble_eq_true rfl) dX6_init_11 (ws' := [(h0, .inr (6, [.int 0, .int 0, .null, .null]))]) rfl (fun H locs hP hD hS => ?_)
  refine lv_aload_n hx hb dX6_init_14 rfl (lv_at hl 0 rfl) ?_
  refine lv_bipush (v := 6) hx hb dX6_init_15 (by decide) ?_
  refine ny_newa (atype := .int) (N' := 6) (a0 := (6, .inl (kf 0))) hx hb (hB _ mw_33) rfl hK 1 rfl (by intro C h; cases h) hP hD hS hA (fun _ => rfl) (by decide) (by decide) (by decide) (Nat.le_of_ble_eq_true rfl) (Nat.le_of_ble_eq_true rfl) dX6_init_17 (fun n1 H hP hD hS => ?_)
  refine W.widen (k := 1) (n := 6) (by omega) (by omega) ?_
  have hP : va_P D vwCl [(h0, .inr (6, [.int 0, .int 0, .null, .null])), (n1, .inl (ty 1, 6, .inl (kf 0)))] H := hP
  have hD : va_D A [(h0, .inr (6, [.int 0, .int 0, .null, .null])), (n1, .inl (ty 1, 6, .inl (kf 0)))] := hD
  refine wy_putF (D := D) (ci := 6) (v := .ref n1) (fty := (.array .int)) (C := RX6) (T := TX6) (N := 4) hx hb hB inB_X6 tyX6 tyX6_ok nmX6 hown hK hP hD hS 0 rfl rfl 2 (by decide) mw_57 (fun _ h9 => h9) rfl hin rfl (by decide +kernel) rfl rfl (Nat.le_of_ble_eq_true rfl) dX6_init_19 (ws' := [(h0, .inr (6, [.int 0, .int 0, .ref n1, .null])), (n1, .inl (ty 1, 6, .inl (kf 0)))]) rfl (fun H locs hP hD hS => ?_)
  refine lv_aload_n hx hb dX6_init_22 rfl (lv_at hl 0 rfl) ?_
  refine lv_bipush (v := 36) hx hb dX6_init_23 (by decide) ?_
  refine ny_newa (atype := .int) (N' := 36) (a0 := (36, .inl (kf 0))) hx hb (hB _ mw_33) rfl hK 1 rfl (by intro C h; cases h) hP hD hS hA (fun _ => rfl) (by decide) (by decide) (by decide) (Nat.le_of_ble_eq_true rfl) (Nat.le_of_ble_eq_true rfl) dX6_init_25 (fun n2 H hP hD hS => ?_)
  refine W.widen (k := 2) (n := 42) (by omega) (by omega) ?_
  have hP : va_P D vwCl [(h0, .inr (6, [.int 0, .int 0, .ref n1, .null])), (n1, .inl (ty 1, 6, .inl (kf 0))), (n2, .inl (ty 1, 36, .inl (kf 0)))] H := hP
  have hD : va_D A [(h0, .inr (6, [.int 0, .int 0, .ref n1, .null])), (n1, .inl (ty 1, 6, .inl (kf 0))), (n2, .inl (ty 1, 36, .inl (kf 0)))] := hD
  refine wy_putF (D := D) (ci := 6) (v := .ref n2) (fty := (.array .int)) (C := RX6) (T := TX6) (N := 4) hx hb hB inB_X6 tyX6 tyX6_ok nmX6 hown hK hP hD hS 0 rfl rfl 3 (by decide) mw_58 (fun _ h9 => h9) rfl hin rfl (by decide +kernel) rfl rfl (Nat.le_of_ble_eq_true rfl) dX6_init_27 (ws' := [(h0, .inr (6, [.int 0, .int 0, .ref n1, .ref n2])), (n1, .inl (ty 1, 6, .inl (kf 0))), (n2, .inl (ty 1, 36, .inl (kf 0)))]) rfl (fun H locs hP hD hS => ?_)
  exact kr_v hx hb hr hlocks hP hD hS [(h0, .inr (6, [.int 0, .int 0, .ref n1, .ref n2])), (n1, .inl (ty 1, 6, .inl (kf 0))), (n2, .inl (ty 1, 36, .inl (kf 0)))] [0, 1, 2] (by decide) rfl ⟨(fun k => [n1, n2].getD k 0), rfl⟩ (by decide) (by decide) dX6_init_30
set_option maxHeartbeats 4000000 in
set_option maxRecDepth 100000 in
theorem c4_X8_init (l : Launch) (D : va_G) (ty : Nat → ClassId) (sz : Nat) (h0 : Nat) (v0 : Value) (v1 : Value) (v2 : Value) (v3 : Value) (v4 : Value) (v5 : Value) (v6 : Value) (v7 : Value) (v8 : Value) : cQ l yX8_init cX8_init 1 none 2 40 [.ref h0] D ty [(h0, .inr (8, [v0, v1, v2, v3, v4, v5, .null, .null, .null, .null, v6, v7, .null, .null, .null, .null, .null, v8]))] sz (qV (fun (u : va_W) => ∃ q : Nat → Nat, [(h0, .inr (8, [.int 0, .int 2, .int 0, .int (-1), .int 0, .int 0, .ref (q 0), .ref (q 1), .ref (q 2), .ref (q 3), .int 0, .int 0, .ref (q 4), .ref (q 8), .ref (q 11), .ref (q 12), .ref (q 13), .int 0])), ((q 0), .inl (ty 1, 28, .inl (kf 0))), ((q 1), .inl (ty 1, 28, .inl (kf 0))), ((q 2), .inl (ty 1, 28, .inl (kf 0))), ((q 3), .inl (ty 1, 28, .inl (kf 0))), ((q 4), .inr (1, [.int 0, .ref (q 5), .ref (q 6), .ref (q 7)])), ((q 5), .inl (ty 1, 10, .inl (kf 0))), ((q 6), .inl (ty 1, 10, .inl (kf 0))), ((q 7), .inl (ty 1, 10, .inl (kf 0))), ((q 8), .inr (6, [.int 0, .int 0, .ref (q 9), .ref (q 10)])), ((q 9), .inl (ty 1, 6, .inl (kf 0))), ((q 10), .inl (ty 1, 36, .inl (kf 0))), ((q 11), .inl (ty 1, 17, .inl (kf 0))), ((q 12), .inl (ty 1, 56, .inl (kf 0))), ((q 13), .inl (ty 1, 256, .inl (kf 0)))] = u)) 14 521 := by
  refine cQ.of (by decide) (Nat.le_of_ble_eq_true rfl) (fun p e s m below meth c A ls C hsz hP hK hD hA hl => ?_)
  obtain ⟨hx, hb, hml, hown, hB, hr, hlocks, hin⟩ := C
  have hown : s.vm.findClass RX8 = some m.cls := hown
  have hS : va_S A s.heap s.heap [] := va_S.rf
  have hl : lv_has ls 1 [(0, .ref h0)] := hl
  have hin : meth.name = "<init>" := hin
  refine lv_aload_n hx hb dX8_init_0 rfl (lv_at hl 0 rfl) ?_
  refine W.objInit hx hb hown (hB _ mw_26) (hB _ mw_1) (hB _ mw_2) rfl (by rw [hml]; exact hl.1) rfl dX8_init_1 (Nat.le_of_ble_eq_true rfl) (Nat.le_of_ble_eq_true rfl) ?_
  refine W.eq (g2 := F0 m 4 ls []) rfl ?_
  refine lv_aload_n hx hb dX8_init_4 rfl (lv_at hl 0 rfl) ?_
  refine lv_iconst (v := 0) hx hb dX8_init_5 (by decide) ?_
  refine wy_put (D := D) (ci := 8) (v := .int 0) (fty := .int) (C := RX8) (T := TX8) (N := 18) hx hb hB inB_X8 tyX8 tyX8_ok nmX8 hown hK hP hD hS 0 rfl rfl 0 (by decide) mw_27 (fun _ h9 => h9) rfl (by decide +kernel) rfl rfl (Nat.le_of_ble_eq_true rfl) dX8_init_6 (ws' := [(h0, .inr (8, [.int 0, v1, v2, v3, v4, v5, .null, .null, .null, .null, v6, v7, .null, .null, .null, .null, .null, v8]))]) rfl (fun H locs hP hD hS => ?_)
  refine lv_aload_n hx hb dX8_init_9 rfl (lv_at hl 0 rfl) ?_
  refine lv_iconst (v := 2) hx hb dX8_init_10 (by decide) ?_
  refine wy_put (D := D) (ci := 8) (v := .int 2) (fty := .int) (C := RX8) (T := TX8) (N := 18) hx hb hB inB_X8 tyX8 tyX8_ok nmX8 hown hK hP hD hS 0 rfl rfl 1 (by decide) mw_28 (fun _ h9 => h9) rfl (by decide +kernel) rfl rfl (Nat.le_of_ble_eq_true rfl) dX8_init_11 (ws' := [(h0, .inr (8, [.int 0, .int 2, v2, v3, v4, v5, .null, .null, .null, .null, v6, v7, .null, .null, .null, .null, .null, v8]))]) rfl (fun H locs hP hD hS => ?_)
  refine lv_aload_n hx hb dX8_init_14 rfl (lv_at hl 0 rfl) ?_
  refine lv_iconst (v := 0) hx hb dX8_init_15 (by decide) ?_
  refine wy_put (D := D) (ci := 8) (v := .int 0) (fty := .int) (C := RX8) (T := TX8) (N := 18) hx hb hB inB_X8 tyX8 tyX8_ok nmX8 hown hK hP hD hS 0 rfl rfl 2 (by decide) mw_29 (fun _ h9 => h9) rfl (by decide +kernel) rfl rfl (Nat.le_of_ble_eq_true rfl) dX8_init_16 (ws' := [(h0, .inr (8, [.int 0, .int 2, .int 0, v3, v4, v5, .null, .null, .null, .null, v6, v7, .null, .null, .null, .null, .null, v8]))]) rfl (fun H locs hP hD hS => ?_)
  refine lv_aload_n hx hb dX8_init_19 rfl (lv_at hl 0 rfl) ?_
  refine lv_iconst (v := (-1)) hx hb dX8_init_20 (by decide) ?_
  refine wy_put (D := D) (ci := 8) (v := .int (-1)) (fty := .int) (C := RX8) (T := TX8) (N := 18) hx hb hB inB_X8 tyX8 tyX8_ok nmX8 hown hK hP hD hS 0 rfl rfl 3 (by decide) mw_30 (fun _ h9 => h9) rfl (by decide +kernel) rfl rfl (Nat.le_of_ble_eq_true rfl) dX8_init_21 (ws' := [(h0, .inr (8, [.int 0, .int 2, .int 0, .int (-1), v4, v5, .null, .null, .null, .null, v6, v7, .null, .null, .null, .null, .null, v8]))]) rfl (fun H locs hP hD hS => ?_)
  refine lv_aload_n hx hb dX8_init_24 rfl (lv_at hl 0 rfl) ?_
  refine lv_iconst (v := 0) hx hb dX8_init_25 (by decide) ?_
  refine wy_put (D := D) (ci := 8) (v := .int 0) (fty := .int) (C := RX8) (T := TX8) (N := 18) hx hb hB inB_X8 tyX8 tyX8_ok nmX8 hown hK hP hD hS 0 rfl rfl 4 (by decide) mw_31 (fun _ h9 => h9) rfl (by decide +kernel) rfl rfl (Nat.le_of_ble_eq_true rfl) dX8_init_26 (ws' := [(h0, .inr (8, [.int 0, .int 2, .int 0, .int (-1), .int 0, v5, .null, .null, .null, .null, v6, v7, .null, .null, .null, .null, .null, v8]))]) rfl (fun H locs hP hD hS => ?_)
  refine lv_aload_n hx hb dX8_init_29 rfl (lv_at hl 0 rfl) ?_
  refine lv_iconst (v := 0) hx hb dX8_init_30 (by decide) ?_
  refine wy_put (D := D) (ci := 8) (v := .int 0) (fty := .int) (C := RX8) (T := TX8) (N := 18) hx hb hB inB_X8 tyX8 tyX8_ok nmX8 hown hK hP hD hS 0 rfl rfl 5 (by decide) mw_32 (fun _ h9 => h9) rfl (by decide +kernel) rfl rfl (Nat.le_of_ble_eq_true rfl) dX8_init_31 (ws' := [(h0, .inr (8, [.int 0, .int 2, .int 0, .int (-1), .int 0, .int 0, .null, .null, .null, .null, v6, v7, .null, .null, .null, .null, .null, v8]))]) rfl (fun H locs hP hD hS => ?_)
  refine lv_aload_n hx hb dX8_init_34 rfl (lv_at hl 0 rfl) ?_
  refine lv_bipush (v := 28) hx hb dX8_init_35 (by decide) ?_
  refine ny_newa (atype := .int) (N' := 28) (a0 := (28, .inl (kf 0))) hx hb (hB _ mw_33) rfl hK 1 rfl (by intro C h; cases h) hP hD hS hA (fun _ => rfl) (by decide) (by decide) (by decide) (Nat.le_of_ble_eq_true rfl) (Nat.le_of_ble_eq_true rfl) dX8_init_37 (fun n1 H hP hD hS => ?_)
  refine W.widen (k := 1) (n := 28) (by omega) (by omega) ?_
  have hP : va_P D vwCl [(h0, .inr (8, [.int 0, .int 2, .int 0, .int (-1), .int 0, .int 0, .null, .null, .null, .null, v6, v7, .null, .null, .null, .null, .null, v8])), (n1, .inl (ty 1, 28, .inl (kf 0)))] H := hP
  have hD : va_D A [(h0, .inr (8, [.int 0, .int 2, .int 0, .int (-1), .int 0, .int 0, .null, .null, .null, .null, v6, v7, .null, .null, .null, .null, .null, v8])), (n1, .inl (ty 1, 28, .inl (kf 0)))] := hD
  refine wy_putF (D := D) (ci := 8) (v := .ref n1) (fty := (.array .int)) (C := RX8) (T := TX8) (N := 18) hx hb hB inB_X8 tyX8 tyX8_ok nmX8 hown hK hP hD hS 0 rfl rfl 6 (by decide) mw_34 (fun _ h9 => h9) rfl hin rfl (by decide +kernel) rfl rfl (Nat.le_of_ble_eq_true rfl) dX8_init_39 (ws' := [(h0, .inr (8, [.int 0, .int 2, .int 0, .int (-1), .int 0, .int 0, .ref n1, .null, .null, .null, v6, v7, .null, .null, .null, .null, .null, v8])), (n1, .inl (ty 1, 28, .inl (kf 0)))]) rfl (fun H locs hP hD hS => ?_)
  refine lv_aload_n hx hb dX8_init_42 rfl (lv_at hl 0 rfl) ?_
  refine lv_bipush (v := 28) hx hb dX8_init_43 (by decide) ?_
  refine ny_newa (atype := .int) (N' := 28) (a0 := (28, .inl (kf 0))) hx hb (hB _ mw_33) rfl hK 1 rfl (by intro C h; cases h) hP hD hS hA (fun _ => rfl) (by decide) (by decide) (by decide) (Nat.le_of_ble_eq_true rfl) (Nat.le_of_ble_eq_true rfl) dX8_init_45 (fun n2 H hP hD hS => ?_)
  refine W.widen (k := 2) (n := 56) (by omega) (by omega) ?_
  have hP : va_P D vwCl [(h0, .inr (8, [.int 0, .int 2, .int 0, .int (-1), .int 0, .int 0, .ref n1, .null, .null, .null, v6, v7, .null, .null, .null, .null, .null, v8])), (n1, .inl (ty 1, 28, .inl (kf 0))), (n2, .inl (ty 1, 28, .inl (kf 0)))] H := hP
  have hD : va_D A [(h0, .inr (8, [.int 0, .int 2, .int 0, .int (-1), .int 0, .int 0, .ref n1, .null, .null, .null, v6, v7, .null, .null, .null, .null, .null, v8])), (n1, .inl (ty 1, 28, .inl (kf 0))), (n2, .inl (ty 1, 28, .inl (kf 0)))] := hD
  refine wy_putF (D := D) (ci := 8) (v := .ref n2) (fty := (.array .int)) (C := RX8) (T := TX8) (N := 18) hx hb hB inB_X8 tyX8 tyX8_ok nmX8 hown hK hP hD hS 0 rfl rfl 7 (by decide) mw_35 (fun _ h9 => h9) rfl hin rfl (by decide +kernel) rfl rfl (Nat.le_of_ble_eq_true rfl) dX8_init_47 (ws' := [(h0, .inr (8, [.int 0, .int 2, .int 0, .int (-1), .int 0, .int 0, .ref n1, .ref n2, .null, .null, v6, v7, .null, .null, .null, .null, .null, v8])), (n1, .inl (ty 1, 28, .inl (kf 0))), (n2, .inl (ty 1, 28, .inl (kf 0)))]) rfl (fun H locs hP hD hS => ?_)
  refine lv_aload_n hx hb dX8_init_50 rfl (lv_at hl 0 rfl) ?_
  refine lv_bipush (v := 28) hx hb dX8_init_51 (by decide) ?_
  refine ny_newa (atype := .int) (N' := 28) (a0 := (28, .inl (kf 0))) hx hb (hB _ mw_33) rfl hK 1 rfl (by intro C h; cases h) hP hD hS hA (fun _ => rfl) (by decide) (by decide) (by decide) (Nat.le_of_ble_eq_true rfl) (Nat.le_of_ble_eq_true rfl) dX8_init_53 (fun n3 H hP hD hS => ?_)
  refine W.widen (k := 3) (n := 84) (by omega) (by omega) ?_
  have hP : va_P D vwCl [(h0, .inr (8, [.int 0, .int 2, .int 0, .int (-1), .int 0, .int 0, .ref n1, .ref n2, .null, .null, v6, v7, .null, .null, .null, .null, .null, v8])), (n1, .inl (ty 1, 28, .inl (kf 0))), (n2, .inl (ty 1, 28, .inl (kf 0))), (n3, .inl (ty 1, 28, .inl (kf 0)))] H := hP
  have hD : va_D A [(h0, .inr (8, [.int 0, .int 2, .int 0, .int (-1), .int 0, .int 0, .ref n1, .ref n2, .null, .null, v6, v7, .null, .null, .null, .null, .null, v8])), (n1, .inl (ty 1, 28, .inl (kf 0))), (n2, .inl (ty 1, 28, .inl (kf 0))), (n3, .inl (ty 1, 28, .inl (kf 0)))] := hD
  refine wy_putF (D := D) (ci := 8) (v := .ref n3) (fty := (.array .int)) (C := RX8) (T := TX8) (N := 18) hx hb hB inB_X8 tyX8 tyX8_ok nmX8 hown hK hP hD hS 0 rfl rfl 8 (by decide) mw_36 (fun _ h9 => h9) rfl hin rfl (by decide +kernel) rfl rfl (Nat.le_of_ble_eq_true rfl) dX8_init_55 (ws' := [(h0, .inr (8, [.int 0, .int 2, .int 0, .int (-1), .int 0, .int 0, .ref n1, .ref n2, .ref n3, .null, v6, v7, .null, .null, .null, .null, .null, v8])), (n1, .inl (ty 1, 28, .inl (kf 0))), (n2, .inl (ty 1, 28, .inl (kf 0))), (n3, .inl (ty 1, 28, .inl (kf 0)))]) rfl (fun H locs hP hD hS => ?_)
  refine lv_aload_n hx hb dX8_init_58 rfl (lv_at hl 0 rfl) ?_
  refine lv_bipush (v := 28) hx hb dX8_init_59 (by decide) ?_
  refine ny_newa (atype := .int) (N' := 28) (a0 := (28, .inl (kf 0))) hx hb (hB _ mw_33) rfl hK 1 rfl (by intro C h; cases h) hP hD hS hA (fun _ => rfl) (by decide) (by decide) (by decide) (Nat.le_of_ble_eq_true rfl) (Nat.le_of_ble_eq_true rfl) dX8_init_61 (fun n4 H hP hD hS => ?_)
  refine W.widen (k := 4) (n := 112) (by omega) (by omega) ?_
  have hP : va_P D vwCl [(h0, .inr (8, [.int 0, .int 2, .int 0, .int (-1), .int 0, .int 0, .ref n1, .ref n2, .ref n3, .null, v6, v7, .null, .null, .null, .null, .null, v8])), (n1, .inl (ty 1, 28, .inl (kf 0))), (n2, .inl (ty 1, 28, .inl (kf 0))), (n3, .inl (ty 1, 28, .inl (kf 0))), (n4, .inl (ty 1, 28, .inl (kf 0)))] H := hP
  have hD : va_D A [(h0, .inr (8, [.int 0, .int 2, .int 0, .int (-1), .int 0, .int 0, .ref n1, .ref n2, .ref n3, .null, v6, v7, .null, .null, .null, .null, .null, v8])), (n1, .inl (ty 1, 28, .inl (kf 0))), (n2, .inl (ty 1, 28, .inl (kf 0))), (n3, .inl (ty 1, 28, .inl (kf 0))), (n4, .inl (ty 1, 28, .inl (kf 0)))] := hD
  refine wy_putF (D := D) (ci := 8) (v := .ref n4) (fty := (.array .int)) (C := RX8) (T := TX8) (N := 18) hx hb hB inB_X8 tyX8 tyX8_ok nmX8 hown hK hP hD hS 0 rfl rfl 9 (by decide) mw_37 (fun _ h9 => h9) rfl hin rfl (by decide +kernel) rfl rfl (Nat.le_of_ble_eq_true rfl) dX8_init_63 (ws' := [(h0, .inr (8, [.int 0, .int 2, .int 0, .int (-1), .int 0, .int 0, .ref n1, .ref n2, .ref n3, .ref n4, v6, v7, .null, .null, .null, .null, .null, v8])), (n1, .inl (ty 1, 28, .inl (kf 0))), (n2, .inl (ty 1, 28, .inl (kf 0))), (n3, .inl (ty 1, 28, .inl (kf 0))), (n4, .inl (ty 1, 28, .inl (kf 0)))]) rfl (fun H locs hP hD hS => ?_)
  refine lv_aload_n hx hb dX8_init_66 rfl (lv_at hl 0 rfl) ?_
  refine lv_iconst (v := 0) hx hb dX8_init_67 (by decide) ?_
  refine wy_put (D := D) (ci := 8) (v := .int 0) (fty := .int) (C := RX8) (T := TX8) (N := 18) hx hb hB inB_X8 tyX8 tyX8_ok nmX8 hown hK hP hD hS 0 rfl rfl 10 (by decide) mw_38 (fun _ h9 => h9) rfl (by decide +kernel) rfl rfl (Nat.le_of_ble_eq_true rfl) dX8_init_68 (ws' := [(h0, .inr (8, [.int 0, .int 2, .int 0, .int (-1), .int 0, .int 0, .ref n1, .ref n2, .ref n3, .ref n4, .int 0, v7, .null, .null, .null, .null, .null, v8])), (n1, .inl (ty 1, 28, .inl (kf 0))), (n2, .inl (ty 1, 28, .inl (kf 0))), (n3, .inl (ty 1, 28, .inl (kf 0))), (n4, .inl (ty 1, 28, .inl (kf 0)))]) rfl (fun H locs hP hD hS => ?_)
  refine lv_aload_n hx hb dX8_init_71 rfl (lv_at hl 0 rfl) ?_
  refine lv_iconst (v := 0) hx hb dX8_init_72 (by decide) ?_
  refine wy_put (D := D) (ci := 8) (v := .int 0) (fty := .int) (C := RX8) (T := TX8) (N := 18) hx hb hB inB_X8 tyX8 tyX8_ok nmX8 hown hK hP hD hS 0 rfl rfl 11 (by decide) mw_39 (fun _ h9 => h9) rfl (by decide +kernel) rfl rfl (Nat.le_of_ble_eq_true rfl) dX8_init_73 (ws' := [(h0, .inr (8, [.int 0, .int 2, .int 0, .int (-1), .int 0, .int 0, .ref n1, .ref n2, .ref n3, .ref n4, .int 0, .int 0, .null, .null, .null, .null, .null, v8])), (n1, .inl (ty 1, 28, .inl (kf 0))), (n2, .inl (ty 1, 28, .inl (kf 0))), (n3, .inl (ty 1, 28, .inl (kf 0))), (n4, .inl (ty 1, 28, .inl (kf 0)))]) rfl (fun H locs hP hD hS => ?_)
  refine lv_aload_n hx hb dX8_init_76 rfl (lv_at hl 0 rfl) ?_
  refine va_new (ci := 1) (fs := [.int 0, .null, .null, .null]) (C := RX1) (T := TX1) (N := 4) hx hb hB inB_X1 tyX1 tyX1_ok hown (hB _ mw_40) (hB _ mw_41) (hB _ mw_42) hK.1 hP hD hS hA rfl df_X1 (Nat.le_of_ble_eq_true rfl) (Nat.le_of_ble_eq_true rfl) dX8_init_77 (fun n5 H hP hD hS => ?_)
  refine W.widen (k := 5) (n := 116) (by omega) (by omega) ?_
  have hP : va_P D vwCl [(h0, .inr (8, [.int 0, .int 2, .int 0, .int (-1), .int 0, .int 0, .ref n1, .ref n2, .ref n3, .ref n4, .int 0, .int 0, .null, .null, .null, .null, .null, v8])), (n1, .inl (ty 1, 28, .inl (kf 0))), (n2, .inl (ty 1, 28, .inl (kf 0))), (n3, .inl (ty 1, 28, .inl (kf 0))), (n4, .inl (ty 1, 28, .inl (kf 0))), (n5, .inr (1, [.int 0, .null, .null, .null]))] H := hP
  have hD : va_D A [(h0, .inr (8, [.int 0, .int 2, .int 0, .int (-1), .int 0, .int 0, .ref n1, .ref n2, .ref n3, .ref n4, .int 0, .int 0, .null, .null, .null, .null, .null, v8])), (n1, .inl (ty 1, 28, .inl (kf 0))), (n2, .inl (ty 1, 28, .inl (kf 0))), (n3, .inl (ty 1, 28, .inl (kf 0))), (n4, .inl (ty 1, 28, .inl (kf 0))), (n5, .inr (1, [.int 0, .null, .null, .null]))] := hD
  refine lv_dup hx hb dX8_init_80 rfl ?_
  refine kc_v (va_runIN (As := []) (rest := [.ref n5, .ref h0]) ⟨hx, hb, hml, hown, hB⟩ (c5_X1_init l D ty H.size n5 (.int 0)) ⟨va_cnB 0 hB (bw_c mw_48) rfl rfl rfl hK.2.2.2.2.1 (hB _ mw_42) (by decide +kernel) ⟨Nat.le_of_ble_eq_true rfl, Nat.le_of_ble_eq_true rfl⟩, rfl, hB _ mw_49⟩ (kp_S hK hP hD [5] (by decide) rfl) rfl rfl hl.1 rfl (lv_room (Nat.le_of_ble_eq_true rfl)) dX8_init_81 ⟨Nat.le_of_ble_eq_true rfl, Nat.le_of_ble_eq_true rfl⟩) hP hD hS hA [5] [0, 1, 2, 3, 4] (wr := [(h0, .inr (8, [.int 0, .int 2, .int 0, .int (-1), .int 0, .int 0, .ref n1, .ref n2, .ref n3, .ref n4, .int 0, .int 0, .null, .null, .null, .null, .null, v8])), (n1, .inl (ty 1, 28, .inl (kf 0))), (n2, .inl (ty 1, 28, .inl (kf 0))), (n3, .inl (ty 1, 28, .inl (kf 0))), (n4, .inl (ty 1, 28, .inl (kf 0)))]) rfl rfl (by decide) (by decide) (fun u H locs w6 hP hD hS => ?_)
  obtain ⟨q7, rfl⟩ := w6
  refine W.widen (k := 8) (n := 146) (by omega) (by omega) ?_
  have hP : va_P D vwCl [(h0, .inr (8, [.int 0, .int 2, .int 0, .int (-1), .int 0, .int 0, .ref n1, .ref n2, .ref n3, .ref n4, .int 0, .int 0, .null, .null, .null, .null, .null, v8])), (n1, .inl (ty 1, 28, .inl (kf 0))), (n2, .inl (ty 1, 28, .inl (kf 0))), (n3, .inl (ty 1, 28, .inl (kf 0))), (n4, .inl (ty 1, 28, .inl (kf 0))), (n5, .inr (1, [.int 0, .ref (q7 0), .ref (q7 1), .ref (q7 2)])), ((q7 0), .inl (ty 1, 10, .inl (kf 0))), ((q7 1), .inl (ty 1, 10, .inl (kf 0))), ((q7 2), .inl (ty 1, 10, .inl (kf 0)))] H := hP
  have hD : va_D A [(h0, .inr (8, [.int 0, .int 2, .int 0, .int (-1), .int 0, .int 0, .ref n1, .ref n2, .ref n3, .ref n4, .int 0, .int 0, .null, .null, .null, .null, .null, v8])), (n1, .inl (ty 1, 28, .inl (kf 0))), (n2, .inl (ty 1, 28, .inl (kf 0))), (n3, .inl (ty 1, 28, .inl (kf 0))), (n4, .inl (ty 1, 28, .inl (kf 0))), (n5, .inr (1, [.int 0, .ref (q7 0), .ref (q7 1), .ref (q7 2)])), ((q7 0), .inl (ty 1, 10, .inl (kf 0))), ((q7 1), .inl (ty 1, 10, .inl (kf 0))), ((q7 2), .inl (ty 1, 10, .inl (kf 0)))] := hD
  refine wy_putF (D := D) (ci := 8) (v := .ref n5) (fty := (.object "OneWays$Journeys")) (C := RX8) (T := TX8) (N := 18) hx hb hB inB_X8 tyX8 tyX8_ok nmX8 hown hK hP hD hS 0 rfl rfl 12 (by decide) mw_50 (fun _ h9 => h9) rfl hin rfl (by decide +kernel) rfl rfl (Nat.le_of_ble_eq_true rfl) dX8_init_84 (ws' := [(h0, .inr (8, [.int 0, .int 2, .int 0, .int (-1), .int 0, .int 0, .ref n1, .ref n2, .ref n3, .ref n4, .int 0, .int 0, .ref n5, .null, .null, .null, .null, v8])), (n1, .inl (ty 1, 28, .inl (kf 0))), (n2, .inl (ty 1, 28, .inl (kf 0))), (n3, .inl (ty 1, 28, .inl (kf 0))), (n4, .inl (ty 1, 28, .inl (kf 0))), (n5, .inr (1, [.int 0, .ref (q7 0), .ref (q7 1), .ref (q7 2)])), ((q7 0), .inl (ty 1, 10, .inl (kf 0))), ((q7 1), .inl (ty 1, 10, .inl (kf 0))), ((q7 2), .inl (ty 1, 10, .inl (kf 0)))]) rfl (fun H locs hP hD hS => ?_)
  refine lv_aload_n hx hb dX8_init_87 rfl (lv_at hl 0 rfl) ?_
  refine va_new (ci := 6) (fs := [.int 0, .int 0, .null, .null]) (C := RX6) (T := TX6) (N := 4) hx hb hB inB_X6 tyX6 tyX6_ok hown (hB _ mw_51) (hB _ mw_52) (hB _ mw_53) hK.1 hP hD hS hA rfl df_X6 (Nat.le_of_ble_eq_true rfl) (Nat.le_of_ble_eq_true rfl) dX8_init_88 (fun n8 H hP hD hS => ?_)
  refine W.widen (k := 9) (n := 150) (by omega) (by omega) ?_
  have hP : va_P D vwCl [(h0, .inr (8, [.int 0, .int 2, .int 0, .int (-1), .int 0, .int 0, .ref n1, .ref n2, .ref n3, .ref n4, .int 0, .int 0, .ref n5, .null, .null, .null, .null, v8])), (n1, .inl (ty 1, 28, .inl (kf 0))), (n2, .inl (ty 1, 28, .inl (kf 0))), (n3, .inl (ty 1, 28, .inl (kf 0))), (n4, .inl (ty 1, 28, .inl (kf 0))), (n5, .inr (1, [.int 0, .ref (q7 0), .ref (q7 1), .ref (q7 2)])), ((q7 0), .inl (ty 1, 10, .inl (kf 0))), ((q7 1), .inl (ty 1, 10, .inl (kf 0))), ((q7 2), .inl (ty 1, 10, .inl (kf 0))), (n8, .inr (6, [.int 0, .int 0, .null, .null]))] H := hP
  have hD : va_D A [(h0, .inr (8, [.int 0, .int 2, .int 0, .int (-1), .int 0, .int 0, .ref n1, .ref n2, .ref n3, .ref n4, .int 0, .int 0, .ref n5, .null, .null, .null, .null, v8])), (n1, .inl (ty 1, 28, .inl (kf 0))), (n2, .inl (ty 1, 28, .inl (kf 0))), (n3, .inl (ty 1, 28, .inl (kf 0))), (n4, .inl (ty 1, 28, .inl (kf 0))), (n5, .inr (1, [.int 0, .ref (q7 0), .ref (q7 1), .ref (q7 2)])), ((q7 0), .inl (ty 1, 10, .inl (kf 0))), ((q7 1), .inl (ty 1, 10, .inl (kf 0))), ((q7 2), .inl (ty 1, 10, .inl (kf 0))), (n8, .inr (6, [.int 0, .int 0, .null, .null]))] := hD
  refine lv_dup hx hb dX8_init_91 rfl ?_
  refine kc_v (va_runIN (As := []) (rest := [.ref n8, .ref h0]) ⟨hx, hb, hml, hown, hB⟩ (c6_X6_init l D ty H.size n8 (.int 0) (.int 0)) ⟨va_cnB 0 hB (bw_c mw_59) rfl rfl rfl hK.2.2.2.2.2.1 (hB _ mw_53) (by decide +kernel) ⟨Nat.le_of_ble_eq_true rfl, Nat.le_of_ble_eq_true rfl⟩, rfl, hB _ mw_60⟩ (kp_S hK hP hD [9] (by decide) rfl) rfl rfl hl.1 rfl (lv_room (Nat.le_of_ble_eq_true rfl)) dX8_init_92 ⟨Nat.le_of_ble_eq_true rfl, Nat.le_of_ble_eq_true rfl⟩) hP hD hS hA [9] [0, 1, 2, 3, 4, 5, 6, 7, 8] (wr := [(h0, .inr (8, [.int 0, .int 2, .int 0, .int (-1), .int 0, .int 0, .ref n1, .ref n2, .ref n3, .ref n4, .int 0, .int 0, .ref n5, .null, .null, .null, .null, v8])), (n1, .inl (ty 1, 28, .inl (kf 0))), (n2, .inl (ty 1, 28, .inl (kf 0))), (n3, .inl (ty 1, 28, .inl (kf 0))), (n4, .inl (ty 1, 28, .inl (kf 0))), (n5, .inr (1, [.int 0, .ref (q7 0), .ref (q7 1), .ref (q7 2)])), ((q7 0), .inl (ty 1, 10, .inl (kf 0))), ((q7 1), .inl (ty 1, 10, .inl (kf 0))), ((q7 2), .inl (ty 1, 10, .inl (kf 0)))]) rfl rfl (by decide) (by decide) (fun u H locs w9 hP hD hS => ?_)
  obtain ⟨q10, rfl⟩ := w9
  refine W.widen (k := 11) (n := 192) (by omega) (by omega) ?_
  have hP : va_P D vwCl [(h0, .inr (8, [.int 0, .int 2, .int 0, .int (-1), .int 0, .int 0, .ref n1, .ref n2, .ref n3, .ref n4, .int 0, .int 0, .ref n5, .null, .null, .null, .null, v8])), (n1, .inl (ty 1, 28, .inl (kf 0))), (n2, .inl (ty 1, 28, .inl (kf 0))), (n3, .inl (ty 1, 28, .inl (kf 0))), (n4, .inl (ty 1, 28, .inl (kf 0))), (n5, .inr (1, [.int 0, .ref (q7 0), .ref (q7 1), .ref (q7 2)])), ((q7 0), .inl (ty 1, 10, .inl (kf 0))), ((q7 1), .inl (ty 1, 10, .inl (kf 0))), ((q7 2), .inl (ty 1, 10, .inl (kf 0))), (n8, .inr (6, [.int 0, .int 0, .ref (q10 0), .ref (q10 1)])), ((q10 0), .inl (ty 1, 6, .inl (kf 0))), ((q10 1), .inl (ty 1, 36, .inl (kf 0)))] H := hP
  have hD : va_D A [(h0, .inr (8, [.int 0, .int 2, .int 0, .int (-1), .int 0, .int 0, .ref n1, .ref n2, .ref n3, .ref n4, .int 0, .int 0, .ref n5, .null, .null, .null, .null, v8])), (n1, .inl (ty 1, 28, .inl (kf 0))), (n2, .inl (ty 1, 28, .inl (kf 0))), (n3, .inl (ty 1, 28, .inl (kf 0))), (n4, .inl (ty 1, 28, .inl (kf 0))), (n5, .inr (1, [.int 0, .ref (q7 0), .ref (q7 1), .ref (q7 2)])), ((q7 0), .inl (ty 1, 10, .inl (kf 0))), ((q7 1), .inl (ty 1, 10, .inl (kf 0))), ((q7 2), .inl (ty 1, 10, .inl (kf 0))), (n8, .inr (6, [.int 0, .int 0, .ref (q10 0), .ref (q10 1)])), ((q10 0), .inl (ty 1, 6, .inl (kf 0))), ((q10 1), .inl (ty 1, 36, .inl (kf 0)))] := hD
  refine wy_putF (D := D) (ci := 8) (v := .ref n8) (fty := (.object "OneWays$Streets")) (C := RX8) (T := TX8) (N := 18) hx hb hB inB_X8 tyX8 tyX8_ok nmX8 hown hK hP hD hS 0 rfl rfl 13 (by decide) mw_61 (fun _ h9 => h9) rfl hin rfl (by decide +kernel) rfl rfl (Nat.le_of_ble_eq_true rfl) dX8_init_95 (ws' := [(h0, .inr (8, [.int 0, .int 2, .int 0, .int (-1), .int 0, .int 0, .ref n1, .ref n2, .ref n3, .ref n4, .int 0, .int 0, .ref n5, .ref n8, .null, .null, .null, v8])), (n1, .inl (ty 1, 28, .inl (kf 0))), (n2, .inl (ty 1, 28, .inl (kf 0))), (n3, .inl (ty 1, 28, .inl (kf 0))), (n4, .inl (ty 1, 28, .inl (kf 0))), (n5, .inr (1, [.int 0, .ref (q7 0), .ref (q7 1), .ref (q7 2)])), ((q7 0), .inl (ty 1, 10, .inl (kf 0))), ((q7 1), .inl (ty 1, 10, .inl (kf 0))), ((q7 2), .inl (ty 1, 10, .inl (kf 0))), (n8, .inr (6, [.int 0, .int 0, .ref (q10 0), .ref (q10 1)])), ((q10 0), .inl (ty 1, 6, .inl (kf 0))), ((q10 1), .inl (ty 1, 36, .inl (kf 0)))]) rfl (fun H locs hP hD hS => ?_)
  refine lv_aload_n hx hb dX8_init_98 rfl (lv_at hl 0 rfl) ?_
  refine lv_bipush (v := 17) hx hb dX8_init_99 (by decide) ?_
  refine ny_newa (atype := .int) (N' := 17) (a0 := (17, .inl (kf 0))) hx hb (hB _ mw_33) rfl hK 1 rfl (by intro C h; cases h) hP hD hS hA (fun _ => rfl) (by decide) (by decide) (by decide) (Nat.le_of_ble_eq_true rfl) (Nat.le_of_ble_eq_true rfl) dX8_init_101 (fun n11 H hP hD hS => ?_)
  refine W.widen (k := 12) (n := 209) (by omega) (by omega) ?_
  have hP : va_P D vwCl [(h0, .inr (8, [.int 0, .int 2, .int 0, .int (-1), .int 0, .int 0, .ref n1, .ref n2, .ref n3, .ref n4, .int 0, .int 0, .ref n5, .ref n8, .null, .null, .null, v8])), (n1, .inl (ty 1, 28, .inl (kf 0))), (n2, .inl (ty 1, 28, .inl (kf 0))), (n3, .inl (ty 1, 28, .inl (kf 0))), (n4, .inl (ty 1, 28, .inl (kf 0))), (n5, .inr (1, [.int 0, .ref (q7 0), .ref (q7 1), .ref (q7 2)])), ((q7 0), .inl (ty 1, 10, .inl (kf 0))), ((q7 1), .inl (ty 1, 10, .inl (kf 0))), ((q7 2), .inl (ty 1, 10, .inl (kf 0))), (n8, .inr (6, [.int 0, .int 0, .ref (q10 0), .ref (q10 1)])), ((q10 0), .inl (ty 1, 6, .inl (kf 0))), ((q10 1), .inl (ty 1, 36, .inl (kf 0))), (n11, .inl (ty 1, 17, .inl (kf 0)))] H := hP
  have hD : va_D A [(h0, .inr (8, [.int 0, .int 2, .int 0, .int (-1), .int 0, .int 0, .ref n1, .ref n2, .ref n3, .ref n4, .int 0, .int 0, .ref n5, .ref n8, .null, .null, .null, v8])), (n1, .inl (ty 1, 28, .inl (kf 0))), (n2, .inl (ty 1, 28, .inl (kf 0))), (n3, .inl (ty 1, 28, .inl (kf 0))), (n4, .inl (ty 1, 28, .inl (kf 0))), (n5, .inr (1, [.int 0, .ref (q7 0), .ref (q7 1), .ref (q7 2)])), ((q7 0), .inl (ty 1, 10, .inl (kf 0))), ((q7 1), .inl (ty 1, 10, .inl (kf 0))), ((q7 2), .inl (ty 1, 10, .inl (kf 0))), (n8, .inr (6, [.int 0, .int 0, .ref (q10 0), .ref (q10 1)])), ((q10 0), .inl (ty 1, 6, .inl (kf 0))), ((q10 1), .inl (ty 1, 36, .inl (kf 0))), (n11, .inl (ty 1, 17, .inl (kf 0)))] := hD
  refine wy_putF (D := D) (ci := 8) (v := .ref n11) (fty := (.array .int)) (C := RX8) (T := TX8) (N := 18) hx hb hB inB_X8 tyX8 tyX8_ok nmX8 hown hK hP hD hS 0 rfl rfl 14 (by decide) mw_62 (fun _ h9 => h9) rfl hin rfl (by decide +kernel) rfl rfl (Nat.le_of_ble_eq_true rfl) dX8_init_103 (ws' := [(h0, .inr (8, [.int 0, .int 2, .int 0, .int (-1), .int 0, .int 0, .ref n1, .ref n2, .ref n3, .ref n4, .int 0, .int 0, .ref n5, .ref n8, .ref n11, .null, .null, v8])), (n1, .inl (ty 1, 28, .inl (kf 0))), (n2, .inl (ty 1, 28, .inl (kf 0))), (n3, .inl (ty 1, 28, .inl (kf 0))), (n4, .inl (ty 1, 28, .inl (kf 0))), (n5, .inr (1, [.int 0, .ref (q7 0), .ref (q7 1), .ref (q7 2)])), ((q7 0), .inl (ty 1, 10, .inl (kf 0))), ((q7 1), .inl (ty 1, 10, .inl (kf 0))), ((q7 2), .inl (ty 1, 10, .inl (kf 0))), (n8, .inr (6, [.int 0, .int 0, .ref (q10 0), .ref (q10 1)])), ((q10 0), .inl (ty 1, 6, .inl (kf 0))), ((q10 1), .inl (ty 1, 36, .inl (kf 0))), (n11, .inl (ty 1, 17, .inl (kf 0)))]) rfl (fun H locs hP hD hS => ?_)
  refine lv_aload_n hx hb dX8_init_106 rfl (lv_at hl 0 rfl) ?_
  refine lv_bipush (v := 56) hx hb dX8_init_107 (by decide) ?_
  refine ny_newa (atype := .int) (N' := 56) (a0 := (56, .inl (kf 0))) hx hb (hB _ mw_33) rfl hK 1 rfl (by intro C h; cases h) hP hD hS hA (fun _ => rfl) (by decide) (by decide) (by decide) (Nat.le_of_ble_eq_true rfl) (Nat.le_of_ble_eq_true rfl) dX8_init_109 (fun n12 H hP hD hS => ?_)
  refine W.widen (k := 13) (n := 265) (by omega) (by omega) ?_
  have hP : va_P D vwCl [(h0, .inr (8, [.int 0, .int 2, .int 0, .int (-1), .int 0, .int 0, .ref n1, .ref n2, .ref n3, .ref n4, .int 0, .int 0, .ref n5, .ref n8, .ref n11, .null, .null, v8])), (n1, .inl (ty 1, 28, .inl (kf 0))), (n2, .inl (ty 1, 28, .inl (kf 0))), (n3, .inl (ty 1, 28, .inl (kf 0))), (n4, .inl (ty 1, 28, .inl (kf 0))), (n5, .inr (1, [.int 0, .ref (q7 0), .ref (q7 1), .ref (q7 2)])), ((q7 0), .inl (ty 1, 10, .inl (kf 0))), ((q7 1), .inl (ty 1, 10, .inl (kf 0))), ((q7 2), .inl (ty 1, 10, .inl (kf 0))), (n8, .inr (6, [.int 0, .int 0, .ref (q10 0), .ref (q10 1)])), ((q10 0), .inl (ty 1, 6, .inl (kf 0))), ((q10 1), .inl (ty 1, 36, .inl (kf 0))), (n11, .inl (ty 1, 17, .inl (kf 0))), (n12, .inl (ty 1, 56, .inl (kf 0)))] H := hP
  have hD : va_D A [(h0, .inr (8, [.int 0, .int 2, .int 0, .int (-1), .int 0, .int 0, .ref n1, .ref n2, .ref n3, .ref n4, .int 0, .int 0, .ref n5, .ref n8, .ref n11, .null, .null, v8])), (n1, .inl (ty 1, 28, .inl (kf 0))), (n2, .inl (ty 1, 28, .inl (kf 0))), (n3, .inl (ty 1, 28, .inl (kf 0))), (n4, .inl (ty 1, 28, .inl (kf 0))), (n5, .inr (1, [.int 0, .ref (q7 0), .ref (q7 1), .ref (q7 2)])), ((q7 0), .inl (ty 1, 10, .inl (kf 0))), ((q7 1), .inl (ty 1, 10, .inl (kf 0))), ((q7 2), .inl (ty 1, 10, .inl (kf 0))), (n8, .inr (6, [.int 0, .int 0, .ref (q10 0), .ref (q10 1)])), ((q10 0), .inl (ty 1, 6, .inl (kf 0))), ((q10 1), .inl (ty 1, 36, .inl (kf 0))), (n11, .inl (ty 1, 17, .inl (kf 0))), (n12, .inl (ty 1, 56, .inl (kf 0)))] := hD
  refine wy_putF (D := D) (ci := 8) (v := .ref n12) (fty := (.array .int)) (C := RX8) (T := TX8) (N := 18) hx hb hB inB_X8 tyX8 tyX8_ok nmX8 hown hK hP hD hS 0 rfl rfl 15 (by decide) mw_63 (fun _ h9 => h9) rfl hin rfl (by decide +kernel) rfl rfl (Nat.le_of_ble_eq_true rfl) dX8_init_111 (ws' := [(h0, .inr (8, [.int 0, .int 2, .int 0, .int (-1), .int 0, .int 0, .ref n1, .ref n2, .ref n3, .ref n4, .int 0, .int 0, .ref n5, .ref n8, .ref n11, .ref n12, .null, v8])), (n1, .inl (ty 1, 28, .inl (kf 0))), (n2, .inl (ty 1, 28, .inl (kf 0))), (n3, .inl (ty 1, 28, .inl (kf 0))), (n4, .inl (ty 1, 28, .inl (kf 0))), (n5, .inr (1, [.int 0, .ref (q7 0), .ref (q7 1), .ref (q7 2)])), ((q7 0), .inl (ty 1, 10, .inl (kf 0))), ((q7 1), .inl (ty 1, 10, .inl (kf 0))), ((q7 2), .inl (ty 1, 10, .inl (kf 0))), (n8, .inr (6, [.int 0, .int 0, .ref (q10 0), .ref (q10 1)])), ((q10 0), .inl (ty 1, 6, .inl (kf 0))), ((q10 1), .inl (ty 1, 36, .inl (kf 0))), (n11, .inl (ty 1, 17, .inl (kf 0))), (n12, .inl (ty 1, 56, .inl (kf 0)))]) rfl (fun H locs hP hD hS => ?_)
  refine lv_aload_n hx hb dX8_init_114 rfl (lv_at hl 0 rfl) ?_
  refine lv_sipush (v := 256) hx hb dX8_init_115 (by decide) ?_
  refine ny_newa (atype := .int) (N' := 256) (a0 := (256, .inl (kf 0))) hx hb (hB _ mw_33) rfl hK 1 rfl (by intro C h; cases h) hP hD hS hA (fun _ => rfl) (by decide) (by decide) (by decide) (Nat.le_of_ble_eq_true rfl) (Nat.le_of_ble_eq_true rfl) dX8_init_118 (fun n13 H hP hD hS => ?_)
  refine W.widen (k := 14) (n := 521) (by omega) (by omega) ?_
  have hP : va_P D vwCl [(h0, .inr (8, [.int 0, .int 2, .int 0, .int (-1), .int 0, .int 0, .ref n1, .ref n2, .ref n3, .ref n4, .int 0, .int 0, .ref n5, .ref n8, .ref n11, .ref n12, .null, v8])), (n1, .inl (ty 1, 28, .inl (kf 0))), (n2, .inl (ty 1, 28, .inl (kf 0))), (n3, .inl (ty 1, 28, .inl (kf 0))), (n4, .inl (ty 1, 28, .inl (kf 0))), (n5, .inr (1, [.int 0, .ref (q7 0), .ref (q7 1), .ref (q7 2)])), ((q7 0), .inl (ty 1, 10, .inl (kf 0))), ((q7 1), .inl (ty 1, 10, .inl (kf 0))), ((q7 2), .inl (ty 1, 10, .inl (kf 0))), (n8, .inr (6, [.int 0, .int 0, .ref (q10 0), .ref (q10 1)])), ((q10 0), .inl (ty 1, 6, .inl (kf 0))), ((q10 1), .inl (ty 1, 36, .inl (kf 0))), (n11, .inl (ty 1, 17, .inl (kf 0))), (n12, .inl (ty 1, 56, .inl (kf 0))), (n13, .inl (ty 1, 256, .inl (kf 0)))] H := hP
  have hD : va_D A [(h0, .inr (8, [.int 0, .int 2, .int 0, .int (-1), .int 0, .int 0, .ref n1, .ref n2, .ref n3, .ref n4, .int 0, .int 0, .ref n5, .ref n8, .ref n11, .ref n12, .null, v8])), (n1, .inl (ty 1, 28, .inl (kf 0))), (n2, .inl (ty 1, 28, .inl (kf 0))), (n3, .inl (ty 1, 28, .inl (kf 0))), (n4, .inl (ty 1, 28, .inl (kf 0))), (n5, .inr (1, [.int 0, .ref (q7 0), .ref (q7 1), .ref (q7 2)])), ((q7 0), .inl (ty 1, 10, .inl (kf 0))), ((q7 1), .inl (ty 1, 10, .inl (kf 0))), ((q7 2), .inl (ty 1, 10, .inl (kf 0))), (n8, .inr (6, [.int 0, .int 0, .ref (q10 0), .ref (q10 1)])), ((q10 0), .inl (ty 1, 6, .inl (kf 0))), ((q10 1), .inl (ty 1, 36, .inl (kf 0))), (n11, .inl (ty 1, 17, .inl (kf 0))), (n12, .inl (ty 1, 56, .inl (kf 0))), (n13, .inl (ty 1, 256, .inl (kf 0)))] := hD
  refine wy_putF (D := D) (ci := 8) (v := .ref n13) (fty := (.array .int)) (C := RX8) (T := TX8) (N := 18) hx hb hB inB_X8 tyX8 tyX8_ok nmX8 hown hK hP hD hS 0 rfl rfl 16 (by decide) mw_64 (fun _ h9 => h9) rfl hin rfl (by decide +kernel) rfl rfl (Nat.le_of_ble_eq_true rfl) dX8_init_120 (ws' := [(h0, .inr (8, [.int 0, .int 2, .int 0, .int (-1), .int 0, .int 0, .ref n1, .ref n2, .ref n3, .ref n4, .int 0, .int 0, .ref n5, .ref n8, .ref n11, .ref n12, .ref n13, v8])), (n1, .inl (ty 1, 28, .inl (kf 0))), (n2, .inl (ty 1, 28, .inl (kf 0))), (n3, .inl (ty 1, 28, .inl (kf 0))), (n4, .inl (ty 1, 28, .inl (kf 0))), (n5, .inr (1, [.int 0, .ref (q7 0), .ref (q7 1), .ref (q7 2)])), ((q7 0), .inl (ty 1, 10, .inl (kf 0))), ((q7 1), .inl (ty 1, 10, .inl (kf 0))), ((q7 2), .inl (ty 1, 10, .inl (kf 0))), (n8, .inr (6, [.int 0, .int 0, .ref (q10 0), .ref (q10 1)])), ((q10 0), .inl (ty 1, 6, .inl (kf 0))), ((q10 1), .inl (ty 1, 36, .inl (kf 0))), (n11, .inl (ty 1, 17, .inl (kf 0))), (n12, .inl (ty 1, 56, .inl (kf 0))), (n13, .inl (ty 1, 256, .inl (kf 0)))]) rfl (fun H locs hP hD hS => ?_)
  refine lv_aload_n hx hb dX8_init_123 rfl (lv_at hl 0 rfl) ?_
  refine lv_iconst (v := 0) hx hb dX8_init_124 (by decide) ?_
  refine wy_put (D := D) (ci := 8) (v := .int 0) (fty := .int) (C := RX8) (T := TX8) (N := 18) hx hb hB inB_X8 tyX8 tyX8_ok nmX8 hown hK hP hD hS 0 rfl rfl 17 (by decide) mw_65 (fun _ h9 => h9) rfl (by decide +kernel) rfl rfl (Nat.le_of_ble_eq_true rfl) dX8_init_125 (ws' := [(h0, .inr (8, [.int 0, .int 2, .int 0, .int (-1), .int 0, .int 0, .ref n1, .ref n2, .ref n3, .ref n4, .int 0, .int 0, .ref n5, .ref n8, .ref n11, .ref n12, .ref n13, .int 0])), (n1, .inl (ty 1, 28, .inl (kf 0))), (n2, .inl (ty 1, 28, .inl (kf 0))), (n3, .inl (ty 1, 28, .inl (kf 0))), (n4, .inl (ty 1, 28, .inl (kf 0))), (n5, .inr (1, [.int 0, .ref (q7 0), .ref (q7 1), .ref (q7 2)])), ((q7 0), .inl (ty 1, 10, .inl (kf 0))), ((q7 1), .inl (ty 1, 10, .inl (kf 0))), ((q7 2), .inl (ty 1, 10, .inl (kf 0))), (n8, .inr (6, [.int 0, .int 0, .ref (q10 0), .ref (q10 1)])), ((q10 0), .inl (ty 1, 6, .inl (kf 0))), ((q10 1), .inl (ty 1, 36, .inl (kf 0))), (n11, .inl (ty 1, 17, .inl (kf 0))), (n12, .inl (ty 1, 56, .inl (kf 0))), (n13, .inl (ty 1, 256, .inl (kf 0)))]) rfl (fun H locs hP hD hS => ?_)
  exact kr_v hx hb hr hlocks hP hD hS [(h0, .inr (8, [.int 0, .int 2, .int 0, .int (-1), .int 0, .int 0, .ref n1, .ref n2, .ref n3, .ref n4, .int 0, .int 0, .ref n5, .ref n8, .ref n11, .ref n12, .ref n13, .int 0])), (n1, .inl (ty 1, 28, .inl (kf 0))), (n2, .inl (ty 1, 28, .inl (kf 0))), (n3, .inl (ty 1, 28, .inl (kf 0))), (n4, .inl (ty 1, 28, .inl (kf 0))), (n5, .inr (1, [.int 0, .ref (q7 0), .ref (q7 1), .ref (q7 2)])), ((q7 0), .inl (ty 1, 10, .inl (kf 0))), ((q7 1), .inl (ty 1, 10, .inl (kf 0))), ((q7 2), .inl (ty 1, 10, .inl (kf 0))), (n8, .inr (6, [.int 0, .int 0, .ref (q10 0), .ref (q10 1)])), ((q10 0), .inl (ty 1, 6, .inl (kf 0))), ((q10 1), .inl (ty 1, 36, .inl (kf 0))), (n11, .inl (ty 1, 17, .inl (kf 0))), (n12, .inl (ty 1, 56, .inl (kf 0))), (n13, .inl (ty 1, 256, .inl (kf 0)))] [0, 1, 2, 3, 4, 5, 6, 7, 8, 9, 10, 11, 12, 13, 14] (by decide) rfl ⟨(fun k => [n1, n2, n3, n4, n5, (q7 0), (q7 1), (q7 2), n8, (q10 0), (q10 1), n11, n12, n13].getD k 0), rfl⟩ (by decide) (by decide) dX8_init_128
set_option maxHeartbeats 4000000 in
set_option maxRecDepth 100000 in
theorem c2_X9_init (l : Launch) (D : va_G) (ty : Nat → ClassId) (sz : Nat) (h0 : Nat) (v0 : Value) (v1 : Value) : cQ l yX9_init cX9_init 1 none 3 60 [.ref h0] D ty [(h0, .inr (9, [.null, .null, v0, v1]))] sz (qV (fun (u : va_W) => ∃ q : Nat → Nat, [(h0, .inr (9, [.ref (q 0), .ref (q 2), .int 0, .int (-1)])), ((q 0), .inr (7, [.ref (q 1), .int 0, .int 0, .int 0, .int 0, .int 0])), ((q 1), .inl (ty 0, 0, .inl (kf 0))), ((q 2), .inr (8, [.int 0, .int 2, .int 0, .int (-1), .int 0, .int 0, .ref (q 3), .ref (q 4), .ref (q 5), .ref (q 6), .int 0, .int 0, .ref (q 7), .ref (q 11), .ref (q 14), .ref (q 15), .ref (q 16), .int 0])), ((q 3), .inl (ty 1, 28, .inl (kf 0))), ((q 4), .inl (ty 1, 28, .inl (kf 0))), ((q 5), .inl (ty 1, 28, .inl (kf 0))), ((q 6), .inl (ty 1, 28, .inl (kf 0))), ((q 7), .inr (1, [.int 0, .ref (q 8), .ref (q 9), .ref (q 10)])), ((q 8), .inl (ty 1, 10, .inl (kf 0))), ((q 9), .inl (ty 1, 10, .inl (kf 0))), ((q 10), .inl (ty 1, 10, .inl (kf 0))), ((q 11), .inr (6, [.int 0, .int 0, .ref (q 12), .ref (q 13)])), ((q 12), .inl (ty 1, 6, .inl (kf 0))), ((q 13), .inl (ty 1, 36, .inl (kf 0))), ((q 14), .inl (ty 1, 17, .inl (kf 0))), ((q 15), .inl (ty 1, 56, .inl (kf 0))), ((q 16), .inl (ty 1, 256, .inl (kf 0)))] = u)) 17 545 := by
  refine cQ.of (by decide) (Nat.le_of_ble_eq_true rfl) (fun p e s m below meth c A ls C hsz hP hK hD hA hl => ?_)
  obtain ⟨hx, hb, hml, hown, hB, hr, hlocks, hin⟩ := C
  have hown : s.vm.findClass RX9 = some m.cls := hown
  have hS : va_S A s.heap s.heap [] := va_S.rf
  have hl : lv_has ls 1 [(0, .ref h0)] := hl
  have hin : meth.name = "<init>" := hin
  refine lv_aload_n hx hb dX9_init_0 rfl (lv_at hl 0 rfl) ?_
  refine W.objInit hx hb hown (hB _ mw_9) (hB _ mw_1) (hB _ mw_2) rfl (by rw [hml]; exact hl.1) rfl dX9_init_1 (Nat.le_of_ble_eq_true rfl) (Nat.le_of_ble_eq_true rfl) ?_
  refine W.eq (g2 := F0 m 4 ls []) rfl ?_
  refine lv_aload_n hx hb dX9_init_4 rfl (lv_at hl 0 rfl) ?_
  refine va_new (ci := 7) (fs := [.null, .int 0, .int 0, .int 0, .int 0, .int 0]) (C := RX7) (T := TX7) (N := 6) hx hb hB inB_X7 tyX7 tyX7_ok hown (hB _ mw_10) (hB _ mw_11) (hB _ mw_12) hK.1 hP hD hS hA rfl df_X7 (Nat.le_of_ble_eq_true rfl) (Nat.le_of_ble_eq_true rfl) dX9_init_5 (fun n1 H hP hD hS => ?_)
  refine W.widen (k := 1) (n := 6) (by omega) (by omega) ?_
  have hP : va_P D vwCl [(h0, .inr (9, [.null, .null, v0, v1])), (n1, .inr (7, [.null, .int 0, .int 0, .int 0, .int 0, .int 0]))] H := hP
  have hD : va_D A [(h0, .inr (9, [.null, .null, v0, v1])), (n1, .inr (7, [.null, .int 0, .int 0, .int 0, .int 0, .int 0]))] := hD
  refine lv_dup hx hb dX9_init_8 rfl ?_
  refine kc_v (va_runIN (As := []) (rest := [.ref n1, .ref h0]) ⟨hx, hb, hml, hown, hB⟩ (c3_X7_init l D ty H.size n1 (.int 0) (.int 0) (.int 0) (.int 0) (.int 0)) ⟨va_cnB 0 hB (bw_c mw_20) rfl rfl rfl hK.2.2.1 (hB _ mw_12) (by decide +kernel) ⟨Nat.le_of_ble_eq_true rfl, Nat.le_of_ble_eq_true rfl⟩, rfl, hB _ mw_21⟩ (kp_S hK hP hD [1] (by decide) rfl) rfl rfl hl.1 rfl (lv_room (Nat.le_of_ble_eq_true rfl)) dX9_init_9 ⟨Nat.le_of_ble_eq_true rfl, Nat.le_of_ble_eq_true rfl⟩) hP hD hS hA [1] [0] (wr := [(h0, .inr (9, [.null, .null, v0, v1]))]) rfl rfl (by decide) (by decide) (fun u H locs w2 hP hD hS => ?_)
  obtain ⟨q3, rfl⟩ := w2
  refine W.widen (k := 2) (n := 6) (by omega) (by omega) ?_
  have hP : va_P D vwCl [(h0, .inr (9, [.null, .null, v0, v1])), (n1, .inr (7, [.ref (q3 0), .int 0, .int 0, .int 0, .int 0, .int 0])), ((q3 0), .inl (ty 0, 0, .inl (kf 0)))] H := hP
  have hD : va_D A [(h0, .inr (9, [.null, .null, v0, v1])), (n1, .inr (7, [.ref (q3 0), .int 0, .int 0, .int 0, .int 0, .int 0])), ((q3 0), .inl (ty 0, 0, .inl (kf 0)))] := hD
  refine wy_putF (D := D) (ci := 9) (v := .ref n1) (fty := (.object "OneWays$Tokens")) (C := RX9) (T := TX9) (N := 4) hx hb hB inB_X9 tyX9 tyX9_ok nmX9 hown hK hP hD hS 0 rfl rfl 0 (by decide) mw_22 (fun _ h9 => h9) rfl hin rfl (by decide +kernel) rfl rfl (Nat.le_of_ble_eq_true rfl) dX9_init_12 (ws' := [(h0, .inr (9, [.ref n1, .null, v0, v1])), (n1, .inr (7, [.ref (q3 0), .int 0, .int 0, .int 0, .int 0, .int 0])), ((q3 0), .inl (ty 0, 0, .inl (kf 0)))]) rfl (fun H locs hP hD hS => ?_)
  refine lv_aload_n hx hb dX9_init_15 rfl (lv_at hl 0 rfl) ?_
  refine va_new (ci := 8) (fs := [.int 0, .int 0, .int 0, .int 0, .int 0, .int 0, .null, .null, .null, .null, .int 0, .int 0, .null, .null, .null, .null, .null, .int 0]) (C := RX8) (T := TX8) (N := 18) hx hb hB inB_X8 tyX8 tyX8_ok hown (hB _ mw_23) (hB _ mw_24) (hB _ mw_25) hK.1 hP hD hS hA rfl df_X8 (Nat.le_of_ble_eq_true rfl) (Nat.le_of_ble_eq_true rfl) dX9_init_16 (fun n4 H hP hD hS => ?_)
  refine W.widen (k := 3) (n := 24) (by omega) (by omega) ?_
  have hP : va_P D vwCl [(h0, .inr (9, [.ref n1, .null, v0, v1])), (n1, .inr (7, [.ref (q3 0), .int 0, .int 0, .int 0, .int 0, .int 0])), ((q3 0), .inl (ty 0, 0, .inl (kf 0))), (n4, .inr (8, [.int 0, .int 0, .int 0, .int 0, .int 0, .int 0, .null, .null, .null, .null, .int 0, .int 0, .null, .null, .null, .null, .null, .int 0]))] H := hP
  have hD : va_D A [(h0, .inr (9, [.ref n1, .null, v0, v1])), (n1, .inr (7, [.ref (q3 0), .int 0, .int 0, .int 0, .int 0, .int 0])), ((q3 0), .inl (ty 0, 0, .inl (kf 0))), (n4, .inr (8, [.int 0, .int 0, .int 0, .int 0, .int 0, .int 0, .null, .null, .null, .null, .int 0, .int 0, .null, .null, .null, .null, .null, .int 0]))] := hD
  refine lv_dup hx hb dX9_init_19 rfl ?_
  refine kc_v (va_runIN (As := []) (rest := [.ref n4, .ref h0]) ⟨hx, hb, hml, hown, hB⟩ (c4_X8_init l D ty H.size n4 (.int 0) (.int 0) (.int 0) (.int 0) (.int 0) (.int 0) (.int 0) (.int 0) (.int 0)) ⟨va_cnB 0 hB (bw_c mw_66) rfl rfl rfl hK.2.2.2.1 (hB _ mw_25) (by decide +kernel) ⟨Nat.le_of_ble_eq_true rfl, Nat.le_of_ble_eq_true rfl⟩, rfl, hB _ mw_67⟩ (kp_S hK hP hD [3] (by decide) rfl) rfl rfl hl.1 rfl (lv_room (Nat.le_of_ble_eq_true rfl)) dX9_init_20 ⟨Nat.le_of_ble_eq_true rfl, Nat.le_of_ble_eq_true rfl⟩) hP hD hS hA [3] [0, 1, 2] (wr := [(h0, .inr (9, [.ref n1, .null, v0, v1])), (n1, .inr (7, [.ref (q3 0), .int 0, .int 0, .int 0, .int 0, .int 0])), ((q3 0), .inl (ty 0, 0, .inl (kf 0)))]) rfl rfl (by decide) (by decide) (fun u H locs w5 hP hD hS => ?_)
  obtain ⟨q6, rfl⟩ := w5
  refine W.widen (k := 17) (n := 545) (by omega) (by omega) ?_
  have hP : va_P D vwCl [(h0, .inr (9, [.ref n1, .null, v0, v1])), (n1, .inr (7, [.ref (q3 0), .int 0, .int 0, .int 0, .int 0, .int 0])), ((q3 0), .inl (ty 0, 0, .inl (kf 0))), (n4, .inr (8, [.int 0, .int 2, .int 0, .int (-1), .int 0, .int 0, .ref (q6 0), .ref (q6 1), .ref (q6 2), .ref (q6 3), .int 0, .int 0, .ref (q6 4), .ref (q6 8), .ref (q6 11), .ref (q6 12), .ref (q6 13), .int 0])), ((q6 0), .inl (ty 1, 28, .inl (kf 0))), ((q6 1), .inl (ty 1, 28, .inl (kf 0))), ((q6 2), .inl (ty 1, 28, .inl (kf 0))), ((q6 3), .inl (ty 1, 28, .inl (kf 0))), ((q6 4), .inr (1, [.int 0, .ref (q6 5), .ref (q6 6), .ref (q6 7)])), ((q6 5), .inl (ty 1, 10, .inl (kf 0))), ((q6 6), .inl (ty 1, 10, .inl (kf 0))), ((q6 7), .inl (ty 1, 10, .inl (kf 0))), ((q6 8), .inr (6, [.int 0, .int 0, .ref (q6 9), .ref (q6 10)])), ((q6 9), .inl (ty 1, 6, .inl (kf 0))), ((q6 10), .inl (ty 1, 36, .inl (kf 0))), ((q6 11), .inl (ty 1, 17, .inl (kf 0))), ((q6 12), .inl (ty 1, 56, .inl (kf 0))), ((q6 13), .inl (ty 1, 256, .inl (kf 0)))] H := hP
  have hD : va_D A [(h0, .inr (9, [.ref n1, .null, v0, v1])), (n1, .inr (7, [.ref (q3 0), .int 0, .int 0, .int 0, .int 0, .int 0])), ((q3 0), .inl (ty 0, 0, .inl (kf 0))), (n4, .inr (8, [.int 0, .int 2, .int 0, .int (-1), .int 0, .int 0, .ref (q6 0), .ref (q6 1), .ref (q6 2), .ref (q6 3), .int 0, .int 0, .ref (q6 4), .ref (q6 8), .ref (q6 11), .ref (q6 12), .ref (q6 13), .int 0])), ((q6 0), .inl (ty 1, 28, .inl (kf 0))), ((q6 1), .inl (ty 1, 28, .inl (kf 0))), ((q6 2), .inl (ty 1, 28, .inl (kf 0))), ((q6 3), .inl (ty 1, 28, .inl (kf 0))), ((q6 4), .inr (1, [.int 0, .ref (q6 5), .ref (q6 6), .ref (q6 7)])), ((q6 5), .inl (ty 1, 10, .inl (kf 0))), ((q6 6), .inl (ty 1, 10, .inl (kf 0))), ((q6 7), .inl (ty 1, 10, .inl (kf 0))), ((q6 8), .inr (6, [.int 0, .int 0, .ref (q6 9), .ref (q6 10)])), ((q6 9), .inl (ty 1, 6, .inl (kf 0))), ((q6 10), .inl (ty 1, 36, .inl (kf 0))), ((q6 11), .inl (ty 1, 17, .inl (kf 0))), ((q6 12), .inl (ty 1, 56, .inl (kf 0))), ((q6 13), .inl (ty 1, 256, .inl (kf 0)))] := hD
  refine wy_put (D := D) (ci := 9) (v := .ref n4) (fty := (.object "OneWays$Town")) (C := RX9) (T := TX9) (N := 4) hx hb hB inB_X9 tyX9 tyX9_ok nmX9 hown hK hP hD hS 0 rfl rfl 1 (by decide) mw_68 (fun _ h9 => h9) rfl (by decide +kernel) rfl rfl (Nat.le_of_ble_eq_true rfl) dX9_init_23 (ws' := [(h0, .inr (9, [.ref n1, .ref n4, v0, v1])), (n1, .inr (7, [.ref (q3 0), .int 0, .int 0, .int 0, .int 0, .int 0])), ((q3 0), .inl (ty 0, 0, .inl (kf 0))), (n4, .inr (8, [.int 0, .int 2, .int 0, .int (-1), .int 0, .int 0, .ref (q6 0), .ref (q6 1), .ref (q6 2), .ref (q6 3), .int 0, .int 0, .ref (q6 4), .ref (q6 8), .ref (q6 11), .ref (q6 12), .ref (q6 13), .int 0])), ((q6 0), .inl (ty 1, 28, .inl (kf 0))), ((q6 1), .inl (ty 1, 28, .inl (kf 0))), ((q6 2), .inl (ty 1, 28, .inl (kf 0))), ((q6 3), .inl (ty 1, 28, .inl (kf 0))), ((q6 4), .inr (1, [.int 0, .ref (q6 5), .ref (q6 6), .ref (q6 7)])), ((q6 5), .inl (ty 1, 10, .inl (kf 0))), ((q6 6), .inl (ty 1, 10, .inl (kf 0))), ((q6 7), .inl (ty 1, 10, .inl (kf 0))), ((q6 8), .inr (6, [.int 0, .int 0, .ref (q6 9), .ref (q6 10)])), ((q6 9), .inl (ty 1, 6, .inl (kf 0))), ((q6 10), .inl (ty 1, 36, .inl (kf 0))), ((q6 11), .inl (ty 1, 17, .inl (kf 0))), ((q6 12), .inl (ty 1, 56, .inl (kf 0))), ((q6 13), .inl (ty 1, 256, .inl (kf 0)))]) rfl (fun H locs hP hD hS => ?_)
  refine lv_aload_n hx hb dX9_init_26 rfl (lv_at hl 0 rfl) ?_
  refine lv_iconst (v := 0) hx hb dX9_init_27 (by decide) ?_
  refine wy_put (D := D) (ci := 9) (v := .int 0) (fty := .int) (C := RX9) (T := TX9) (N := 4) hx hb hB inB_X9 tyX9 tyX9_ok nmX9 hown hK hP hD hS 0 rfl rfl 2 (by decide) mw_69 (fun _ h9 => h9) rfl (by decide +kernel) rfl rfl (Nat.le_of_ble_eq_true rfl) dX9_init_28 (ws' := [(h0, .inr (9, [.ref n1, .ref n4, .int 0, v1])), (n1, .inr (7, [.ref (q3 0), .int 0, .int 0, .int 0, .int 0, .int 0])), ((q3 0), .inl (ty 0, 0, .inl (kf 0))), (n4, .inr (8, [.int 0, .int 2, .int 0, .int (-1), .int 0, .int 0, .ref (q6 0), .ref (q6 1), .ref (q6 2), .ref (q6 3), .int 0, .int 0, .ref (q6 4), .ref (q6 8), .ref (q6 11), .ref (q6 12), .ref (q6 13), .int 0])), ((q6 0), .inl (ty 1, 28, .inl (kf 0))), ((q6 1), .inl (ty 1, 28, .inl (kf 0))), ((q6 2), .inl (ty 1, 28, .inl (kf 0))), ((q6 3), .inl (ty 1, 28, .inl (kf 0))), ((q6 4), .inr (1, [.int 0, .ref (q6 5), .ref (q6 6), .ref (q6 7)])), ((q6 5), .inl (ty 1, 10, .inl (kf 0))), ((q6 6), .inl (ty 1, 10, .inl (kf 0))), ((q6 7), .inl (ty 1, 10, .inl (kf 0))), ((q6 8), .inr (6, [.int 0, .int 0, .ref (q6 9), .ref (q6 10)])), ((q6 9), .inl (ty 1, 6, .inl (kf 0))), ((q6 10), .inl (ty 1, 36, .inl (kf 0))), ((q6 11), .inl (ty 1, 17, .inl (kf 0))), ((q6 12), .inl (ty 1, 56, .inl (kf 0))), ((q6 13), .inl (ty 1, 256, .inl (kf 0)))]) rfl (fun H locs hP hD hS => ?_)
  refine lv_aload_n hx hb dX9_init_31 rfl (lv_at hl 0 rfl) ?_
  refine lv_iconst (v := (-1)) hx hb dX9_init_32 (by decide) ?_
  refine wy_put (D := D) (ci := 9) (v := .int (-1)) (fty := .int) (C := RX9) (T := TX9) (N := 4) hx hb hB inB_X9 tyX9 tyX9_ok nmX9 hown hK hP hD hS 0 rfl rfl 3 (by decide) mw_70 (fun _ h9 => h9) rfl (by decide +kernel) rfl rfl (Nat.le_of_ble_eq_true rfl) dX9_init_33 (ws' := [(h0, .inr (9, [.ref n1, .ref n4, .int 0, .int (-1)])), (n1, .inr (7, [.ref (q3 0), .int 0, .int 0, .int 0, .int 0, .int 0])), ((q3 0), .inl (ty 0, 0, .inl (kf 0))), (n4, .inr (8, [.int 0, .int 2, .int 0, .int (-1), .int 0, .int 0, .ref (q6 0), .ref (q6 1), .ref (q6 2), .ref (q6 3), .int 0, .int 0, .ref (q6 4), .ref (q6 8), .ref (q6 11), .ref (q6 12), .ref (q6 13), .int 0])), ((q6 0), .inl (ty 1, 28, .inl (kf 0))), ((q6 1), .inl (ty 1, 28, .inl (kf 0))), ((q6 2), .inl (ty 1, 28, .inl (kf 0))), ((q6 3), .inl (ty 1, 28, .inl (kf 0))), ((q6 4), .inr (1, [.int 0, .ref (q6 5), .ref (q6 6), .ref (q6 7)])), ((q6 5), .inl (ty 1, 10, .inl (kf 0))), ((q6 6), .inl (ty 1, 10, .inl (kf 0))), ((q6 7), .inl (ty 1, 10, .inl (kf 0))), ((q6 8), .inr (6, [.int 0, .int 0, .ref (q6 9), .ref (q6 10)])), ((q6 9), .inl (ty 1, 6, .inl (kf 0))), ((q6 10), .inl (ty 1, 36, .inl (kf 0))), ((q6 11), .inl (ty 1, 17, .inl (kf 0))), ((q6 12), .inl (ty 1, 56, .inl (kf 0))), ((q6 13), .inl (ty 1, 256, .inl (kf 0)))]) rfl (fun H locs hP hD hS => ?_)
  exact kr_v hx hb hr hlocks hP hD hS [(h0, .inr (9, [.ref n1, .ref n4, .int 0, .int (-1)])), (n1, .inr (7, [.ref (q3 0), .int 0, .int 0, .int 0, .int 0, .int 0])), ((q3 0), .inl (ty 0, 0, .inl (kf 0))), (n4, .inr (8, [.int 0, .int 2, .int 0, .int (-1), .int 0, .int 0, .ref (q6 0), .ref (q6 1), .ref (q6 2), .ref (q6 3), .int 0, .int 0, .ref (q6 4), .ref (q6 8), .ref (q6 11), .ref (q6 12), .ref (q6 13), .int 0])), ((q6 0), .inl (ty 1, 28, .inl (kf 0))), ((q6 1), .inl (ty 1, 28, .inl (kf 0))), ((q6 2), .inl (ty 1, 28, .inl (kf 0))), ((q6 3), .inl (ty 1, 28, .inl (kf 0))), ((q6 4), .inr (1, [.int 0, .ref (q6 5), .ref (q6 6), .ref (q6 7)])), ((q6 5), .inl (ty 1, 10, .inl (kf 0))), ((q6 6), .inl (ty 1, 10, .inl (kf 0))), ((q6 7), .inl (ty 1, 10, .inl (kf 0))), ((q6 8), .inr (6, [.int 0, .int 0, .ref (q6 9), .ref (q6 10)])), ((q6 9), .inl (ty 1, 6, .inl (kf 0))), ((q6 10), .inl (ty 1, 36, .inl (kf 0))), ((q6 11), .inl (ty 1, 17, .inl (kf 0))), ((q6 12), .inl (ty 1, 56, .inl (kf 0))), ((q6 13), .inl (ty 1, 256, .inl (kf 0)))] [0, 1, 2, 3, 4, 5, 6, 7, 8, 9, 10, 11, 12, 13, 14, 15, 16, 17] (by decide) rfl ⟨(fun k => [n1, (q3 0), n4, (q6 0), (q6 1), (q6 2), (q6 3), (q6 4), (q6 5), (q6 6), (q6 7), (q6 8), (q6 9), (q6 10), (q6 11), (q6 12), (q6 13)].getD k 0), rfl⟩ (by decide) (by decide) dX9_init_36
set_option maxHeartbeats 4000000 in
set_option maxRecDepth 100000 in
theorem c7_X5_init (l : Launch) (D : va_G) (ty : Nat → ClassId) (sz : Nat) (h0 : Nat) (v0 : Value) : cQ l yX5_init cX5_init 1 none 3 60 [.ref h0] D ty [(h0, .inr (5, [.null, .null, v0]))] sz (qV (fun (u : va_W) => ∃ q : Nat → Nat, [(h0, .inr (5, [.ref (q 0), .ref (q 15), .int 0])), ((q 0), .inr (8, [.int 0, .int 2, .int 0, .int (-1), .int 0, .int 0, .ref (q 1), .ref (q 2), .ref (q 3), .ref (q 4), .int 0, .int 0, .ref (q 5), .ref (q 9), .ref (q 12), .ref (q 13), .ref (q 14), .int 0])), ((q 1), .inl (ty 1, 28, .inl (kf 0))), ((q 2), .inl (ty 1, 28, .inl (kf 0))), ((q 3), .inl (ty 1, 28, .inl (kf 0))), ((q 4), .inl (ty 1, 28, .inl (kf 0))), ((q 5), .inr (1, [.int 0, .ref (q 6), .ref (q 7), .ref (q 8)])), ((q 6), .inl (ty 1, 10, .inl (kf 0))), ((q 7), .inl (ty 1, 10, .inl (kf 0))), ((q 8), .inl (ty 1, 10, .inl (kf 0))), ((q 9), .inr (6, [.int 0, .int 0, .ref (q 10), .ref (q 11)])), ((q 10), .inl (ty 1, 6, .inl (kf 0))), ((q 11), .inl (ty 1, 36, .inl (kf 0))), ((q 12), .inl (ty 1, 17, .inl (kf 0))), ((q 13), .inl (ty 1, 56, .inl (kf 0))), ((q 14), .inl (ty 1, 256, .inl (kf 0))), ((q 15), .inl (ty 6, 2, .inr (.inr (.inr (.inr (wy2 (q 16) (q 17))))))), ((q 16), .inl (ty 1, 28, .inl (kf 0))), ((q 17), .inl (ty 1, 28, .inl (kf 0)))] = u)) 18 597 := by
  refine cQ.of (by decide) (Nat.le_of_ble_eq_true rfl) (fun p e s m below meth c A ls C hsz hP hK hD hA hl => ?_)
  obtain ⟨hx, hb, hml, hown, hB, hr, hlocks, hin⟩ := C
  have hown : s.vm.findClass RX5 = some m.cls := hown
  have hS : va_S A s.heap s.heap [] := va_S.rf
  have hl : lv_has ls 1 [(0, .ref h0)] := hl
  have hin : meth.name = "<init>" := hin
  refine lv_aload_n hx hb dX5_init_0 rfl (lv_at hl 0 rfl) ?_
  refine W.objInit hx hb hown (hB _ mw_77) (hB _ mw_1) (hB _ mw_2) rfl (by rw [hml]; exact hl.1) rfl dX5_init_1 (Nat.le_of_ble_eq_true rfl) (Nat.le_of_ble_eq_true rfl) ?_
  refine W.eq (g2 := F0 m 4 ls []) rfl ?_
  refine lv_aload_n hx hb dX5_init_4 rfl (lv_at hl 0 rfl) ?_
  refine va_new (ci := 8) (fs := [.int 0, .int 0, .int 0, .int 0, .int 0, .int 0, .null, .null, .null, .null, .int 0, .int 0, .null, .null, .null, .null, .null, .int 0]) (C := RX8) (T := TX8) (N := 18) hx hb hB inB_X8 tyX8 tyX8_ok hown (hB _ mw_78) (hB _ mw_24) (hB _ mw_25) hK.1 hP hD hS hA rfl df_X8 (Nat.le_of_ble_eq_true rfl) (Nat.le_of_ble_eq_true rfl) dX5_init_5 (fun n1 H hP hD hS => ?_)
  refine W.widen (k := 1) (n := 18) (by omega) (by omega) ?_
  have hP : va_P D vwCl [(h0, .inr (5, [.null, .null, v0])), (n1, .inr (8, [.int 0, .int 0, .int 0, .int 0, .int 0, .int 0, .null, .null, .null, .null, .int 0, .int 0, .null, .null, .null, .null, .null, .int 0]))] H := hP
  have hD : va_D A [(h0, .inr (5, [.null, .null, v0])), (n1, .inr (8, [.int 0, .int 0, .int 0, .int 0, .int 0, .int 0, .null, .null, .null, .null, .int 0, .int 0, .null, .null, .null, .null, .null, .int 0]))] := hD
  refine lv_dup hx hb dX5_init_8 rfl ?_
  refine kc_v (va_runIN (As := []) (rest := [.ref n1, .ref h0]) ⟨hx, hb, hml, hown, hB⟩ (c4_X8_init l D ty H.size n1 (.int 0) (.int 0) (.int 0) (.int 0) (.int 0) (.int 0) (.int 0) (.int 0) (.int 0)) ⟨va_cnB 0 hB (bw_c mw_66) rfl rfl rfl hK.2.2.2.2.2.2.2.1 (hB _ mw_25) (by decide +kernel) ⟨Nat.le_of_ble_eq_true rfl, Nat.le_of_ble_eq_true rfl⟩, rfl, hB _ mw_67⟩ (kp_S hK hP hD [1] (by decide) rfl) rfl rfl hl.1 rfl (lv_room (Nat.le_of_ble_eq_true rfl)) dX5_init_9 ⟨Nat.le_of_ble_eq_true rfl, Nat.le_of_ble_eq_true rfl⟩) hP hD hS hA [1] [0] (wr := [(h0, .inr (5, [.null, .null, v0]))]) rfl rfl (by decide) (by decide) (fun u H locs w2 hP hD hS => ?_)
  obtain ⟨q3, rfl⟩ := w2
  refine W.widen (k := 15) (n := 539) (by omega) (by omega) ?_
  have hP : va_P D vwCl [(h0, .inr (5, [.null, .null, v0])), (n1, .inr (8, [.int 0, .int 2, .int 0, .int (-1), .int 0, .int 0, .ref (q3 0), .ref (q3 1), .ref (q3 2), .ref (q3 3), .int 0, .int 0, .ref (q3 4), .ref (q3 8), .ref (q3 11), .ref (q3 12), .ref (q3 13), .int 0])), ((q3 0), .inl (ty 1, 28, .inl (kf 0))), ((q3 1), .inl (ty 1, 28, .inl (kf 0))), ((q3 2), .inl (ty 1, 28, .inl (kf 0))), ((q3 3), .inl (ty 1, 28, .inl (kf 0))), ((q3 4), .inr (1, [.int 0, .ref (q3 5), .ref (q3 6), .ref (q3 7)])), ((q3 5), .inl (ty 1, 10, .inl (kf 0))), ((q3 6), .inl (ty 1, 10, .inl (kf 0))), ((q3 7), .inl (ty 1, 10, .inl (kf 0))), ((q3 8), .inr (6, [.int 0, .int 0, .ref (q3 9), .ref (q3 10)])), ((q3 9), .inl (ty 1, 6, .inl (kf 0))), ((q3 10), .inl (ty 1, 36, .inl (kf 0))), ((q3 11), .inl (ty 1, 17, .inl (kf 0))), ((q3 12), .inl (ty 1, 56, .inl (kf 0))), ((q3 13), .inl (ty 1, 256, .inl (kf 0)))] H := hP
  have hD : va_D A [(h0, .inr (5, [.null, .null, v0])), (n1, .inr (8, [.int 0, .int 2, .int 0, .int (-1), .int 0, .int 0, .ref (q3 0), .ref (q3 1), .ref (q3 2), .ref (q3 3), .int 0, .int 0, .ref (q3 4), .ref (q3 8), .ref (q3 11), .ref (q3 12), .ref (q3 13), .int 0])), ((q3 0), .inl (ty 1, 28, .inl (kf 0))), ((q3 1), .inl (ty 1, 28, .inl (kf 0))), ((q3 2), .inl (ty 1, 28, .inl (kf 0))), ((q3 3), .inl (ty 1, 28, .inl (kf 0))), ((q3 4), .inr (1, [.int 0, .ref (q3 5), .ref (q3 6), .ref (q3 7)])), ((q3 5), .inl (ty 1, 10, .inl (kf 0))), ((q3 6), .inl (ty 1, 10, .inl (kf 0))), ((q3 7), .inl (ty 1, 10, .inl (kf 0))), ((q3 8), .inr (6, [.int 0, .int 0, .ref (q3 9), .ref (q3 10)])), ((q3 9), .inl (ty 1, 6, .inl (kf 0))), ((q3 10), .inl (ty 1, 36, .inl (kf 0))), ((q3 11), .inl (ty 1, 17, .inl (kf 0))), ((q3 12), .inl (ty 1, 56, .inl (kf 0))), ((q3 13), .inl (ty 1, 256, .inl (kf 0)))] := hD
  refine wy_put (D := D) (ci := 5) (v := .ref n1) (fty := (.object "OneWays$Town")) (C := RX5) (T := TX5) (N := 3) hx hb hB inB_X5 tyX5 tyX5_ok nmX5 hown hK hP hD hS 0 rfl rfl 0 (by decide) mw_79 (fun _ h9 => h9) rfl (by decide +kernel) rfl rfl (Nat.le_of_ble_eq_true rfl) dX5_init_12 (ws' := [(h0, .inr (5, [.ref n1, .null, v0])), (n1, .inr (8, [.int 0, .int 2, .int 0, .int (-1), .int 0, .int 0, .ref (q3 0), .ref (q3 1), .ref (q3 2), .ref (q3 3), .int 0, .int 0, .ref (q3 4), .ref (q3 8), .ref (q3 11), .ref (q3 12), .ref (q3 13), .int 0])), ((q3 0), .inl (ty 1, 28, .inl (kf 0))), ((q3 1), .inl (ty 1, 28, .inl (kf 0))), ((q3 2), .inl (ty 1, 28, .inl (kf 0))), ((q3 3), .inl (ty 1, 28, .inl (kf 0))), ((q3 4), .inr (1, [.int 0, .ref (q3 5), .ref (q3 6), .ref (q3 7)])), ((q3 5), .inl (ty 1, 10, .inl (kf 0))), ((q3 6), .inl (ty 1, 10, .inl (kf 0))), ((q3 7), .inl (ty 1, 10, .inl (kf 0))), ((q3 8), .inr (6, [.int 0, .int 0, .ref (q3 9), .ref (q3 10)])), ((q3 9), .inl (ty 1, 6, .inl (kf 0))), ((q3 10), .inl (ty 1, 36, .inl (kf 0))), ((q3 11), .inl (ty 1, 17, .inl (kf 0))), ((q3 12), .inl (ty 1, 56, .inl (kf 0))), ((q3 13), .inl (ty 1, 256, .inl (kf 0)))]) rfl (fun H locs hP hD hS => ?_)
  refine lv_aload_n hx hb dX5_init_15 rfl (lv_at hl 0 rfl) ?_
  refine lv_iconst (v := 2) hx hb dX5_init_16 (by decide) ?_
  refine lv_bipush (v := 28) hx hb dX5_init_17 (by decide) ?_
  refine va_mn2 hx hb hown (hB _ mw_80) hK.1 6 1 rfl rfl hK.2.2.2.2.2.2.2.2.2.2.2.2 hP hD hS hA (Nat.le_of_ble_eq_true rfl) (Nat.le_of_ble_eq_true rfl) dX5_init_19 (fun n4 n4a n4b H hP hD hS => ?_)
  refine W.widen (k := 18) (n := 597) (by omega) (by omega) ?_
  have hP : va_P D vwCl [(h0, .inr (5, [.ref n1, .null, v0])), (n1, .inr (8, [.int 0, .int 2, .int 0, .int (-1), .int 0, .int 0, .ref (q3 0), .ref (q3 1), .ref (q3 2), .ref (q3 3), .int 0, .int 0, .ref (q3 4), .ref (q3 8), .ref (q3 11), .ref (q3 12), .ref (q3 13), .int 0])), ((q3 0), .inl (ty 1, 28, .inl (kf 0))), ((q3 1), .inl (ty 1, 28, .inl (kf 0))), ((q3 2), .inl (ty 1, 28, .inl (kf 0))), ((q3 3), .inl (ty 1, 28, .inl (kf 0))), ((q3 4), .inr (1, [.int 0, .ref (q3 5), .ref (q3 6), .ref (q3 7)])), ((q3 5), .inl (ty 1, 10, .inl (kf 0))), ((q3 6), .inl (ty 1, 10, .inl (kf 0))), ((q3 7), .inl (ty 1, 10, .inl (kf 0))), ((q3 8), .inr (6, [.int 0, .int 0, .ref (q3 9), .ref (q3 10)])), ((q3 9), .inl (ty 1, 6, .inl (kf 0))), ((q3 10), .inl (ty 1, 36, .inl (kf 0))), ((q3 11), .inl (ty 1, 17, .inl (kf 0))), ((q3 12), .inl (ty 1, 56, .inl (kf 0))), ((q3 13), .inl (ty 1, 256, .inl (kf 0))), (n4, .inl (ty 6, 2, .inr (.inr (.inr (.inr (wy2 n4a n4b)))))), (n4a, .inl (ty 1, 28, .inl (kf 0))), (n4b, .inl (ty 1, 28, .inl (kf 0)))] H := hP
  have hD : va_D A [(h0, .inr (5, [.ref n1, .null, v0])), (n1, .inr (8, [.int 0, .int 2, .int 0, .int (-1), .int 0, .int 0, .ref (q3 0), .ref (q3 1), .ref (q3 2), .ref (q3 3), .int 0, .int 0, .ref (q3 4), .ref (q3 8), .ref (q3 11), .ref (q3 12), .ref (q3 13), .int 0])), ((q3 0), .inl (ty 1, 28, .inl (kf 0))), ((q3 1), .inl (ty 1, 28, .inl (kf 0))), ((q3 2), .inl (ty 1, 28, .inl (kf 0))), ((q3 3), .inl (ty 1, 28, .inl (kf 0))), ((q3 4), .inr (1, [.int 0, .ref (q3 5), .ref (q3 6), .ref (q3 7)])), ((q3 5), .inl (ty 1, 10, .inl (kf 0))), ((q3 6), .inl (ty 1, 10, .inl (kf 0))), ((q3 7), .inl (ty 1, 10, .inl (kf 0))), ((q3 8), .inr (6, [.int 0, .int 0, .ref (q3 9), .ref (q3 10)])), ((q3 9), .inl (ty 1, 6, .inl (kf 0))), ((q3 10), .inl (ty 1, 36, .inl (kf 0))), ((q3 11), .inl (ty 1, 17, .inl (kf 0))), ((q3 12), .inl (ty 1, 56, .inl (kf 0))), ((q3 13), .inl (ty 1, 256, .inl (kf 0))), (n4, .inl (ty 6, 2, .inr (.inr (.inr (.inr (wy2 n4a n4b)))))), (n4a, .inl (ty 1, 28, .inl (kf 0))), (n4b, .inl (ty 1, 28, .inl (kf 0)))] := hD
  refine wy_putF (D := D) (ci := 5) (v := .ref n4) (fty := (.array (.array .int))) (C := RX5) (T := TX5) (N := 3) hx hb hB inB_X5 tyX5 tyX5_ok nmX5 hown hK hP hD hS 0 rfl rfl 1 (by decide) mw_81 (fun _ h9 => h9) rfl hin rfl (by decide +kernel) rfl rfl (Nat.le_of_ble_eq_true rfl) dX5_init_23 (ws' := [(h0, .inr (5, [.ref n1, .ref n4, v0])), (n1, .inr (8, [.int 0, .int 2, .int 0, .int (-1), .int 0, .int 0, .ref (q3 0), .ref (q3 1), .ref (q3 2), .ref (q3 3), .int 0, .int 0, .ref (q3 4), .ref (q3 8), .ref (q3 11), .ref (q3 12), .ref (q3 13), .int 0])), ((q3 0), .inl (ty 1, 28, .inl (kf 0))), ((q3 1), .inl (ty 1, 28, .inl (kf 0))), ((q3 2), .inl (ty 1, 28, .inl (kf 0))), ((q3 3), .inl (ty 1, 28, .inl (kf 0))), ((q3 4), .inr (1, [.int 0, .ref (q3 5), .ref (q3 6), .ref (q3 7)])), ((q3 5), .inl (ty 1, 10, .inl (kf 0))), ((q3 6), .inl (ty 1, 10, .inl (kf 0))), ((q3 7), .inl (ty 1, 10, .inl (kf 0))), ((q3 8), .inr (6, [.int 0, .int 0, .ref (q3 9), .ref (q3 10)])), ((q3 9), .inl (ty 1, 6, .inl (kf 0))), ((q3 10), .inl (ty 1, 36, .inl (kf 0))), ((q3 11), .inl (ty 1, 17, .inl (kf 0))), ((q3 12), .inl (ty 1, 56, .inl (kf 0))), ((q3 13), .inl (ty 1, 256, .inl (kf 0))), (n4, .inl (ty 6, 2, .inr (.inr (.inr (.inr (wy2 n4a n4b)))))), (n4a, .inl (ty 1, 28, .inl (kf 0))), (n4b, .inl (ty 1, 28, .inl (kf 0)))]) rfl (fun H locs hP hD hS => ?_)
  refine lv_aload_n hx hb dX5_init_26 rfl (lv_at hl 0 rfl) ?_
  refine lv_iconst (v := 0) hx hb dX5_init_27 (by decide) ?_
  refine wy_put (D := D) (ci := 5) (v := .int 0) (fty := .boolean) (C := RX5) (T := TX5) (N := 3) hx hb hB inB_X5 tyX5 tyX5_ok nmX5 hown hK hP hD hS 0 rfl rfl 2 (by decide) mw_82 (fun _ h9 => h9) rfl (by decide +kernel) rfl rfl (Nat.le_of_ble_eq_true rfl) dX5_init_28 (ws' := [(h0, .inr (5, [.ref n1, .ref n4, .int 0])), (n1, .inr (8, [.int 0, .int 2, .int 0, .int (-1), .int 0, .int 0, .ref (q3 0), .ref (q3 1), .ref (q3 2), .ref (q3 3), .int 0, .int 0, .ref (q3 4), .ref (q3 8), .ref (q3 11), .ref (q3 12), .ref (q3 13), .int 0])), ((q3 0), .inl (ty 1, 28, .inl (kf 0))), ((q3 1), .inl (ty 1, 28, .inl (kf 0))), ((q3 2), .inl (ty 1, 28, .inl (kf 0))), ((q3 3), .inl (ty 1, 28, .inl (kf 0))), ((q3 4), .inr (1, [.int 0, .ref (q3 5), .ref (q3 6), .ref (q3 7)])), ((q3 5), .inl (ty 1, 10, .inl (kf 0))), ((q3 6), .inl (ty 1, 10, .inl (kf 0))), ((q3 7), .inl (ty 1, 10, .inl (kf 0))), ((q3 8), .inr (6, [.int 0, .int 0, .ref (q3 9), .ref (q3 10)])), ((q3 9), .inl (ty 1, 6, .inl (kf 0))), ((q3 10), .inl (ty 1, 36, .inl (kf 0))), ((q3 11), .inl (ty 1, 17, .inl (kf 0))), ((q3 12), .inl (ty 1, 56, .inl (kf 0))), ((q3 13), .inl (ty 1, 256, .inl (kf 0))), (n4, .inl (ty 6, 2, .inr (.inr (.inr (.inr (wy2 n4a n4b)))))), (n4a, .inl (ty 1, 28, .inl (kf 0))), (n4b, .inl (ty 1, 28, .inl (kf 0)))]) rfl (fun H locs hP hD hS => ?_)
  exact kr_v hx hb hr hlocks hP hD hS [(h0, .inr (5, [.ref n1, .ref n4, .int 0])), (n1, .inr (8, [.int 0, .int 2, .int 0, .int (-1), .int 0, .int 0, .ref (q3 0), .ref (q3 1), .ref (q3 2), .ref (q3 3), .int 0, .int 0, .ref (q3 4), .ref (q3 8), .ref (q3 11), .ref (q3 12), .ref (q3 13), .int 0])), ((q3 0), .inl (ty 1, 28, .inl (kf 0))), ((q3 1), .inl (ty 1, 28, .inl (kf 0))), ((q3 2), .inl (ty 1, 28, .inl (kf 0))), ((q3 3), .inl (ty 1, 28, .inl (kf 0))), ((q3 4), .inr (1, [.int 0, .ref (q3 5), .ref (q3 6), .ref (q3 7)])), ((q3 5), .inl (ty 1, 10, .inl (kf 0))), ((q3 6), .inl (ty 1, 10, .inl (kf 0))), ((q3 7), .inl (ty 1, 10, .inl (kf 0))), ((q3 8), .inr (6, [.int 0, .int 0, .ref (q3 9), .ref (q3 10)])), ((q3 9), .inl (ty 1, 6, .inl (kf 0))), ((q3 10), .inl (ty 1, 36, .inl (kf 0))), ((q3 11), .inl (ty 1, 17, .inl (kf 0))), ((q3 12), .inl (ty 1, 56, .inl (kf 0))), ((q3 13), .inl (ty 1, 256, .inl (kf 0))), (n4, .inl (ty 6, 2, .inr (.inr (.inr (.inr (wy2 n4a n4b)))))), (n4a, .inl (ty 1, 28, .inl (kf 0))), (n4b, .inl (ty 1, 28, .inl (kf 0)))] [0, 1, 2, 3, 4, 5, 6, 7, 8, 9, 10, 11, 12, 13, 14, 15, 16, 17, 18] (by decide) rfl ⟨(fun k => [n1, (q3 0), (q3 1), (q3 2), (q3 3), (q3 4), (q3 5), (q3 6), (q3 7), (q3 8), (q3 9), (q3 10), (q3 11), (q3 12), (q3 13), n4, n4a, n4b].getD k 0), rfl⟩ (by decide) (by decide) dX5_init_31
set_option maxHeartbeats 4000000 in
set_option maxRecDepth 100000 in
theorem c8_X2_init (l : Launch) (D : va_G) (ty : Nat → ClassId) (sz : Nat) (h0 : Nat) : cQ l yX2_init cX2_init 1 none 1 20 [.ref h0] D ty [(h0, .inr (2, [.null, .null, .null, .null, .null, .null]))] sz (qV (fun (u : va_W) => ∃ q : Nat → Nat, [(h0, .inr (2, [.ref (q 0), .ref (q 1), .ref (q 2), .ref (q 3), .ref (q 4), .ref (q 5)])), ((q 0), .inl (ty 1, 16, .inl (kf 0))), ((q 1), .inl (ty 1, 256, .inl (kf 0))), ((q 2), .inl (ty 1, 28, .inl (kf 0))), ((q 3), .inl (ty 1, 16, .inl (kf 0))), ((q 4), .inl (ty 1, 16, .inl (kf 0))), ((q 5), .inl (ty 1, 28, .inl (kf 0)))] = u)) 6 360 := by
  refine cQ.of (by decide) (Nat.le_of_ble_eq_true rfl) (fun p e s m below meth c A ls C hsz hP hK hD hA hl => ?_)
  obtain ⟨hx, hb, hml, hown, hB, hr, hlocks, hin⟩ := C
  have hown : s.vm.findClass RX2 = some m.cls := hown
  have hS : va_S A s.heap s.heap [] := va_S.rf
  have hl : lv_has ls 1 [(0, .ref h0)] := hl
  have hin : meth.name = "<init>" := hin
  refine lv_aload_n hx hb dX2_init_0 rfl (lv_at hl 0 rfl) ?_
  refine W.objInit hx hb hown (hB _ mw_93) (hB _ mw_1) (hB _ mw_2) rfl (by rw [hml]; exact hl.1) rfl dX2_init_1 (Nat.le_of_ble_eq_true rfl) (Nat.le_of_ble_eq_true rfl) ?_
  refine W.eq (g2 := F0 m 4 ls []) rfl ?_
  refine lv_aload_n hx hb dX2_init_4 rfl (lv_at hl 0 rfl) ?_
  refine lv_bipush (v := 16) hx hb dX2_init_5 (by decide) ?_
  refine ny_newa (atype := .int) (N' := 16) (a0 := (16, .inl (kf 0))) hx hb (hB _ mw_33) rfl hK 1 rfl (by intro C h; cases h) hP hD hS hA (fun _ => rfl) (by decide) (by decide) (by decide) (Nat.le_of_ble_eq_true rfl) (Nat.le_of_ble_eq_true rfl) dX2_init_7 (fun n1 H hP hD hS => ?_)
  refine W.widen (k := 1) (n := 16) (by omega) (by omega) ?_
  have hP : va_P D vwCl [(h0, .inr (2, [.null, .null, .null, .null, .null, .null])), (n1, .inl (ty 1, 16, .inl (kf 0)))] H := hP
  have hD : va_D A [(h0, .inr (2, [.null, .null, .null, .null, .null, .null])), (n1, .inl (ty 1, 16, .inl (kf 0)))] := hD
  refine wy_putF (D := D) (ci := 2) (v := .ref n1) (fty := (.array .int)) (C := RX2) (T := TX2) (N := 6) hx hb hB inB_X2 tyX2 tyX2_ok nmX2 hown hK hP hD hS 0 rfl rfl 0 (by decide) mw_94 (fun _ h9 => h9) rfl hin rfl (by decide +kernel) rfl rfl (Nat.le_of_ble_eq_true rfl) dX2_init_9 (ws' := [(h0, .inr (2, [.ref n1, .null, .null, .null, .null, .null])), (n1, .inl (ty 1, 16, .inl (kf 0)))]) rfl (fun H locs hP hD hS => ?_)
  refine lv_aload_n hx hb dX2_init_12 rfl (lv_at hl 0 rfl) ?_
  refine lv_sipush (v := 256) hx hb dX2_init_13 (by decide) ?_
  refine ny_newa (atype := .int) (N' := 256) (a0 := (256, .inl (kf 0))) hx hb (hB _ mw_33) rfl hK 1 rfl (by intro C h; cases h) hP hD hS hA (fun _ => rfl) (by decide) (by decide) (by decide) (Nat.le_of_ble_eq_true rfl) (Nat.le_of_ble_eq_true rfl) dX2_init_16 (fun n2 H hP hD hS => ?_)
  refine W.widen (k := 2) (n := 272) (by omega) (by omega) ?_
  have hP : va_P D vwCl [(h0, .inr (2, [.ref n1, .null, .null, .null, .null, .null])), (n1, .inl (ty 1, 16, .inl (kf 0))), (n2, .inl (ty 1, 256, .inl (kf 0)))] H := hP
  have hD : va_D A [(h0, .inr (2, [.ref n1, .null, .null, .null, .null, .null])), (n1, .inl (ty 1, 16, .inl (kf 0))), (n2, .inl (ty 1, 256, .inl (kf 0)))] := hD
  refine wy_putF (D := D) (ci := 2) (v := .ref n2) (fty := (.array .int)) (C := RX2) (T := TX2) (N := 6) hx hb hB inB_X2 tyX2 tyX2_ok nmX2 hown hK hP hD hS 0 rfl rfl 1 (by decide) mw_95 (fun _ h9 => h9) rfl hin rfl (by decide +kernel) rfl rfl (Nat.le_of_ble_eq_true rfl) dX2_init_18 (ws' := [(h0, .inr (2, [.ref n1, .ref n2, .null, .null, .null, .null])), (n1, .inl (ty 1, 16, .inl (kf 0))), (n2, .inl (ty 1, 256, .inl (kf 0)))]) rfl (fun H locs hP hD hS => ?_)
  refine lv_aload_n hx hb dX2_init_21 rfl (lv_at hl 0 rfl) ?_
  refine lv_bipush (v := 28) hx hb dX2_init_22 (by decide) ?_
  refine ny_newa (atype := .int) (N' := 28) (a0 := (28, .inl (kf 0))) hx hb (hB _ mw_33) rfl hK 1 rfl (by intro C h; cases h) hP hD hS hA (fun _ => rfl) (by decide) (by decide) (by decide) (Nat.le_of_ble_eq_true rfl) (Nat.le_of_ble_eq_true rfl) dX2_init_24 (fun n3 H hP hD hS => ?_)
  refine W.widen (k := 3) (n := 300) (by omega) (by omega) ?_
  have hP : va_P D vwCl [(h0, .inr (2, [.ref n1, .ref n2, .null, .null, .null, .null])), (n1, .inl (ty 1, 16, .inl (kf 0))), (n2, .inl (ty 1, 256, .inl (kf 0))), (n3, .inl (ty 1, 28, .inl (kf 0)))] H := hP
  have hD : va_D A [(h0, .inr (2, [.ref n1, .ref n2, .null, .null, .null, .null])), (n1, .inl (ty 1, 16, .inl (kf 0))), (n2, .inl (ty 1, 256, .inl (kf 0))), (n3, .inl (ty 1, 28, .inl (kf 0)))] := hD
  refine wy_putF (D := D) (ci := 2) (v := .ref n3) (fty := (.array .int)) (C := RX2) (T := TX2) (N := 6) hx hb hB inB_X2 tyX2 tyX2_ok nmX2 hown hK hP hD hS 0 rfl rfl 2 (by decide) mw_96 (fun _ h9 => h9) rfl hin rfl (by decide +kernel) rfl rfl (Nat.le_of_ble_eq_true rfl) dX2_init_26 (ws' := [(h0, .inr (2, [.ref n1, .ref n2, .ref n3, .null, .null, .null])), (n1, .inl (ty 1, 16, .inl (kf 0))), (n2, .inl (ty 1, 256, .inl (kf 0))), (n3, .inl (ty 1, 28, .inl (kf 0)))]) rfl (fun H locs hP hD hS => ?_)
  refine lv_aload_n hx hb dX2_init_29 rfl (lv_at hl 0 rfl) ?_
  refine lv_bipush (v := 16) hx hb dX2_init_30 (by decide) ?_
  refine ny_newa (atype := .int) (N' := 16) (a0 := (16, .inl (kf 0))) hx hb (hB _ mw_33) rfl hK 1 rfl (by intro C h; cases h) hP hD hS hA (fun _ => rfl) (by decide) (by decide) (by decide) (Nat.le_of_ble_eq_true rfl) (Nat.le_of_ble_eq_true rfl) dX2_init_32 (fun n4 H hP hD hS => ?_)
  refine W.widen (k := 4) (n := 316) (by omega) (by omega) ?_
  have hP : va_P D vwCl [(h0, .inr (2, [.ref n1, .ref n2, .ref n3, .null, .null, .null])), (n1, .inl (ty 1, 16, .inl (kf 0))), (n2, .inl (ty 1, 256, .inl (kf 0))), (n3, .inl (ty 1, 28, .inl (kf 0))), (n4, .inl (ty 1, 16, .inl (kf 0)))] H := hP
  have hD : va_D A [(h0, .inr (2, [.ref n1, .ref n2, .ref n3, .null, .null, .null])), (n1, .inl (ty 1, 16, .inl (kf 0))), (n2, .inl (ty 1, 256, .inl (kf 0))), (n3, .inl (ty 1, 28, .inl (kf 0))), (n4, .inl (ty 1, 16, .inl (kf 0)))] := hD
  refine wy_putF (D := D) (ci := 2) (v := .ref n4) (fty := (.array .int)) (C := RX2) (T := TX2) (N := 6) hx hb hB inB_X2 tyX2 tyX2_ok nmX2 hown hK hP hD hS 0 rfl rfl 3 (by decide) mw_97 (fun _ h9 => h9) rfl hin rfl (by decide +kernel) rfl rfl (Nat.le_of_ble_eq_true rfl) dX2_init_34 (ws' := [(h0, .inr (2, [.ref n1, .ref n2, .ref n3, .ref n4, .null, .null])), (n1, .inl (ty 1, 16, .inl (kf 0))), (n2, .inl (ty 1, 256, .inl (kf 0))), (n3, .inl (ty 1, 28, .inl (kf 0))), (n4, .inl (ty 1, 16, .inl (kf 0)))]) rfl (fun H locs hP hD hS => ?_)
  refine lv_aload_n hx hb dX2_init_37 rfl (lv_at hl 0 rfl) ?_
  refine lv_bipush (v := 16) hx hb dX2_init_38 (by decide) ?_
  refine ny_newa (atype := .int) (N' := 16) (a0 := (16, .inl (kf 0))) hx hb (hB _ mw_33) rfl hK 1 rfl (by intro C h; cases h) hP hD hS hA (fun _ => rfl) (by decide) (by decide) (by decide) (Nat.le_of_ble_eq_true rfl) (Nat.le_of_ble_eq_true rfl) dX2_init_40 (fun n5 H hP hD hS => ?_)
  refine W.widen (k := 5) (n := 332) (by omega) (by omega) ?_
  have hP : va_P D vwCl [(h0, .inr (2, [.ref n1, .ref n2, .ref n3, .ref n4, .null, .null])), (n1, .inl (ty 1, 16, .inl (kf 0))), (n2, .inl (ty 1, 256, .inl (kf 0))), (n3, .inl (ty 1, 28, .inl (kf 0))), (n4, .inl (ty 1, 16, .inl (kf 0))), (n5, .inl (ty 1, 16, .inl (kf 0)))] H := hP
  have hD : va_D A [(h0, .inr (2, [.ref n1, .ref n2, .ref n3, .ref n4, .null, .null])), (n1, .inl (ty 1, 16, .inl (kf 0))), (n2, .inl (ty 1, 256, .inl (kf 0))), (n3, .inl (ty 1, 28, .inl (kf 0))), (n4, .inl (ty 1, 16, .inl (kf 0))), (n5, .inl (ty 1, 16, .inl (kf 0)))] := hD
  refine wy_putF (D := D) (ci := 2) (v := .ref n5) (fty := (.array .int)) (C := RX2) (T := TX2) (N := 6) hx hb hB inB_X2 tyX2 tyX2_ok nmX2 hown hK hP hD hS 0 rfl rfl 4 (by decide) mw_98 (fun _ h9 => h9) rfl hin rfl (by decide +kernel) rfl rfl (Nat.le_of_ble_eq_true rfl) dX2_init_42 (ws' := [(h0, .inr (2, [.ref n1, .ref n2, .ref n3, .ref n4, .ref n5, .null])), (n1, .inl (ty 1, 16, .inl (kf 0))), (n2, .inl (ty 1, 256, .inl (kf 0))), (n3, .inl (ty 1, 28, .inl (kf 0))), (n4, .inl (ty 1, 16, .inl (kf 0))), (n5, .inl (ty 1, 16, .inl (kf 0)))]) rfl (fun H locs hP hD hS => ?_)
  refine lv_aload_n hx hb dX2_init_45 rfl (lv_at hl 0 rfl) ?_
  refine lv_bipush (v := 28) hx hb dX2_init_46 (by decide) ?_
  refine ny_newa (atype := .int) (N' := 28) (a0 := (28, .inl (kf 0))) hx hb (hB _ mw_33) rfl hK 1 rfl (by intro C h; cases h) hP hD hS hA (fun _ => rfl) (by decide) (by decide) (by decide) (Nat.le_of_ble_eq_true rfl) (Nat.le_of_ble_eq_true rfl) dX2_init_48 (fun n6 H hP hD hS => ?_)
  refine W.widen (k := 6) (n := 360) (by omega) (by omega) ?_
  have hP : va_P D vwCl [(h0, .inr (2, [.ref n1, .ref n2, .ref n3, .ref n4, .ref n5, .null])), (n1, .inl (ty 1, 16, .inl (kf 0))), (n2, .inl (ty 1, 256, .inl (kf 0))), (n3, .inl (ty 1, 28, .inl (kf 0))), (n4, .inl (ty 1, 16, .inl (kf 0))), (n5, .inl (ty 1, 16, .inl (kf 0))), (n6, .inl (ty 1, 28, .inl (kf 0)))] H := hP
  have hD : va_D A [(h0, .inr (2, [.ref n1, .ref n2, .ref n3, .ref n4, .ref n5, .null])), (n1, .inl (ty 1, 16, .inl (kf 0))), (n2, .inl (ty 1, 256, .inl (kf 0))), (n3, .inl (ty 1, 28, .inl (kf 0))), (n4, .inl (ty 1, 16, .inl (kf 0))), (n5, .inl (ty 1, 16, .inl (kf 0))), (n6, .inl (ty 1, 28, .inl (kf 0)))] := hD
  refine wy_putF (D := D) (ci := 2) (v := .ref n6) (fty := (.array .int)) (C := RX2) (T := TX2) (N := 6) hx hb hB inB_X2 tyX2 tyX2_ok nmX2 hown hK hP hD hS 0 rfl rfl 5 (by decide) mw_99 (fun _ h9 => h9) rfl hin rfl (by decide +kernel) rfl rfl (Nat.le_of_ble_eq_true rfl) dX2_init_50 (ws' := [(h0, .inr (2, [.ref n1, .ref n2, .ref n3, .ref n4, .ref n5, .ref n6])), (n1, .inl (ty 1, 16, .inl (kf 0))), (n2, .inl (ty 1, 256, .inl (kf 0))), (n3, .inl (ty 1, 28, .inl (kf 0))), (n4, .inl (ty 1, 16, .inl (kf 0))), (n5, .inl (ty 1, 16, .inl (kf 0))), (n6, .inl (ty 1, 28, .inl (kf 0)))]) rfl (fun H locs hP hD hS => ?_)
  exact kr_v hx hb hr hlocks hP hD hS [(h0, .inr (2, [.ref n1, .ref n2, .ref n3, .ref n4, .ref n5, .ref n6])), (n1, .inl (ty 1, 16, .inl (kf 0))), (n2, .inl (ty 1, 256, .inl (kf 0))), (n3, .inl (ty 1, 28, .inl (kf 0))), (n4, .inl (ty 1, 16, .inl (kf 0))), (n5, .inl (ty 1, 16, .inl (kf 0))), (n6, .inl (ty 1, 28, .inl (kf 0)))] [0, 1, 2, 3, 4, 5, 6] (by decide) rfl ⟨(fun k => [n1, n2, n3, n4, n5, n6].getD k 0), rfl⟩ (by decide) (by decide) dX2_init_53
set_option maxHeartbeats 4000000 in
set_option maxRecDepth 100000 in
theorem c9_X0_init (l : Launch) (D : va_G) (ty : Nat → ClassId) (sz : Nat) (h0 : Nat) (h1 : Nat) : cQ l yX0_init cX0_init 2 none 1 20 [.ref h0, .ref h1] D ty [(h0, .inr (0, [.null, .null]))] sz (qV (fun (u : va_W) => ∃ q : Nat → Nat, [(h0, .inr (0, [.ref h1, .ref (q 0)])), ((q 0), .inl (ty 1, 10, .inl (kf 0)))] = u)) 1 10 := by
  refine cQ.of (by decide) (Nat.le_of_ble_eq_true rfl) (fun p e s m below meth c A ls C hsz hP hK hD hA hl => ?_)
  obtain ⟨hx, hb, hml, hown, hB, hr, hlocks, hin⟩ := C
  have hown : s.vm.findClass RX0 = some m.cls := hown
  have hS : va_S A s.heap s.heap [] := va_S.rf
  have hl : lv_has ls 2 [(0, .ref h0), (1, .ref h1)] := hl
  have hin : meth.name = "<init>" := hin
  refine lv_aload_n hx hb dX0_init_0 rfl (lv_at hl 0 rfl) ?_
  refine W.objInit hx hb hown (hB _ mw_106) (hB _ mw_1) (hB _ mw_2) rfl (by rw [hml]; exact hl.1) rfl dX0_init_1 (Nat.le_of_ble_eq_true rfl) (Nat.le_of_ble_eq_true rfl) ?_
  refine W.eq (g2 := F0 m 4 ls []) rfl ?_
  refine lv_aload_n hx hb dX0_init_4 rfl (lv_at hl 0 rfl) ?_
  refine lv_bipush (v := 10) hx hb dX0_init_5 (by decide) ?_
  refine ny_newa (atype := .int) (N' := 10) (a0 := (10, .inl (kf 0))) hx hb (hB _ mw_33) rfl hK 1 rfl (by intro C h; cases h) hP hD hS hA (fun _ => rfl) (by decide) (by decide) (by decide) (Nat.le_of_ble_eq_true rfl) (Nat.le_of_ble_eq_true rfl) dX0_init_7 (fun n1 H hP hD hS => ?_)
  refine W.widen (k := 1) (n := 10) (by omega) (by omega) ?_
  have hP : va_P D vwCl [(h0, .inr (0, [.null, .null])), (n1, .inl (ty 1, 10, .inl (kf 0)))] H := hP
  have hD : va_D A [(h0, .inr (0, [.null, .null])), (n1, .inl (ty 1, 10, .inl (kf 0)))] := hD
  refine wy_putF (D := D) (ci := 0) (v := .ref n1) (fty := (.array .int)) (C := RX0) (T := TX0) (N := 2) hx hb hB inB_X0 tyX0 tyX0_ok nmX0 hown hK hP hD hS 0 rfl rfl 1 (by decide) mw_107 (fun _ h9 => h9) rfl hin rfl (by decide +kernel) rfl rfl (Nat.le_of_ble_eq_true rfl) dX0_init_9 (ws' := [(h0, .inr (0, [.null, .ref n1])), (n1, .inl (ty 1, 10, .inl (kf 0)))]) rfl (fun H locs hP hD hS => ?_)
  refine lv_aload_n hx hb dX0_init_12 rfl (lv_at hl 0 rfl) ?_
  refine lv_aload_n hx hb dX0_init_13 rfl (lv_at hl 1 rfl) ?_
  refine wy_putF (D := D) (ci := 0) (v := .ref h1) (fty := (.object "OneWays$Paths")) (C := RX0) (T := TX0) (N := 2) hx hb hB inB_X0 tyX0 tyX0_ok nmX0 hown hK hP hD hS 0 rfl rfl 0 (by decide) mw_108 (fun _ h9 => h9) rfl hin rfl (by decide +kernel) rfl rfl (Nat.le_of_ble_eq_true rfl) dX0_init_14 (ws' := [(h0, .inr (0, [.ref h1, .ref n1])), (n1, .inl (ty 1, 10, .inl (kf 0)))]) rfl (fun H locs hP hD hS => ?_)
  exact kr_v hx hb hr hlocks hP hD hS [(h0, .inr (0, [.ref h1, .ref n1])), (n1, .inl (ty 1, 10, .inl (kf 0)))] [0, 1] (by decide) rfl ⟨(fun k => [n1].getD k 0), rfl⟩ (by decide) (by decide) dX0_init_17
set_option maxHeartbeats 4000000 in
set_option maxRecDepth 100000 in
theorem c10_X10_init (l : Launch) (D : va_G) (ty : Nat → ClassId) (sz : Nat) (h0 : Nat) (h1 : Nat) : cQ l yX10_init cX10_init 2 none 1 20 [.ref h0, .ref h1] D ty [(h0, .inr (10, [.null]))] sz (qV (fun (u : va_W) => [(h0, .inr (10, [.ref h1]))] = u)) 0 0 := by
  refine cQ.of (by decide) (Nat.le_of_ble_eq_true rfl) (fun p e s m below meth c A ls C hsz hP hK hD hA hl => ?_)
  obtain ⟨hx, hb, hml, hown, hB, hr, hlocks, hin⟩ := C
  have hown : s.vm.findClass RX10 = some m.cls := hown
  have hS : va_S A s.heap s.heap [] := va_S.rf
  have hl : lv_has ls 2 [(0, .ref h0), (1, .ref h1)] := hl
  have hin : meth.name = "<init>" := hin
  refine lv_aload_n hx hb dX10_init_0 rfl (lv_at hl 0 rfl) ?_
  refine W.objInit hx hb hown (hB _ mw_116) (hB _ mw_1) (hB _ mw_2) rfl (by rw [hml]; exact hl.1) rfl dX10_init_1 (Nat.le_of_ble_eq_true rfl) (Nat.le_of_ble_eq_true rfl) ?_
  refine W.eq (g2 := F0 m 4 ls []) rfl ?_
  refine lv_aload_n hx hb dX10_init_4 rfl (lv_at hl 0 rfl) ?_
  refine lv_aload_n hx hb dX10_init_5 rfl (lv_at hl 1 rfl) ?_
  refine wy_putF (D := D) (ci := 10) (v := .ref h1) (fty := (.object "OneWays$Paths")) (C := RX10) (T := TX10) (N := 1) hx hb hB inB_X10 tyX10 tyX10_ok nmX10 hown hK hP hD hS 0 rfl rfl 0 (by decide) mw_117 (fun _ h9 => h9) rfl hin rfl (by decide +kernel) rfl rfl (Nat.le_of_ble_eq_true rfl) dX10_init_6 (ws' := [(h0, .inr (10, [.ref h1]))]) rfl (fun H locs hP hD hS => ?_)
  exact kr_v hx hb hr hlocks hP hD hS [(h0, .inr (10, [.ref h1]))] [0] (by decide) rfl rfl (by decide) (by decide) dX10_init_9
set_option maxHeartbeats 4000000 in
set_option maxRecDepth 100000 in
theorem c11_X3_init (l : Launch) (D : va_G) (ty : Nat → ClassId) (sz : Nat) (h0 : Nat) (h1 : Nat) : cQ l yX3_init cX3_init 2 none 1 20 [.ref h0, .ref h1] D ty [(h0, .inr (3, [.null, .null, .null, .null, .null]))] sz (qV (fun (u : va_W) => ∃ q : Nat → Nat, [(h0, .inr (3, [.ref h1, .ref (q 0), .ref (q 1), .ref (q 2), .ref (q 3)])), ((q 0), .inl (ty 1, 9, .inl (kf 0))), ((q 1), .inl (ty 1, 9, .inl (kf 0))), ((q 2), .inl (ty 1, 512, .inl (kf 0))), ((q 3), .inl (ty 1, 512, .inl (kf 0)))] = u)) 4 1042 := by
  refine cQ.of (by decide) (Nat.le_of_ble_eq_true rfl) (fun p e s m below meth c A ls C hsz hP hK hD hA hl => ?_)
  obtain ⟨hx, hb, hml, hown, hB, hr, hlocks, hin⟩ := C
  have hown : s.vm.findClass RX3 = some m.cls := hown
  have hS : va_S A s.heap s.heap [] := va_S.rf
  have hl : lv_has ls 2 [(0, .ref h0), (1, .ref h1)] := hl
  have hin : meth.name = "<init>" := hin
  refine lv_aload_n hx hb dX3_init_0 rfl (lv_at hl 0 rfl) ?_
  refine W.objInit hx hb hown (hB _ mw_125) (hB _ mw_1) (hB _ mw_2) rfl (by rw [hml]; exact hl.1) rfl dX3_init_1 (Nat.le_of_ble_eq_true rfl) (Nat.le_of_ble_eq_true rfl) ?_
  refine W.eq (g2 := F0 m 4 ls []) rfl ?_
  refine lv_aload_n hx hb dX3_init_4 rfl (lv_at hl 0 rfl) ?_
  refine lv_bipush (v := 9) hx hb dX3_init_5 (by decide) ?_
  refine ny_newa (atype := .int) (N' := 9) (a0 := (9, .inl (kf 0))) hx hb (hB _ mw_33) rfl hK 1 rfl (by intro C h; cases h) hP hD hS hA (fun _ => rfl) (by decide) (by decide) (by decide) (Nat.le_of_ble_eq_true rfl) (Nat.le_of_ble_eq_true rfl) dX3_init_7 (fun n1 H hP hD hS => ?_)
  refine W.widen (k := 1) (n := 9) (by omega) (by omega) ?_
  have hP : va_P D vwCl [(h0, .inr (3, [.null, .null, .null, .null, .null])), (n1, .inl (ty 1, 9, .inl (kf 0)))] H := hP
  have hD : va_D A [(h0, .inr (3, [.null, .null, .null, .null, .null])), (n1, .inl (ty 1, 9, .inl (kf 0)))] := hD
  refine wy_putF (D := D) (ci := 3) (v := .ref n1) (fty := (.array .int)) (C := RX3) (T := TX3) (N := 5) hx hb hB inB_X3 tyX3 tyX3_ok nmX3 hown hK hP hD hS 0 rfl rfl 1 (by decide) mw_126 (fun _ h9 => h9) rfl hin rfl (by decide +kernel) rfl rfl (Nat.le_of_ble_eq_true rfl) dX3_init_9 (ws' := [(h0, .inr (3, [.null, .ref n1, .null, .null, .null])), (n1, .inl (ty 1, 9, .inl (kf 0)))]) rfl (fun H locs hP hD hS => ?_)
  refine lv_aload_n hx hb dX3_init_12 rfl (lv_at hl 0 rfl) ?_
  refine lv_bipush (v := 9) hx hb dX3_init_13 (by decide) ?_
  refine ny_newa (atype := .int) (N' := 9) (a0 := (9, .inl (kf 0))) hx hb (hB _ mw_33) rfl hK 1 rfl (by intro C h; cases h) hP hD hS hA (fun _ => rfl) (by decide) (by decide) (by decide) (Nat.le_of_ble_eq_true rfl) (Nat.le_of_ble_eq_true rfl) dX3_init_15 (fun n2 H hP hD hS => ?_)
  refine W.widen (k := 2) (n := 18) (by omega) (by omega) ?_
  have hP : va_P D vwCl [(h0, .inr (3, [.null, .ref n1, .null, .null, .null])), (n1, .inl (ty 1, 9, .inl (kf 0))), (n2, .inl (ty 1, 9, .inl (kf 0)))] H := hP
  have hD : va_D A [(h0, .inr (3, [.null, .ref n1, .null, .null, .null])), (n1, .inl (ty 1, 9, .inl (kf 0))), (n2, .inl (ty 1, 9, .inl (kf 0)))] := hD
  refine wy_putF (D := D) (ci := 3) (v := .ref n2) (fty := (.array .int)) (C := RX3) (T := TX3) (N := 5) hx hb hB inB_X3 tyX3 tyX3_ok nmX3 hown hK hP hD hS 0 rfl rfl 2 (by decide) mw_127 (fun _ h9 => h9) rfl hin rfl (by decide +kernel) rfl rfl (Nat.le_of_ble_eq_true rfl) dX3_init_17 (ws' := [(h0, .inr (3, [.null, .ref n1, .ref n2, .null, .null])), (n1, .inl (ty 1, 9, .inl (kf 0))), (n2, .inl (ty 1, 9, .inl (kf 0)))]) rfl (fun H locs hP hD hS => ?_)
  refine lv_aload_n hx hb dX3_init_20 rfl (lv_at hl 0 rfl) ?_
  refine lv_sipush (v := 512) hx hb dX3_init_21 (by decide) ?_
  refine ny_newa (atype := .int) (N' := 512) (a0 := (512, .inl (kf 0))) hx hb (hB _ mw_33) rfl hK 1 rfl (by intro C h; cases h) hP hD hS hA (fun _ => rfl) (by decide) (by decide) (by decide) (Nat.le_of_ble_eq_true rfl) (Nat.le_of_ble_eq_true rfl) dX3_init_24 (fun n3 H hP hD hS => ?_)
  refine W.widen (k := 3) (n := 530) (by omega) (by omega) ?_
  have hP : va_P D vwCl [(h0, .inr (3, [.null, .ref n1, .ref n2, .null, .null])), (n1, .inl (ty 1, 9, .inl (kf 0))), (n2, .inl (ty 1, 9, .inl (kf 0))), (n3, .inl (ty 1, 512, .inl (kf 0)))] H := hP
  have hD : va_D A [(h0, .inr (3, [.null, .ref n1, .ref n2, .null, .null])), (n1, .inl (ty 1, 9, .inl (kf 0))), (n2, .inl (ty 1, 9, .inl (kf 0))), (n3, .inl (ty 1, 512, .inl (kf 0)))] := hD
  refine wy_putF (D := D) (ci := 3) (v := .ref n3) (fty := (.array .int)) (C := RX3) (T := TX3) (N := 5) hx hb hB inB_X3 tyX3 tyX3_ok nmX3 hown hK hP hD hS 0 rfl rfl 3 (by decide) mw_128 (fun _ h9 => h9) rfl hin rfl (by decide +kernel) rfl rfl (Nat.le_of_ble_eq_true rfl) dX3_init_26 (ws' := [(h0, .inr (3, [.null, .ref n1, .ref n2, .ref n3, .null])), (n1, .inl (ty 1, 9, .inl (kf 0))), (n2, .inl (ty 1, 9, .inl (kf 0))), (n3, .inl (ty 1, 512, .inl (kf 0)))]) rfl (fun H locs hP hD hS => ?_)
  refine lv_aload_n hx hb dX3_init_29 rfl (lv_at hl 0 rfl) ?_
  refine lv_sipush (v := 512) hx hb dX3_init_30 (by decide) ?_
  refine ny_newa (atype := .int) (N' := 512) (a0 := (512, .inl (kf 0))) hx hb (hB _ mw_33) rfl hK 1 rfl (by intro C h; cases h) hP hD hS hA (fun _ => rfl) (by decide) (by decide) (by decide) (Nat.le_of_ble_eq_true rfl) (Nat.le_of_ble_eq_true rfl) dX3_init_33 (fun n4 H hP hD hS => ?_)
  refine W.widen (k := 4) (n := 1042) (by omega) (by omega) ?_
  have hP : va_P D vwCl [(h0, .inr (3, [.null, .ref n1, .ref n2, .ref n3, .null])), (n1, .inl (ty 1, 9, .inl (kf 0))), (n2, .inl (ty 1, 9, .inl (kf 0))), (n3, .inl (ty 1, 512, .inl (kf 0))), (n4, .inl (ty 1, 512, .inl (kf 0)))] H := hP
  have hD : va_D A [(h0, .inr (3, [.null, .ref n1, .ref n2, .ref n3, .null])), (n1, .inl (ty 1, 9, .inl (kf 0))), (n2, .inl (ty 1, 9, .inl (kf 0))), (n3, .inl (ty 1, 512, .inl (kf 0))), (n4, .inl (ty 1, 512, .inl (kf 0)))] := hD
  refine wy_putF (D := D) (ci := 3) (v := .ref n4) (fty := (.array .int)) (C := RX3) (T := TX3) (N := 5) hx hb hB inB_X3 tyX3 tyX3_ok nmX3 hown hK hP hD hS 0 rfl rfl 4 (by decide) mw_129 (fun _ h9 => h9) rfl hin rfl (by decide +kernel) rfl rfl (Nat.le_of_ble_eq_true rfl) dX3_init_35 (ws' := [(h0, .inr (3, [.null, .ref n1, .ref n2, .ref n3, .ref n4])), (n1, .inl (ty 1, 9, .inl (kf 0))), (n2, .inl (ty 1, 9, .inl (kf 0))), (n3, .inl (ty 1, 512, .inl (kf 0))), (n4, .inl (ty 1, 512, .inl (kf 0)))]) rfl (fun H locs hP hD hS => ?_)
  refine lv_aload_n hx hb dX3_init_38 rfl (lv_at hl 0 rfl) ?_
  refine lv_aload_n hx hb dX3_init_39 rfl (lv_at hl 1 rfl) ?_
  refine wy_putF (D := D) (ci := 3) (v := .ref h1) (fty := (.object "OneWays$Paths")) (C := RX3) (T := TX3) (N := 5) hx hb hB inB_X3 tyX3 tyX3_ok nmX3 hown hK hP hD hS 0 rfl rfl 0 (by decide) mw_130 (fun _ h9 => h9) rfl hin rfl (by decide +kernel) rfl rfl (Nat.le_of_ble_eq_true rfl) dX3_init_40 (ws' := [(h0, .inr (3, [.ref h1, .ref n1, .ref n2, .ref n3, .ref n4])), (n1, .inl (ty 1, 9, .inl (kf 0))), (n2, .inl (ty 1, 9, .inl (kf 0))), (n3, .inl (ty 1, 512, .inl (kf 0))), (n4, .inl (ty 1, 512, .inl (kf 0)))]) rfl (fun H locs hP hD hS => ?_)
  exact kr_v hx hb hr hlocks hP hD hS [(h0, .inr (3, [.ref h1, .ref n1, .ref n2, .ref n3, .ref n4])), (n1, .inl (ty 1, 9, .inl (kf 0))), (n2, .inl (ty 1, 9, .inl (kf 0))), (n3, .inl (ty 1, 512, .inl (kf 0))), (n4, .inl (ty 1, 512, .inl (kf 0)))] [0, 1, 2, 3, 4] (by decide) rfl ⟨(fun k => [n1, n2, n3, n4].getD k 0), rfl⟩ (by decide) (by decide) dX3_init_43
set_option maxHeartbeats 4000000 in
set_option maxRecDepth 100000 in
theorem c12_X4_init (l : Launch) (D : va_G) (ty : Nat → ClassId) (sz : Nat) (h0 : Nat) (v0 : Value) (v1 : Value) : cQ l yX4_init cX4_init 1 none 1 20 [.ref h0] D ty [(h0, .inr (4, [v0, v1, .null]))] sz (qV (fun (u : va_W) => ∃ q : Nat → Nat, [(h0, .inr (4, [.int (-1), .int 0, .ref (q 0)])), ((q 0), .inl (ty 2, 60, .inr (.inl (kj 0))))] = u)) 1 60 := by
  refine cQ.of (by decide) (Nat.le_of_ble_eq_true rfl) (fun p e s m below meth c A ls C hsz hP hK hD hA hl => ?_)
  obtain ⟨hx, hb, hml, hown, hB, hr, hlocks, hin⟩ := C
  have hown : s.vm.findClass RX4 = some m.cls := hown
  have hS : va_S A s.heap s.heap [] := va_S.rf
  have hl : lv_has ls 1 [(0, .ref h0)] := hl
  have hin : meth.name = "<init>" := hin
  refine lv_aload_n hx hb dX4_init_0 rfl (lv_at hl 0 rfl) ?_
  refine W.objInit hx hb hown (hB _ mw_143) (hB _ mw_1) (hB _ mw_2) rfl (by rw [hml]; exact hl.1) rfl dX4_init_1 (Nat.le_of_ble_eq_true rfl) (Nat.le_of_ble_eq_true rfl) ?_
  refine W.eq (g2 := F0 m 4 ls []) rfl ?_
  refine lv_aload_n hx hb dX4_init_4 rfl (lv_at hl 0 rfl) ?_
  refine lv_iconst (v := (-1)) hx hb dX4_init_5 (by decide) ?_
  refine wy_put (D := D) (ci := 4) (v := .int (-1)) (fty := .int) (C := RX4) (T := TX4) (N := 3) hx hb hB inB_X4 tyX4 tyX4_ok nmX4 hown hK hP hD hS 0 rfl rfl 0 (by decide) mw_144 (fun _ h9 => h9) rfl (by decide +kernel) rfl rfl (Nat.le_of_ble_eq_true rfl) dX4_init_6 (ws' := [(h0, .inr (4, [.int (-1), v1, .null]))]) rfl (fun H locs hP hD hS => ?_)
  refine lv_aload_n hx hb dX4_init_9 rfl (lv_at hl 0 rfl) ?_
  refine lv_iconst (v := 0) hx hb dX4_init_10 (by decide) ?_
  refine wy_put (D := D) (ci := 4) (v := .int 0) (fty := .int) (C := RX4) (T := TX4) (N := 3) hx hb hB inB_X4 tyX4 tyX4_ok nmX4 hown hK hP hD hS 0 rfl rfl 1 (by decide) mw_145 (fun _ h9 => h9) rfl (by decide +kernel) rfl rfl (Nat.le_of_ble_eq_true rfl) dX4_init_11 (ws' := [(h0, .inr (4, [.int (-1), .int 0, .null]))]) rfl (fun H locs hP hD hS => ?_)
  refine lv_aload_n hx hb dX4_init_14 rfl (lv_at hl 0 rfl) ?_
  refine lv_bipush (v := 60) hx hb dX4_init_15 (by decide) ?_
  refine ny_newa (atype := .long) (N' := 60) (a0 := (60, .inr (.inl (kj 0)))) hx hb (hB _ mw_146) rfl hK 2 rfl (by intro C h; cases h) hP hD hS hA (fun _ => rfl) (by decide) (by decide) (by decide) (Nat.le_of_ble_eq_true rfl) (Nat.le_of_ble_eq_true rfl) dX4_init_17 (fun n1 H hP hD hS => ?_)
  refine W.widen (k := 1) (n := 60) (by omega) (by omega) ?_
  have hP : va_P D vwCl [(h0, .inr (4, [.int (-1), .int 0, .null])), (n1, .inl (ty 2, 60, .inr (.inl (kj 0))))] H := hP
  have hD : va_D A [(h0, .inr (4, [.int (-1), .int 0, .null])), (n1, .inl (ty 2, 60, .inr (.inl (kj 0))))] := hD
  refine wy_putF (D := D) (ci := 4) (v := .ref n1) (fty := (.array .long)) (C := RX4) (T := TX4) (N := 3) hx hb hB inB_X4 tyX4 tyX4_ok nmX4 hown hK hP hD hS 0 rfl rfl 2 (by decide) mw_147 (fun _ h9 => h9) rfl hin rfl (by decide +kernel) rfl rfl (Nat.le_of_ble_eq_true rfl) dX4_init_19 (ws' := [(h0, .inr (4, [.int (-1), .int 0, .ref n1])), (n1, .inl (ty 2, 60, .inr (.inl (kj 0))))]) rfl (fun H locs hP hD hS => ?_)
  exact kr_v hx hb hr hlocks hP hD hS [(h0, .inr (4, [.int (-1), .int 0, .ref n1])), (n1, .inl (ty 2, 60, .inr (.inl (kj 0))))] [0, 1] (by decide) rfl ⟨(fun k => [n1].getD k 0), rfl⟩ (by decide) (by decide) dX4_init_22
set_option maxHeartbeats 4000000 in
set_option maxRecDepth 100000 in
theorem c14_X8_listEnds (l : Launch) (D : va_G) (ty : Nat → ClassId) (sz : Nat) (h0 : Nat) (h1 : Nat) (v0 : Value) (v1 : Value) (v2 : Value) (v3 : Value) (v4 : Value) (v5 : Value) (v6 : Value) (v7 : Value) (v8 : Value) (v9 : Value) (v10 : Value) (v11 : Value) (v12 : Value) (v13 : Value) (v14 : Value) (f0 : Nat → Int32) : cQ l yX8_listEnds cX8_listEnds 4 none 0 0 [.ref h0] D ty [(h0, .inr (8, [v0, .int 2, .int 0, v1, v2, v3, v4, v5, v6, v7, v8, v9, v10, v11, .ref h1, v12, v13, v14])), (h1, .inl (ty 1, 17, .inl f0))] sz (qV (fun (u : va_W) => [(h0, .inr (8, [v0, .int 2, .int 0, v1, v2, v3, v4, v5, v6, v7, v8, v9, v10, v11, .ref h1, v12, v13, v14])), (h1, .inl (ty 1, 17, .inl (upd (upd (upd f0 0 0) 1 0) 2 0)))] = u)) 0 0 := by
  refine cQ.of (by decide) (Nat.le_of_ble_eq_true rfl) (fun p e s m below meth c A ls C hsz hP hK hD hA hl => ?_)
  obtain ⟨hx, hb, hml, hown, hB, hr, hlocks, hin⟩ := C
  have hown : s.vm.findClass RX8 = some m.cls := hown
  have hS : va_S A s.heap s.heap [] := va_S.rf
  have hl : lv_has ls 4 [(0, .ref h0)] := hl
  refine lv_iconst (v := 0) hx hb dX8_listEnds_0 (by decide) ?_
  refine lv_istore_n (lv' := [(1, .int 0), (0, .ref h0)]) hx hb dX8_listEnds_1 rfl hl (by decide) rfl (fun ls hl => ?_)
  refine lv_iconst (v := 0) hx hb dX8_listEnds_2 (by decide) ?_
  refine lv_istore_n (lv' := [(2, .int 0), (1, .int 0), (0, .ref h0)]) hx hb dX8_listEnds_3 rfl hl (by decide) rfl (fun ls hl => ?_)
  refine lv_iload_n hx hb dX8_listEnds_4 rfl (lv_at hl 0 rfl) ?_
  refine lv_aload_n hx hb dX8_listEnds_5 rfl (lv_at hl 2 rfl) ?_
  refine va_get (D := D) (ci := 8) (v := .int 2) (C := RX8) (T := TX8) (N := 18) hx hb hB inB_X8 hown hK.1 hP 0 rfl rfl 1 (by decide) (hB _ mw_28) (fun _ h9 => h9) rfl dX8_listEnds_6 ?_
  refine lv_icmp_ge (tgt := 71) hx hb dX8_listEnds_9 (by decide) (fun h9 => absurd h9 (by decide)) (fun _ => ?_)
  refine lv_aload_n hx hb dX8_listEnds_12 rfl (lv_at hl 2 rfl) ?_
  refine va_get (D := D) (ci := 8) (v := .ref h1) (C := RX8) (T := TX8) (N := 18) hx hb hB inB_X8 hown hK.1 hP 0 rfl rfl 14 (by decide) (hB _ mw_62) (fun _ h9 => h9) rfl dX8_listEnds_13 ?_
  refine lv_iload_n hx hb dX8_listEnds_16 rfl (lv_at hl 0 rfl) ?_
  refine lv_iload_n hx hb dX8_listEnds_17 rfl (lv_at hl 1 rfl) ?_
  refine wy_iast hx hb hK hP hD hS 1 1 rfl rfl (by unfold vp_in; decide) dX8_listEnds_18 (j := 0) (by decide) (ws' := [(h0, .inr (8, [v0, .int 2, .int 0, v1, v2, v3, v4, v5, v6, v7, v8, v9, v10, v11, .ref h1, v12, v13, v14])), (h1, .inl (ty 1, 17, .inl (upd f0 0 0)))]) rfl (fun H locs hP hD hS => ?_)
  refine lv_iconst (v := 0) hx hb dX8_listEnds_19 (by decide) ?_
  refine lv_istore_n (lv' := [(3, .int 0), (2, .int 0), (1, .int 0), (0, .ref h0)]) hx hb dX8_listEnds_20 rfl hl (by decide) rfl (fun ls hl => ?_)
  refine lv_iload_n hx hb dX8_listEnds_21 rfl (lv_at hl 0 rfl) ?_
  refine lv_aload_n hx hb dX8_listEnds_22 rfl (lv_at hl 3 rfl) ?_
  refine va_get (D := D) (ci := 8) (v := .int 0) (C := RX8) (T := TX8) (N := 18) hx hb hB inB_X8 hown hK.1 hP 0 rfl rfl 2 (by decide) (hB _ mw_29) (fun _ h9 => h9) rfl dX8_listEnds_23 ?_
  refine lv_icmp_ge (tgt := 65) hx hb dX8_listEnds_26 (by decide) (fun _ => ?_) (fun h9 => absurd (by decide) h9)
  refine lv_iinc (v := 1) (lv' := [(2, .int 1), (3, .int 0), (1, .int 0), (0, .ref h0)]) hx hb dX8_listEnds_65 hl (k := 1) rfl (by decide) (by decide) rfl (fun ls hl => ?_)
  refine lv_goto (tgt := 4) hx hb dX8_listEnds_68 (by decide) ?_
  refine lv_iload_n hx hb dX8_listEnds_4 rfl (lv_at hl 0 rfl) ?_
  refine lv_aload_n hx hb dX8_listEnds_5 rfl (lv_at hl 3 rfl) ?_
  refine va_get (D := D) (ci := 8) (v := .int 2) (C := RX8) (T := TX8) (N := 18) hx hb hB inB_X8 hown hK.1 hP 0 rfl rfl 1 (by decide) (hB _ mw_28) (fun _ h9 => h9) rfl dX8_listEnds_6 ?_
  refine lv_icmp_ge (tgt := 71) hx hb dX8_listEnds_9 (by decide) (fun h9 => absurd h9 (by decide)) (fun _ => ?_)
  refine lv_aload_n hx hb dX8_listEnds_12 rfl (lv_at hl 3 rfl) ?_
  refine va_get (D := D) (ci := 8) (v := .ref h1) (C := RX8) (T := TX8) (N := 18) hx hb hB inB_X8 hown hK.1 hP 0 rfl rfl 14 (by decide) (hB _ mw_62) (fun _ h9 => h9) rfl dX8_listEnds_13 ?_
  refine lv_iload_n hx hb dX8_listEnds_16 rfl (lv_at hl 0 rfl) ?_
  refine lv_iload_n hx hb dX8_listEnds_17 rfl (lv_at hl 2 rfl) ?_
  refine wy_iast hx hb hK hP hD hS 1 1 rfl rfl (by unfold vp_in; decide) dX8_listEnds_18 (j := 1) (by decide) (ws' := [(h0, .inr (8, [v0, .int 2, .int 0, v1, v2, v3, v4, v5, v6, v7, v8, v9, v10, v11, .ref h1, v12, v13, v14])), (h1, .inl (ty 1, 17, .inl (upd (upd f0 0 0) 1 0)))]) rfl (fun H locs hP hD hS => ?_)
  refine lv_iconst (v := 0) hx hb dX8_listEnds_19 (by decide) ?_
  refine lv_istore_n (lv' := [(3, .int 0), (2, .int 1), (1, .int 0), (0, .ref h0)]) hx hb dX8_listEnds_20 rfl hl (by decide) rfl (fun ls hl => ?_)
  refine lv_iload_n hx hb dX8_listEnds_21 rfl (lv_at hl 0 rfl) ?_
  refine lv_aload_n hx hb dX8_listEnds_22 rfl (lv_at hl 3 rfl) ?_
  refine va_get (D := D) (ci := 8) (v := .int 0) (C := RX8) (T := TX8) (N := 18) hx hb hB inB_X8 hown hK.1 hP 0 rfl rfl 2 (by decide) (hB _ mw_29) (fun _ h9 => h9) rfl dX8_listEnds_23 ?_
  refine lv_icmp_ge (tgt := 65) hx hb dX8_listEnds_26 (by decide) (fun _ => ?_) (fun h9 => absurd (by decide) h9)
  refine lv_iinc (v := 2) (lv' := [(2, .int 2), (3, .int 0), (1, .int 0), (0, .ref h0)]) hx hb dX8_listEnds_65 hl (k := 1) rfl (by decide) (by decide) rfl (fun ls hl => ?_)
  refine lv_goto (tgt := 4) hx hb dX8_listEnds_68 (by decide) ?_
  refine lv_iload_n hx hb dX8_listEnds_4 rfl (lv_at hl 0 rfl) ?_
  refine lv_aload_n hx hb dX8_listEnds_5 rfl (lv_at hl 3 rfl) ?_
  refine va_get (D := D) (ci := 8) (v := .int 2) (C := RX8) (T := TX8) (N := 18) hx hb hB inB_X8 hown hK.1 hP 0 rfl rfl 1 (by decide) (hB _ mw_28) (fun _ h9 => h9) rfl dX8_listEnds_6 ?_
  refine lv_icmp_ge (tgt := 71) hx hb dX8_listEnds_9 (by decide) (fun _ => ?_) (fun h9 => absurd (by decide) h9)
  refine lv_aload_n hx hb dX8_listEnds_71 rfl (lv_at hl 3 rfl) ?_
  refine va_get (D := D) (ci := 8) (v := .ref h1) (C := RX8) (T := TX8) (N := 18) hx hb hB inB_X8 hown hK.1 hP 0 rfl rfl 14 (by decide) (hB _ mw_62) (fun _ h9 => h9) rfl dX8_listEnds_72 ?_
  refine lv_aload_n hx hb dX8_listEnds_75 rfl (lv_at hl 3 rfl) ?_
  refine va_get (D := D) (ci := 8) (v := .int 2) (C := RX8) (T := TX8) (N := 18) hx hb hB inB_X8 hown hK.1 hP 0 rfl rfl 1 (by decide) (hB _ mw_28) (fun _ h9 => h9) rfl dX8_listEnds_76 ?_
  refine lv_iload_n hx hb dX8_listEnds_79 rfl (lv_at hl 2 rfl) ?_
  refine wy_iast hx hb hK hP hD hS 1 1 rfl rfl (by unfold vp_in; decide) dX8_listEnds_80 (j := 2) (by decide) (ws' := [(h0, .inr (8, [v0, .int 2, .int 0, v1, v2, v3, v4, v5, v6, v7, v8, v9, v10, v11, .ref h1, v12, v13, v14])), (h1, .inl (ty 1, 17, .inl (upd (upd (upd f0 0 0) 1 0) 2 0)))]) rfl (fun H locs hP hD hS => ?_)
  exact kr_v hx hb hr hlocks hP hD hS [(h0, .inr (8, [v0, .int 2, .int 0, v1, v2, v3, v4, v5, v6, v7, v8, v9, v10, v11, .ref h1, v12, v13, v14])), (h1, .inl (ty 1, 17, .inl (upd (upd (upd f0 0 0) 1 0) 2 0)))] [0, 1] (by decide) rfl rfl (by decide) (by decide) dX8_listEnds_81
set_option maxHeartbeats 4000000 in
set_option maxRecDepth 100000 in
theorem c17_X2_nearestOf (l : Launch) (D : va_G) (ty : Nat → ClassId) (sz : Nat) (h0 : Nat) (h1 : Nat) (h2 : Nat) (v0 : Value) (v1 : Value) (v2 : Value) (v3 : Value) (v4 : Value) (v5 : Value) (v6 : Value) (v7 : Value) (v8 : Value) (v9 : Value) (v10 : Value) (v11 : Value) (v12 : Value) (v13 : Value) (v14 : Value) (v15 : Value) (v16 : Value) (v17 : Value) (v18 : Value) (v19 : Value) (v20 : Value) (v21 : Value) : cQ l yX2_nearestOf cX2_nearestOf 6 (some .int) 0 0 [.ref h1, .ref h0, .int 1] D ty [(h0, .inr (8, [v0, .int 2, v1, v2, v3, v4, v5, v6, v7, v8, v9, v10, v11, v12, v13, v14, v15, v16])), (h1, .inr (2, [.ref h2, v17, v18, v19, v20, v21])), (h2, .inl (ty 1, 16, .inl (upd (kf 1000000) 0 0)))] sz (qI (fun (r : Int32) (u : va_W) => 0 = r ∧ [(h0, .inr (8, [v0, .int 2, v1, v2, v3, v4, v5, v6, v7, v8, v9, v10, v11, v12, v13, v14, v15, v16])), (h1, .inr (2, [.ref h2, v17, v18, v19, v20, v21])), (h2, .inl (ty 1, 16, .inl (upd (kf 1000000) 0 0)))] = u)) 0 0 := by
  refine cQ.of (by decide) (Nat.le_of_ble_eq_true rfl) (fun p e s m below meth c A ls C hsz hP hK hD hA hl => ?_)
  obtain ⟨hx, hb, hml, hown, hB, hr, hlocks, hin⟩ := C
  have hown : s.vm.findClass RX2 = some m.cls := hown
  have hS : va_S A s.heap s.heap [] := va_S.rf
  have hl : lv_has ls 6 [(0, .ref h1), (1, .ref h0), (2, .int 1)] := hl
  refine lv_iconst (v := 0) hx hb dX2_nearestOf_0 (by decide) ?_
  refine lv_istore_n (lv' := [(3, .int 0), (0, .ref h1), (1, .ref h0), (2, .int 1)]) hx hb dX2_nearestOf_1 rfl hl (by decide) rfl (fun ls hl => ?_)
  refine lv_ldc hx hb hown (hB _ mw_157) dX2_nearestOf_2 ?_
  refine lv_istore (lv' := [(4, .int 1000000), (3, .int 0), (0, .ref h1), (1, .ref h0), (2, .int 1)]) hx hb dX2_nearestOf_4 hl (by decide) rfl (fun ls hl => ?_)
  refine lv_iconst (v := 0) hx hb dX2_nearestOf_6 (by decide) ?_
  refine lv_istore (lv' := [(5, .int 0), (4, .int 1000000), (3, .int 0), (0, .ref h1), (1, .ref h0), (2, .int 1)]) hx hb dX2_nearestOf_7 hl (by decide) rfl (fun ls hl => ?_)
  refine lv_iload hx hb dX2_nearestOf_9 (lv_at hl 0 rfl) ?_
  refine lv_aload_n hx hb dX2_nearestOf_11 rfl (lv_at hl 4 rfl) ?_
  refine va_get (D := D) (ci := 8) (v := .int 2) (C := RX8) (T := TX8) (N := 18) hx hb hB inB_X8 hown hK.1 hP 0 rfl rfl 1 (by decide) (hB _ mw_156) (fun _ h9 => h9) rfl dX2_nearestOf_12 ?_
  refine lv_icmp_ge (tgt := 57) hx hb dX2_nearestOf_15 (by decide) (fun h9 => absurd h9 (by decide)) (fun _ => ?_)
  refine lv_iload_n hx hb dX2_nearestOf_18 rfl (lv_at hl 5 rfl) ?_
  refine lv_iload hx hb dX2_nearestOf_19 (lv_at hl 0 rfl) ?_
  refine lv_ishr hx hb dX2_nearestOf_21 ?_
  refine tp_i (v := 1) (by decide) ?_
  refine lv_iconst (v := 1) hx hb dX2_nearestOf_22 (by decide) ?_
  refine lv_iand hx hb dX2_nearestOf_23 ?_
  refine tp_i (v := 1) (by decide) ?_
  refine lv_if_eq (tgt := 51) hx hb dX2_nearestOf_24 (by decide) (fun h9 => absurd h9 (by decide)) (fun _ => ?_)
  refine lv_aload_n hx hb dX2_nearestOf_27 rfl (lv_at hl 3 rfl) ?_
  refine va_get (D := D) (ci := 2) (v := .ref h2) (C := RX2) (T := TX2) (N := 6) hx hb hB inB_X2 hown hK.1 hP 1 rfl rfl 0 (by decide) (hB _ mw_94) (fun _ h9 => h9) rfl dX2_nearestOf_28 ?_
  refine lv_iload hx hb dX2_nearestOf_31 (lv_at hl 0 rfl) ?_
  refine va_iald hx hb hK.1 hP 2 1 rfl rfl (by unfold vp_in; decide) dX2_nearestOf_33 ?_
  refine tp_i (v := 0) rfl ?_
  refine lv_iload hx hb dX2_nearestOf_34 (lv_at hl 1 rfl) ?_
  refine lv_icmp_ge (tgt := 51) hx hb dX2_nearestOf_36 (by decide) (fun h9 => absurd h9 (by decide)) (fun _ => ?_)
  refine lv_aload_n hx hb dX2_nearestOf_39 rfl (lv_at hl 3 rfl) ?_
  refine va_get (D := D) (ci := 2) (v := .ref h2) (C := RX2) (T := TX2) (N := 6) hx hb hB inB_X2 hown hK.1 hP 1 rfl rfl 0 (by decide) (hB _ mw_94) (fun _ h9 => h9) rfl dX2_nearestOf_40 ?_
  refine lv_iload hx hb dX2_nearestOf_43 (lv_at hl 0 rfl) ?_
  refine va_iald hx hb hK.1 hP 2 1 rfl rfl (by unfold vp_in; decide) dX2_nearestOf_45 ?_
  refine tp_i (v := 0) rfl ?_
  refine lv_istore (lv' := [(4, .int 0), (5, .int 0), (3, .int 0), (0, .ref h1), (1, .ref h0), (2, .int 1)]) hx hb dX2_nearestOf_46 hl (by decide) rfl (fun ls hl => ?_)
  refine lv_iload hx hb dX2_nearestOf_48 (lv_at hl 1 rfl) ?_
  refine lv_istore_n (lv' := [(3, .int 0), (4, .int 0), (5, .int 0), (0, .ref h1), (1, .ref h0), (2, .int 1)]) hx hb dX2_nearestOf_50 rfl hl (by decide) rfl (fun ls hl => ?_)
  refine lv_iinc (v := 1) (lv' := [(5, .int 1), (3, .int 0), (4, .int 0), (0, .ref h1), (1, .ref h0), (2, .int 1)]) hx hb dX2_nearestOf_51 hl (k := 2) rfl (by decide) (by decide) rfl (fun ls hl => ?_)
  refine lv_goto (tgt := 9) hx hb dX2_nearestOf_54 (by decide) ?_
  refine lv_iload hx hb dX2_nearestOf_9 (lv_at hl 0 rfl) ?_
  refine lv_aload_n hx hb dX2_nearestOf_11 rfl (lv_at hl 4 rfl) ?_
  refine va_get (D := D) (ci := 8) (v := .int 2) (C := RX8) (T := TX8) (N := 18) hx hb hB inB_X8 hown hK.1 hP 0 rfl rfl 1 (by decide) (hB _ mw_156) (fun _ h9 => h9) rfl dX2_nearestOf_12 ?_
  refine lv_icmp_ge (tgt := 57) hx hb dX2_nearestOf_15 (by decide) (fun h9 => absurd h9 (by decide)) (fun _ => ?_)
  refine lv_iload_n hx hb dX2_nearestOf_18 rfl (lv_at hl 5 rfl) ?_
  refine lv_iload hx hb dX2_nearestOf_19 (lv_at hl 0 rfl) ?_
  refine lv_ishr hx hb dX2_nearestOf_21 ?_
  refine tp_i (v := 0) (by decide) ?_
  refine lv_iconst (v := 1) hx hb dX2_nearestOf_22 (by decide) ?_
  refine lv_iand hx hb dX2_nearestOf_23 ?_
  refine tp_i (v := 0) (by decide) ?_
  refine lv_if_eq (tgt := 51) hx hb dX2_nearestOf_24 (by decide) (fun _ => ?_) (fun h9 => absurd (by decide) h9)
  refine lv_iinc (v := 2) (lv' := [(5, .int 2), (3, .int 0), (4, .int 0), (0, .ref h1), (1, .ref h0), (2, .int 1)]) hx hb dX2_nearestOf_51 hl (k := 0) rfl (by decide) (by decide) rfl (fun ls hl => ?_)
  refine lv_goto (tgt := 9) hx hb dX2_nearestOf_54 (by decide) ?_
  refine lv_iload hx hb dX2_nearestOf_9 (lv_at hl 0 rfl) ?_
  refine lv_aload_n hx hb dX2_nearestOf_11 rfl (lv_at hl 4 rfl) ?_
  refine va_get (D := D) (ci := 8) (v := .int 2) (C := RX8) (T := TX8) (N := 18) hx hb hB inB_X8 hown hK.1 hP 0 rfl rfl 1 (by decide) (hB _ mw_156) (fun _ h9 => h9) rfl dX2_nearestOf_12 ?_
  refine lv_icmp_ge (tgt := 57) hx hb dX2_nearestOf_15 (by decide) (fun _ => ?_) (fun h9 => absurd (by decide) h9)
  refine lv_iload_n hx hb dX2_nearestOf_57 rfl (lv_at hl 1 rfl) ?_
  exact kr_z hx hb hr rfl hlocks hP hD hS [(h0, .inr (8, [v0, .int 2, v1, v2, v3, v4, v5, v6, v7, v8, v9, v10, v11, v12, v13, v14, v15, v16])), (h1, .inr (2, [.ref h2, v17, v18, v19, v20, v21])), (h2, .inl (ty 1, 16, .inl (upd (kf 1000000) 0 0)))] [0, 1, 2] (by decide) rfl ⟨rfl, rfl⟩ (by decide) (by decide) dX2_nearestOf_58
