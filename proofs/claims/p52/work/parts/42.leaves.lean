set_option maxHeartbeats 4000000 in
set_option maxRecDepth 100000 in
theorem g_X2_nearestOf_0 (l : Launch) (D : va_G) (ty : Nat → ClassId) (sz : Nat) (a14 : Nat) (a1 : Nat) (a2 : Nat) (v0 : Value) (v1 : Value) (v2 : Value) (v3 : Value) (v4 : Value) (f3 : Nat → Int32) (v5 : Value) (z16 : Int) (v6 : Value) (v7 : Value) (v8 : Value) (v9 : Value) (v10 : Value) (v11 : Value) (v12 : Value) (v13 : Value) (v14 : Value) (v15 : Value) (v16 : Value) (v17 : Value) (v18 : Value) (v19 : Value) (v20 : Value) (v21 : Value) (z61 : Int) (bz16 : 2 ≤ z16 ∧ z16 ≤ 16) (bz61 : (-2147483648) ≤ z61 ∧ z61 ≤ 2147483647) : cQ l yX2_nearestOf cX2_nearestOf 6 (some .int) 0 0 [.ref a1, .ref a14, .int (zI z61)] D ty [(a1, .inr (2, [.ref a2, v0, v1, v2, v3, v4])), (a2, .inl (ty 1, 16, .inl f3)), (a14, .inr (8, [v5, .int (zI z16), v6, v7, v8, v9, v10, v11, v12, v13, v14, v15, v16, v17, v18, v19, v20, v21]))] sz (qI (fun (r : Int32) (u : va_W) => ∃  (y : Int), (0 ≤ y ∧ y ≤ 15) ∧ zI y = r ∧ [(a1, .inr (2, [.ref a2, v0, v1, v2, v3, v4])), (a2, .inl (ty 1, 16, .inl f3)), (a14, .inr (8, [v5, .int (zI z16), v6, v7, v8, v9, v10, v11, v12, v13, v14, v15, v16, v17, v18, v19, v20, v21]))] = u)) 0 0 := by
  refine cQ.of (by decide) (Nat.le_of_ble_eq_true rfl) (fun p e s m below meth c A ls C hsz hP hK hD hA hl => ?_)
  obtain ⟨hx, hb, hml, hown, hB, hr, hlocks, hin⟩ := C
  have hown : s.vm.findClass RX2 = some m.cls := hown
  have hS : va_S A s.heap s.heap [] := va_S.rf
  have hl : lv_has ls 6 [(0, .ref a1), (1, .ref a14), (2, .int (zI z61))] := hl
  refine lv_iconst (v := zI 0) hx hb dX2_nearestOf_0 rfl ?_
  refine lv_istore_n (lv' := [(3, .int (zI 0)), (0, .ref a1), (1, .ref a14), (2, .int (zI z61))]) hx hb dX2_nearestOf_1 rfl hl (by decide) rfl (fun ls hl => ?_)
  refine lv_ldc hx hb hown (hB _ mw_0) dX2_nearestOf_2 ?_
  refine tp_i (v := zI 1000000) rfl ?_
  refine lv_istore (lv' := [(4, .int (zI 1000000)), (3, .int (zI 0)), (0, .ref a1), (1, .ref a14), (2, .int (zI z61))]) hx hb dX2_nearestOf_4 hl (by decide) rfl (fun ls hl => ?_)
  refine lv_iconst (v := zI 0) hx hb dX2_nearestOf_6 rfl ?_
  refine lv_istore (lv' := [(5, .int (zI 0)), (4, .int (zI 1000000)), (3, .int (zI 0)), (0, .ref a1), (1, .ref a14), (2, .int (zI z61))]) hx hb dX2_nearestOf_7 hl (by decide) rfl (fun ls hl => ?_)
  have lp4 : (∀ (z_1 : Int) (z_2 : Int) (z_3 : Int) (H : Heap) (locs : List Loc) (ls : Array Slot), (0 ≤ z_1 ∧ z_1 ≤ 16) → ((-2147483648) ≤ z_2 ∧ z_2 ≤ 2147483647) → (0 ≤ z_3 ∧ z_3 ≤ 15) → va_P D vwCl [(a1, .inr (2, [.ref a2, v0, v1, v2, v3, v4])), (a2, .inl (ty 1, 16, .inl f3)), (a14, .inr (8, [v5, .int (zI z16), v6, v7, v8, v9, v10, v11, v12, v13, v14, v15, v16, v17, v18, v19, v20, v21]))] H → va_D A [(a1, .inr (2, [.ref a2, v0, v1, v2, v3, v4])), (a2, .inl (ty 1, 16, .inl f3)), (a14, .inr (8, [v5, .int (zI z16), v6, v7, v8, v9, v10, v11, v12, v13, v14, v15, v16, v17, v18, v19, v20, v21]))] → va_S A s.heap H locs → lv_has ls 6 [(5, .int (zI z_1)), (4, .int (zI z_2)), (3, .int (zI z_3)), (0, .ref a1), (1, .ref a14), (2, .int (zI z61))] → W p l e ({ frames := 0, cells := 0, slots := 0, locals := 0 }) s m ([.ref a1, .ref a14, .int (zI z61)] : List Value).toArray below meth c H locs 0 0 (MQ below ((qI (fun (r : Int32) (u : va_W) => ∃  (y : Int), (0 ≤ y ∧ y ≤ 15) ∧ zI y = r ∧ [(a1, .inr (2, [.ref a2, v0, v1, v2, v3, v4])), (a2, .inl (ty 1, 16, .inl f3)), (a14, .inr (8, [v5, .int (zI z16), v6, v7, v8, v9, v10, v11, v12, v13, v14, v15, v16, v17, v18, v19, v20, v21]))] = u)) D A) ([.ref a1, .ref a14, .int (zI z61)] : List Value).toArray s 0 0 A) (F0 m 57 ls [])) →
      ∀ (k : Nat) (z_1 : Int) (z_2 : Int) (z_3 : Int) (H : Heap) (locs : List Loc) (ls : Array Slot), (16 - z_1).toNat < k → (0 ≤ z_1 ∧ z_1 ≤ 16) → ((-2147483648) ≤ z_2 ∧ z_2 ≤ 2147483647) → (0 ≤ z_3 ∧ z_3 ≤ 15) → va_P D vwCl [(a1, .inr (2, [.ref a2, v0, v1, v2, v3, v4])), (a2, .inl (ty 1, 16, .inl f3)), (a14, .inr (8, [v5, .int (zI z16), v6, v7, v8, v9, v10, v11, v12, v13, v14, v15, v16, v17, v18, v19, v20, v21]))] H → va_D A [(a1, .inr (2, [.ref a2, v0, v1, v2, v3, v4])), (a2, .inl (ty 1, 16, .inl f3)), (a14, .inr (8, [v5, .int (zI z16), v6, v7, v8, v9, v10, v11, v12, v13, v14, v15, v16, v17, v18, v19, v20, v21]))] → va_S A s.heap H locs → lv_has ls 6 [(5, .int (zI z_1)), (4, .int (zI z_2)), (3, .int (zI z_3)), (0, .ref a1), (1, .ref a14), (2, .int (zI z61))] → W p l e ({ frames := 0, cells := 0, slots := 0, locals := 0 }) s m ([.ref a1, .ref a14, .int (zI z61)] : List Value).toArray below meth c H locs 0 0 (MQ below ((qI (fun (r : Int32) (u : va_W) => ∃  (y : Int), (0 ≤ y ∧ y ≤ 15) ∧ zI y = r ∧ [(a1, .inr (2, [.ref a2, v0, v1, v2, v3, v4])), (a2, .inl (ty 1, 16, .inl f3)), (a14, .inr (8, [v5, .int (zI z16), v6, v7, v8, v9, v10, v11, v12, v13, v14, v15, v16, v17, v18, v19, v20, v21]))] = u)) D A) ([.ref a1, .ref a14, .int (zI z61)] : List Value).toArray s 0 0 A) (F0 m 9 ls []) := by
    intro kk4 k
    induction k with
    | zero => intro z_1 z_2 z_3 H locs ls hk; exact absurd hk (Nat.not_lt_zero _)
    | succ k ih4 =>
      intro z_1 z_2 z_3 H locs ls hk i_5 i_6 i_7 hP hD hS hl
      refine lv_iload hx hb dX2_nearestOf_9 (lv_at hl 0 rfl) ?_
      refine lv_aload_n hx hb dX2_nearestOf_11 rfl (lv_at hl 4 rfl) ?_
      refine va_get (D := D) (ci := 8) (v := .int (zI z16)) (C := RX8) (T := TX8) (N := 18) hx hb hB inB_X8 hown hK.1 hP 2 rfl rfl 1 (by decide) (hB _ mw_1) (fun _ h9 => h9) rfl dX2_nearestOf_12 ?_
      refine ri_icmp_ge (tgt := 57) hx hb dX2_nearestOf_15 (by decide) (by omega) (by omega) (fun c_8 => ?_) (fun c_8 => ?_)
      · exact kk4 z_1 z_2 z_3 H locs ls (by omega) (by omega) (by omega) hP hD hS hl
      · refine lv_iload_n hx hb dX2_nearestOf_18 rfl (lv_at hl 5 rfl) ?_
        refine lv_iload hx hb dX2_nearestOf_19 (lv_at hl 0 rfl) ?_
        refine lv_ishr hx hb dX2_nearestOf_21 ?_
        refine ri_any (fun z_9 r_10 _ => ?_)
        obtain ⟨r_10a, r_10b⟩ := r_10
        refine lv_iconst (v := zI 1) hx hb dX2_nearestOf_22 rfl ?_
        refine lv_iand hx hb dX2_nearestOf_23 ?_
        refine ri_any (fun z_11 r_12 _ => ?_)
        obtain ⟨r_12a, r_12b⟩ := r_12
        refine ri_if_eq (tgt := 51) hx hb dX2_nearestOf_24 (by decide) (by omega) (fun c_13 => ?_) (fun c_13 => ?_)
        · refine lv_iinc (v := zI (z_1 + 1)) (lv' := [(5, .int (zI (z_1 + 1))), (4, .int (zI z_2)), (3, .int (zI z_3)), (0, .ref a1), (1, .ref a14), (2, .int (zI z61))]) hx hb dX2_nearestOf_51 hl (k := 0) rfl (zI_add _ _) (by decide) rfl (fun ls hl => ?_)
          refine lv_goto (tgt := 9) hx hb dX2_nearestOf_54 (by decide) ?_
          exact ih4 (z_1 + 1) z_2 z_3 H locs ls (by omega) (by omega) (by omega) (by omega) hP hD hS hl
        · refine lv_aload_n hx hb dX2_nearestOf_27 rfl (lv_at hl 3 rfl) ?_
          refine va_get (D := D) (ci := 2) (v := .ref a2) (C := RX2) (T := TX2) (N := 6) hx hb hB inB_X2 hown hK.1 hP 0 rfl rfl 0 (by decide) (hB _ mw_2) (fun _ h9 => h9) rfl dX2_nearestOf_28 ?_
          refine lv_iload hx hb dX2_nearestOf_31 (lv_at hl 0 rfl) ?_
          refine va_iald hx hb hK.1 hP 1 1 rfl rfl (zI_in (by omega) (by omega) (by omega)) dX2_nearestOf_33 ?_
          refine ri_any (fun z_14 r_15 _ => ?_)
          obtain ⟨r_15a, r_15b⟩ := r_15
          refine lv_iload hx hb dX2_nearestOf_34 (lv_at hl 1 rfl) ?_
          refine ri_icmp_ge (tgt := 51) hx hb dX2_nearestOf_36 (by decide) (by omega) (by omega) (fun c_16 => ?_) (fun c_16 => ?_)
          · refine lv_iinc (v := zI (z_1 + 1)) (lv' := [(5, .int (zI (z_1 + 1))), (4, .int (zI z_2)), (3, .int (zI z_3)), (0, .ref a1), (1, .ref a14), (2, .int (zI z61))]) hx hb dX2_nearestOf_51 hl (k := 0) rfl (zI_add _ _) (by decide) rfl (fun ls hl => ?_)
            refine lv_goto (tgt := 9) hx hb dX2_nearestOf_54 (by decide) ?_
            exact ih4 (z_1 + 1) z_2 z_3 H locs ls (by omega) (by omega) (by omega) (by omega) hP hD hS hl
          · refine lv_aload_n hx hb dX2_nearestOf_39 rfl (lv_at hl 3 rfl) ?_
            refine va_get (D := D) (ci := 2) (v := .ref a2) (C := RX2) (T := TX2) (N := 6) hx hb hB inB_X2 hown hK.1 hP 0 rfl rfl 0 (by decide) (hB _ mw_2) (fun _ h9 => h9) rfl dX2_nearestOf_40 ?_
            refine lv_iload hx hb dX2_nearestOf_43 (lv_at hl 0 rfl) ?_
            refine va_iald hx hb hK.1 hP 1 1 rfl rfl (zI_in (by omega) (by omega) (by omega)) dX2_nearestOf_45 ?_
            refine ri_any (fun z_17 r_18 _ => ?_)
            obtain ⟨r_18a, r_18b⟩ := r_18
            refine lv_istore (lv' := [(4, .int (zI z_17)), (5, .int (zI z_1)), (3, .int (zI z_3)), (0, .ref a1), (1, .ref a14), (2, .int (zI z61))]) hx hb dX2_nearestOf_46 hl (by decide) rfl (fun ls hl => ?_)
            refine lv_iload hx hb dX2_nearestOf_48 (lv_at hl 1 rfl) ?_
            refine lv_istore_n (lv' := [(3, .int (zI z_1)), (4, .int (zI z_17)), (5, .int (zI z_1)), (0, .ref a1), (1, .ref a14), (2, .int (zI z61))]) hx hb dX2_nearestOf_50 rfl hl (by decide) rfl (fun ls hl => ?_)
            refine lv_iinc (v := zI (z_1 + 1)) (lv' := [(5, .int (zI (z_1 + 1))), (3, .int (zI z_1)), (4, .int (zI z_17)), (0, .ref a1), (1, .ref a14), (2, .int (zI z61))]) hx hb dX2_nearestOf_51 hl (k := 2) rfl (zI_add _ _) (by decide) rfl (fun ls hl => ?_)
            refine lv_goto (tgt := 9) hx hb dX2_nearestOf_54 (by decide) ?_
            exact ih4 (z_1 + 1) z_17 z_1 H locs ls (by omega) (by omega) (by omega) (by omega) hP hD hS (lv_sub hl [0, 2, 1, 3, 4, 5] rfl)
  refine lp4 (fun z_1 z_2 z_3 H locs ls i_5 i_6 i_7 hP hD hS hl => ?_) 18 0 1000000 0 _ _ ls (by omega) (by omega) (by omega) (by omega) hP hD hS hl
  refine lv_iload_n hx hb dX2_nearestOf_57 rfl (lv_at hl 2 rfl) ?_
  exact kr_z hx hb hr rfl hlocks hP hD hS [(a1, .inr (2, [.ref a2, v0, v1, v2, v3, v4])), (a2, .inl (ty 1, 16, .inl f3)), (a14, .inr (8, [v5, .int (zI z16), v6, v7, v8, v9, v10, v11, v12, v13, v14, v15, v16, v17, v18, v19, v20, v21]))] [0, 1, 2] (by decide) rfl ⟨z_3, by omega, rfl, rfl⟩ (by decide) (by decide) dX2_nearestOf_58
set_option maxHeartbeats 4000000 in
set_option maxRecDepth 100000 in
theorem g_X2_spread_1 (l : Launch) (D : va_G) (ty : Nat → ClassId) (sz : Nat) (a14 : Nat) (a61 : Nat) (a1 : Nat) (v0 : Value) (z16 : Int) (v1 : Value) (v2 : Value) (v3 : Value) (v4 : Value) (v5 : Value) (v6 : Value) (v7 : Value) (v8 : Value) (v9 : Value) (v10 : Value) (v11 : Value) (v12 : Value) (v13 : Value) (v14 : Value) (v15 : Value) (v16 : Value) (f62 : Nat → Int32) (z63 : Int) (bz16 : 2 ≤ z16 ∧ z16 ≤ 16) (bz63 : 0 ≤ z63 ∧ z63 ≤ 15) : cQ l yX2_spread cX2_spread 8 (some .int) 0 0 [.ref a1, .ref a14, .ref a61, .int (zI z63)] D ty [(a14, .inr (8, [v0, .int (zI z16), v1, v2, v3, v4, v5, v6, v7, v8, v9, v10, v11, v12, v13, v14, v15, v16])), (a61, .inl (ty 1, 16, .inl f62))] sz (qI (fun (r : Int32) (u : va_W) => ∃  (y : Int), ((-2147483648) ≤ y ∧ y ≤ 2147483647) ∧ zI y = r ∧ [(a14, .inr (8, [v0, .int (zI z16), v1, v2, v3, v4, v5, v6, v7, v8, v9, v10, v11, v12, v13, v14, v15, v16])), (a61, .inl (ty 1, 16, .inl f62))] = u)) 0 0 := by
  refine cQ.of (by decide) (Nat.le_of_ble_eq_true rfl) (fun p e s m below meth c A ls C hsz hP hK hD hA hl => ?_)
  obtain ⟨hx, hb, hml, hown, hB, hr, hlocks, hin⟩ := C
  have hown : s.vm.findClass RX2 = some m.cls := hown
  have hS : va_S A s.heap s.heap [] := va_S.rf
  have hl : lv_has ls 8 [(0, .ref a1), (1, .ref a14), (2, .ref a61), (3, .int (zI z63))] := hl
  refine lv_iconst (v := zI 1) hx hb dX2_spread_0 rfl ?_
  refine lv_iload_n hx hb dX2_spread_1 rfl (lv_at hl 3 rfl) ?_
  refine lv_ishl hx hb dX2_spread_2 ?_
  refine ri_any (fun z_1 r_2 _ => ?_)
  obtain ⟨r_2a, r_2b⟩ := r_2
  refine lv_istore (lv' := [(4, .int (zI z_1)), (0, .ref a1), (1, .ref a14), (2, .ref a61), (3, .int (zI z63))]) hx hb dX2_spread_3 hl (by decide) rfl (fun ls hl => ?_)
  refine lv_iconst (v := zI 0) hx hb dX2_spread_5 rfl ?_
  refine lv_istore (lv' := [(5, .int (zI 0)), (4, .int (zI z_1)), (0, .ref a1), (1, .ref a14), (2, .ref a61), (3, .int (zI z63))]) hx hb dX2_spread_6 hl (by decide) rfl (fun ls hl => ?_)
  have lp5 : (∀ (z_3 : Int) (z_4 : Int) (H : Heap) (locs : List Loc) (ls : Array Slot), (0 ≤ z_3 ∧ z_3 ≤ 16) → ((-2147483648) ≤ z_4 ∧ z_4 ≤ 2147483647) → va_P D vwCl [(a14, .inr (8, [v0, .int (zI z16), v1, v2, v3, v4, v5, v6, v7, v8, v9, v10, v11, v12, v13, v14, v15, v16])), (a61, .inl (ty 1, 16, .inl f62))] H → va_D A [(a14, .inr (8, [v0, .int (zI z16), v1, v2, v3, v4, v5, v6, v7, v8, v9, v10, v11, v12, v13, v14, v15, v16])), (a61, .inl (ty 1, 16, .inl f62))] → va_S A s.heap H locs → lv_has ls 8 [(5, .int (zI z_3)), (4, .int (zI z_4)), (0, .ref a1), (1, .ref a14), (2, .ref a61), (3, .int (zI z63))] → W p l e ({ frames := 0, cells := 0, slots := 0, locals := 0 }) s m ([.ref a1, .ref a14, .ref a61, .int (zI z63)] : List Value).toArray below meth c H locs 0 0 (MQ below ((qI (fun (r : Int32) (u : va_W) => ∃  (y : Int), ((-2147483648) ≤ y ∧ y ≤ 2147483647) ∧ zI y = r ∧ [(a14, .inr (8, [v0, .int (zI z16), v1, v2, v3, v4, v5, v6, v7, v8, v9, v10, v11, v12, v13, v14, v15, v16])), (a61, .inl (ty 1, 16, .inl f62))] = u)) D A) ([.ref a1, .ref a14, .ref a61, .int (zI z63)] : List Value).toArray s 0 0 A) (F0 m 74 ls [])) →
      ∀ (k : Nat) (z_3 : Int) (z_4 : Int) (H : Heap) (locs : List Loc) (ls : Array Slot), (16 - z_3).toNat < k → (0 ≤ z_3 ∧ z_3 ≤ 16) → ((-2147483648) ≤ z_4 ∧ z_4 ≤ 2147483647) → va_P D vwCl [(a14, .inr (8, [v0, .int (zI z16), v1, v2, v3, v4, v5, v6, v7, v8, v9, v10, v11, v12, v13, v14, v15, v16])), (a61, .inl (ty 1, 16, .inl f62))] H → va_D A [(a14, .inr (8, [v0, .int (zI z16), v1, v2, v3, v4, v5, v6, v7, v8, v9, v10, v11, v12, v13, v14, v15, v16])), (a61, .inl (ty 1, 16, .inl f62))] → va_S A s.heap H locs → lv_has ls 8 [(5, .int (zI z_3)), (4, .int (zI z_4)), (0, .ref a1), (1, .ref a14), (2, .ref a61), (3, .int (zI z63))] → W p l e ({ frames := 0, cells := 0, slots := 0, locals := 0 }) s m ([.ref a1, .ref a14, .ref a61, .int (zI z63)] : List Value).toArray below meth c H locs 0 0 (MQ below ((qI (fun (r : Int32) (u : va_W) => ∃  (y : Int), ((-2147483648) ≤ y ∧ y ≤ 2147483647) ∧ zI y = r ∧ [(a14, .inr (8, [v0, .int (zI z16), v1, v2, v3, v4, v5, v6, v7, v8, v9, v10, v11, v12, v13, v14, v15, v16])), (a61, .inl (ty 1, 16, .inl f62))] = u)) D A) ([.ref a1, .ref a14, .ref a61, .int (zI z63)] : List Value).toArray s 0 0 A) (F0 m 8 ls []) := by
    intro kk5 k
    induction k with
    | zero => intro z_3 z_4 H locs ls hk; exact absurd hk (Nat.not_lt_zero _)
    | succ k ih5 =>
      intro z_3 z_4 H locs ls hk i_6 i_7 hP hD hS hl
      refine lv_iload hx hb dX2_spread_8 (lv_at hl 0 rfl) ?_
      refine lv_aload_n hx hb dX2_spread_10 rfl (lv_at hl 3 rfl) ?_
      refine va_get (D := D) (ci := 8) (v := .int (zI z16)) (C := RX8) (T := TX8) (N := 18) hx hb hB inB_X8 hown hK.1 hP 0 rfl rfl 1 (by decide) (hB _ mw_1) (fun _ h9 => h9) rfl dX2_spread_11 ?_
      refine ri_icmp_ge (tgt := 74) hx hb dX2_spread_14 (by decide) (by omega) (by omega) (fun c_8 => ?_) (fun c_8 => ?_)
      · exact kk5 z_3 z_4 H locs ls (by omega) (by omega) hP hD hS hl
      · refine lv_iload hx hb dX2_spread_17 (lv_at hl 1 rfl) ?_
        refine lv_istore (lv' := [(6, .int (zI z_4)), (5, .int (zI z_3)), (4, .int (zI z_4)), (0, .ref a1), (1, .ref a14), (2, .ref a61), (3, .int (zI z63))]) hx hb dX2_spread_19 hl (by decide) rfl (fun ls hl => ?_)
        refine lv_iconst (v := zI 0) hx hb dX2_spread_21 rfl ?_
        refine lv_istore (lv' := [(7, .int (zI 0)), (6, .int (zI z_4)), (5, .int (zI z_3)), (4, .int (zI z_4)), (0, .ref a1), (1, .ref a14), (2, .ref a61), (3, .int (zI z63))]) hx hb dX2_spread_22 hl (by decide) rfl (fun ls hl => ?_)
        have lp11 : (∀ (z_9 : Int) (z_10 : Int) (H : Heap) (locs : List Loc) (ls : Array Slot), (0 ≤ z_9 ∧ z_9 ≤ 16) → ((-2147483648) ≤ z_10 ∧ z_10 ≤ 2147483647) → va_P D vwCl [(a14, .inr (8, [v0, .int (zI z16), v1, v2, v3, v4, v5, v6, v7, v8, v9, v10, v11, v12, v13, v14, v15, v16])), (a61, .inl (ty 1, 16, .inl f62))] H → va_D A [(a14, .inr (8, [v0, .int (zI z16), v1, v2, v3, v4, v5, v6, v7, v8, v9, v10, v11, v12, v13, v14, v15, v16])), (a61, .inl (ty 1, 16, .inl f62))] → va_S A s.heap H locs → lv_has ls 8 [(7, .int (zI z_9)), (6, .int (zI z_4)), (5, .int (zI z_3)), (4, .int (zI z_10)), (0, .ref a1), (1, .ref a14), (2, .ref a61), (3, .int (zI z63))] → W p l e ({ frames := 0, cells := 0, slots := 0, locals := 0 }) s m ([.ref a1, .ref a14, .ref a61, .int (zI z63)] : List Value).toArray below meth c H locs 0 0 (MQ below ((qI (fun (r : Int32) (u : va_W) => ∃  (y : Int), ((-2147483648) ≤ y ∧ y ≤ 2147483647) ∧ zI y = r ∧ [(a14, .inr (8, [v0, .int (zI z16), v1, v2, v3, v4, v5, v6, v7, v8, v9, v10, v11, v12, v13, v14, v15, v16])), (a61, .inl (ty 1, 16, .inl f62))] = u)) D A) ([.ref a1, .ref a14, .ref a61, .int (zI z63)] : List Value).toArray s 0 0 A) (F0 m 58 ls [])) →
            ∀ (k : Nat) (z_9 : Int) (z_10 : Int) (H : Heap) (locs : List Loc) (ls : Array Slot), (16 - z_9).toNat < k → (0 ≤ z_9 ∧ z_9 ≤ 16) → ((-2147483648) ≤ z_10 ∧ z_10 ≤ 2147483647) → va_P D vwCl [(a14, .inr (8, [v0, .int (zI z16), v1, v2, v3, v4, v5, v6, v7, v8, v9, v10, v11, v12, v13, v14, v15, v16])), (a61, .inl (ty 1, 16, .inl f62))] H → va_D A [(a14, .inr (8, [v0, .int (zI z16), v1, v2, v3, v4, v5, v6, v7, v8, v9, v10, v11, v12, v13, v14, v15, v16])), (a61, .inl (ty 1, 16, .inl f62))] → va_S A s.heap H locs → lv_has ls 8 [(7, .int (zI z_9)), (6, .int (zI z_4)), (5, .int (zI z_3)), (4, .int (zI z_10)), (0, .ref a1), (1, .ref a14), (2, .ref a61), (3, .int (zI z63))] → W p l e ({ frames := 0, cells := 0, slots := 0, locals := 0 }) s m ([.ref a1, .ref a14, .ref a61, .int (zI z63)] : List Value).toArray below meth c H locs 0 0 (MQ below ((qI (fun (r : Int32) (u : va_W) => ∃  (y : Int), ((-2147483648) ≤ y ∧ y ≤ 2147483647) ∧ zI y = r ∧ [(a14, .inr (8, [v0, .int (zI z16), v1, v2, v3, v4, v5, v6, v7, v8, v9, v10, v11, v12, v13, v14, v15, v16])), (a61, .inl (ty 1, 16, .inl f62))] = u)) D A) ([.ref a1, .ref a14, .ref a61, .int (zI z63)] : List Value).toArray s 0 0 A) (F0 m 24 ls []) := by
          intro kk11 k
          induction k with
          | zero => intro z_9 z_10 H locs ls hk; exact absurd hk (Nat.not_lt_zero _)
          | succ k ih11 =>
            intro z_9 z_10 H locs ls hk i_12 i_13 hP hD hS hl
            refine lv_iload hx hb dX2_spread_24 (lv_at hl 0 rfl) ?_
            refine lv_aload_n hx hb dX2_spread_26 rfl (lv_at hl 5 rfl) ?_
            refine va_get (D := D) (ci := 8) (v := .int (zI z16)) (C := RX8) (T := TX8) (N := 18) hx hb hB inB_X8 hown hK.1 hP 0 rfl rfl 1 (by decide) (hB _ mw_1) (fun _ h9 => h9) rfl dX2_spread_27 ?_
            refine ri_icmp_ge (tgt := 58) hx hb dX2_spread_30 (by decide) (by omega) (by omega) (fun c_14 => ?_) (fun c_14 => ?_)
            · exact kk11 z_9 z_10 H locs ls (by omega) (by omega) hP hD hS hl
            · refine lv_iload hx hb dX2_spread_33 (lv_at hl 3 rfl) ?_
              refine lv_iload hx hb dX2_spread_35 (lv_at hl 0 rfl) ?_
              refine lv_ishr hx hb dX2_spread_37 ?_
              refine ri_any (fun z_15 r_16 _ => ?_)
              obtain ⟨r_16a, r_16b⟩ := r_16
              refine lv_iconst (v := zI 1) hx hb dX2_spread_38 rfl ?_
              refine lv_iand hx hb dX2_spread_39 ?_
              refine ri_any (fun z_17 r_18 _ => ?_)
              obtain ⟨r_18a, r_18b⟩ := r_18
              refine ri_if_eq (tgt := 52) hx hb dX2_spread_40 (by decide) (by omega) (fun c_19 => ?_) (fun c_19 => ?_)
              · refine lv_iinc (v := zI (z_9 + 1)) (lv' := [(7, .int (zI (z_9 + 1))), (6, .int (zI z_4)), (5, .int (zI z_3)), (4, .int (zI z_10)), (0, .ref a1), (1, .ref a14), (2, .ref a61), (3, .int (zI z63))]) hx hb dX2_spread_52 hl (k := 0) rfl (zI_add _ _) (by decide) rfl (fun ls hl => ?_)
                refine lv_goto (tgt := 24) hx hb dX2_spread_55 (by decide) ?_
                exact ih11 (z_9 + 1) z_10 H locs ls (by omega) (by omega) (by omega) hP hD hS hl
              · refine lv_iload hx hb dX2_spread_43 (lv_at hl 3 rfl) ?_
                refine lv_aload_n hx hb dX2_spread_45 rfl (lv_at hl 6 rfl) ?_
                refine lv_iload hx hb dX2_spread_46 (lv_at hl 0 rfl) ?_
                refine va_iald hx hb hK.1 hP 1 1 rfl rfl (zI_in (by omega) (by omega) (by omega)) dX2_spread_48 ?_
                refine ri_any (fun z_20 r_21 _ => ?_)
                obtain ⟨r_21a, r_21b⟩ := r_21
                refine lv_ior hx hb dX2_spread_49 ?_
                refine ri_any (fun z_22 r_23 _ => ?_)
                obtain ⟨r_23a, r_23b⟩ := r_23
                refine lv_istore (lv' := [(4, .int (zI z_22)), (7, .int (zI z_9)), (6, .int (zI z_4)), (5, .int (zI z_3)), (0, .ref a1), (1, .ref a14), (2, .ref a61), (3, .int (zI z63))]) hx hb dX2_spread_50 hl (by decide) rfl (fun ls hl => ?_)
                refine lv_iinc (v := zI (z_9 + 1)) (lv' := [(7, .int (zI (z_9 + 1))), (4, .int (zI z_22)), (6, .int (zI z_4)), (5, .int (zI z_3)), (0, .ref a1), (1, .ref a14), (2, .ref a61), (3, .int (zI z63))]) hx hb dX2_spread_52 hl (k := 1) rfl (zI_add _ _) (by decide) rfl (fun ls hl => ?_)
                refine lv_goto (tgt := 24) hx hb dX2_spread_55 (by decide) ?_
                exact ih11 (z_9 + 1) z_22 H locs ls (by omega) (by omega) (by omega) hP hD hS (lv_sub hl [0, 2, 3, 1, 4, 5, 6, 7] rfl)
        refine lp11 (fun z_9 z_10 H locs ls i_12 i_13 hP hD hS hl => ?_) 18 0 z_4 _ _ ls (by omega) (by omega) (by omega) hP hD hS hl
        refine lv_iload hx hb dX2_spread_58 (lv_at hl 3 rfl) ?_
        refine lv_iload hx hb dX2_spread_60 (lv_at hl 1 rfl) ?_
        refine ri_icmp_ne (tgt := 68) hx hb dX2_spread_62 (by decide) (by omega) (by omega) (fun c_24 => ?_) (fun c_24 => ?_)
        · refine lv_iinc (v := zI (z_3 + 1)) (lv' := [(5, .int (zI (z_3 + 1))), (7, .int (zI z_9)), (6, .int (zI z_4)), (4, .int (zI z_10)), (0, .ref a1), (1, .ref a14), (2, .ref a61), (3, .int (zI z63))]) hx hb dX2_spread_68 hl (k := 2) rfl (zI_add _ _) (by decide) rfl (fun ls hl => ?_)
          refine lv_goto (tgt := 8) hx hb dX2_spread_71 (by decide) ?_
          exact ih5 (z_3 + 1) z_10 H locs ls (by omega) (by omega) (by omega) hP hD hS (lv_sub hl [0, 3, 4, 5, 6, 7] rfl)
        · refine lv_iload hx hb dX2_spread_65 (lv_at hl 3 rfl) ?_
          exact kr_z hx hb hr rfl hlocks hP hD hS [(a14, .inr (8, [v0, .int (zI z16), v1, v2, v3, v4, v5, v6, v7, v8, v9, v10, v11, v12, v13, v14, v15, v16])), (a61, .inl (ty 1, 16, .inl f62))] [0, 1] (by decide) rfl ⟨z_10, by omega, rfl, rfl⟩ (by decide) (by decide) dX2_spread_67
  refine lp5 (fun z_3 z_4 H locs ls i_6 i_7 hP hD hS hl => ?_) 18 0 z_1 _ _ ls (by omega) (by omega) (by omega) hP hD hS hl
  refine lv_iload hx hb dX2_spread_74 (lv_at hl 1 rfl) ?_
  exact kr_z hx hb hr rfl hlocks hP hD hS [(a14, .inr (8, [v0, .int (zI z16), v1, v2, v3, v4, v5, v6, v7, v8, v9, v10, v11, v12, v13, v14, v15, v16])), (a61, .inl (ty 1, 16, .inl f62))] [0, 1] (by decide) rfl ⟨z_4, by omega, rfl, rfl⟩ (by decide) (by decide) dX2_spread_76
set_option maxHeartbeats 4000000 in
set_option maxRecDepth 100000 in
theorem g_X8_openAlleys_2 (l : Launch) (D : va_G) (ty : Nat → ClassId) (sz : Nat) (a1 : Nat) (a48 : Nat) (v0 : Value) (v1 : Value) (z4 : Int) (v2 : Value) (v3 : Value) (v4 : Value) (v5 : Value) (v6 : Value) (v7 : Value) (v8 : Value) (v9 : Value) (v10 : Value) (v11 : Value) (v12 : Value) (v13 : Value) (v14 : Value) (v15 : Value) (v16 : Value) (f49 : Nat → Int32) (bz4 : 0 ≤ z4 ∧ z4 ≤ 28) : cQ l yX8_openAlleys cX8_openAlleys 4 (some .int) 0 0 [.ref a1, .ref a48] D ty [(a1, .inr (8, [v0, v1, .int (zI z4), v2, v3, v4, v5, v6, v7, v8, v9, v10, v11, v12, v13, v14, v15, v16])), (a48, .inl (ty 1, 28, .inl f49))] sz (qI (fun (r : Int32) (u : va_W) => ∃  (y : Int), ((-2147483648) ≤ y ∧ y ≤ 2147483647) ∧ zI y = r ∧ [(a1, .inr (8, [v0, v1, .int (zI z4), v2, v3, v4, v5, v6, v7, v8, v9, v10, v11, v12, v13, v14, v15, v16])), (a48, .inl (ty 1, 28, .inl f49))] = u)) 0 0 := by
  refine cQ.of (by decide) (Nat.le_of_ble_eq_true rfl) (fun p e s m below meth c A ls C hsz hP hK hD hA hl => ?_)
  obtain ⟨hx, hb, hml, hown, hB, hr, hlocks, hin⟩ := C
  have hown : s.vm.findClass RX8 = some m.cls := hown
  have hS : va_S A s.heap s.heap [] := va_S.rf
  have hl : lv_has ls 4 [(0, .ref a1), (1, .ref a48)] := hl
  refine lv_iconst (v := zI 0) hx hb dX8_openAlleys_0 rfl ?_
  refine lv_istore_n (lv' := [(2, .int (zI 0)), (0, .ref a1), (1, .ref a48)]) hx hb dX8_openAlleys_1 rfl hl (by decide) rfl (fun ls hl => ?_)
  refine lv_iconst (v := zI 0) hx hb dX8_openAlleys_2 rfl ?_
  refine lv_istore_n (lv' := [(3, .int (zI 0)), (2, .int (zI 0)), (0, .ref a1), (1, .ref a48)]) hx hb dX8_openAlleys_3 rfl hl (by decide) rfl (fun ls hl => ?_)
  have lp3 : (∀ (z_1 : Int) (z_2 : Int) (H : Heap) (locs : List Loc) (ls : Array Slot), (0 ≤ z_1 ∧ z_1 ≤ 28) → ((-2147483648) ≤ z_2 ∧ z_2 ≤ 2147483647) → va_P D vwCl [(a1, .inr (8, [v0, v1, .int (zI z4), v2, v3, v4, v5, v6, v7, v8, v9, v10, v11, v12, v13, v14, v15, v16])), (a48, .inl (ty 1, 28, .inl f49))] H → va_D A [(a1, .inr (8, [v0, v1, .int (zI z4), v2, v3, v4, v5, v6, v7, v8, v9, v10, v11, v12, v13, v14, v15, v16])), (a48, .inl (ty 1, 28, .inl f49))] → va_S A s.heap H locs → lv_has ls 4 [(3, .int (zI z_1)), (2, .int (zI z_2)), (0, .ref a1), (1, .ref a48)] → W p l e ({ frames := 0, cells := 0, slots := 0, locals := 0 }) s m ([.ref a1, .ref a48] : List Value).toArray below meth c H locs 0 0 (MQ below ((qI (fun (r : Int32) (u : va_W) => ∃  (y : Int), ((-2147483648) ≤ y ∧ y ≤ 2147483647) ∧ zI y = r ∧ [(a1, .inr (8, [v0, v1, .int (zI z4), v2, v3, v4, v5, v6, v7, v8, v9, v10, v11, v12, v13, v14, v15, v16])), (a48, .inl (ty 1, 28, .inl f49))] = u)) D A) ([.ref a1, .ref a48] : List Value).toArray s 0 0 A) (F0 m 30 ls [])) →
      ∀ (k : Nat) (z_1 : Int) (z_2 : Int) (H : Heap) (locs : List Loc) (ls : Array Slot), (28 - z_1).toNat < k → (0 ≤ z_1 ∧ z_1 ≤ 28) → ((-2147483648) ≤ z_2 ∧ z_2 ≤ 2147483647) → va_P D vwCl [(a1, .inr (8, [v0, v1, .int (zI z4), v2, v3, v4, v5, v6, v7, v8, v9, v10, v11, v12, v13, v14, v15, v16])), (a48, .inl (ty 1, 28, .inl f49))] H → va_D A [(a1, .inr (8, [v0, v1, .int (zI z4), v2, v3, v4, v5, v6, v7, v8, v9, v10, v11, v12, v13, v14, v15, v16])), (a48, .inl (ty 1, 28, .inl f49))] → va_S A s.heap H locs → lv_has ls 4 [(3, .int (zI z_1)), (2, .int (zI z_2)), (0, .ref a1), (1, .ref a48)] → W p l e ({ frames := 0, cells := 0, slots := 0, locals := 0 }) s m ([.ref a1, .ref a48] : List Value).toArray below meth c H locs 0 0 (MQ below ((qI (fun (r : Int32) (u : va_W) => ∃  (y : Int), ((-2147483648) ≤ y ∧ y ≤ 2147483647) ∧ zI y = r ∧ [(a1, .inr (8, [v0, v1, .int (zI z4), v2, v3, v4, v5, v6, v7, v8, v9, v10, v11, v12, v13, v14, v15, v16])), (a48, .inl (ty 1, 28, .inl f49))] = u)) D A) ([.ref a1, .ref a48] : List Value).toArray s 0 0 A) (F0 m 4 ls []) := by
    intro kk3 k
    induction k with
    | zero => intro z_1 z_2 H locs ls hk; exact absurd hk (Nat.not_lt_zero _)
    | succ k ih3 =>
      intro z_1 z_2 H locs ls hk i_4 i_5 hP hD hS hl
      refine lv_iload_n hx hb dX8_openAlleys_4 rfl (lv_at hl 0 rfl) ?_
      refine lv_aload_n hx hb dX8_openAlleys_5 rfl (lv_at hl 2 rfl) ?_
      refine va_get (D := D) (ci := 8) (v := .int (zI z4)) (C := RX8) (T := TX8) (N := 18) hx hb hB inB_X8 hown hK.1 hP 0 rfl rfl 2 (by decide) (hB _ mw_3) (fun _ h9 => h9) rfl dX8_openAlleys_6 ?_
      refine ri_icmp_ge (tgt := 30) hx hb dX8_openAlleys_9 (by decide) (by omega) (by omega) (fun c_6 => ?_) (fun c_6 => ?_)
      · exact kk3 z_1 z_2 H locs ls (by omega) (by omega) hP hD hS hl
      · refine lv_aload_n hx hb dX8_openAlleys_12 rfl (lv_at hl 3 rfl) ?_
        refine lv_iload_n hx hb dX8_openAlleys_13 rfl (lv_at hl 0 rfl) ?_
        refine va_iald hx hb hK.1 hP 1 1 rfl rfl (zI_in (by omega) (by omega) (by omega)) dX8_openAlleys_14 ?_
        refine ri_any (fun z_7 r_8 _ => ?_)
        obtain ⟨r_8a, r_8b⟩ := r_8
        refine ri_if_ne (tgt := 24) hx hb dX8_openAlleys_15 (by decide) (by omega) (fun c_9 => ?_) (fun c_9 => ?_)
        · refine lv_iinc (v := zI (z_1 + 1)) (lv' := [(3, .int (zI (z_1 + 1))), (2, .int (zI z_2)), (0, .ref a1), (1, .ref a48)]) hx hb dX8_openAlleys_24 hl (k := 0) rfl (zI_add _ _) (by decide) rfl (fun ls hl => ?_)
          refine lv_goto (tgt := 4) hx hb dX8_openAlleys_27 (by decide) ?_
          exact ih3 (z_1 + 1) z_2 H locs ls (by omega) (by omega) (by omega) hP hD hS hl
        · refine lv_iload_n hx hb dX8_openAlleys_18 rfl (lv_at hl 1 rfl) ?_
          refine lv_iconst (v := zI 1) hx hb dX8_openAlleys_19 rfl ?_
          refine lv_iload_n hx hb dX8_openAlleys_20 rfl (lv_at hl 0 rfl) ?_
          refine lv_ishl hx hb dX8_openAlleys_21 ?_
          refine ri_any (fun z_10 r_11 _ => ?_)
          obtain ⟨r_11a, r_11b⟩ := r_11
          refine lv_ior hx hb dX8_openAlleys_22 ?_
          refine ri_any (fun z_12 r_13 _ => ?_)
          obtain ⟨r_13a, r_13b⟩ := r_13
          refine lv_istore_n (lv' := [(2, .int (zI z_12)), (3, .int (zI z_1)), (0, .ref a1), (1, .ref a48)]) hx hb dX8_openAlleys_23 rfl hl (by decide) rfl (fun ls hl => ?_)
          refine lv_iinc (v := zI (z_1 + 1)) (lv' := [(3, .int (zI (z_1 + 1))), (2, .int (zI z_12)), (0, .ref a1), (1, .ref a48)]) hx hb dX8_openAlleys_24 hl (k := 1) rfl (zI_add _ _) (by decide) rfl (fun ls hl => ?_)
          refine lv_goto (tgt := 4) hx hb dX8_openAlleys_27 (by decide) ?_
          exact ih3 (z_1 + 1) z_12 H locs ls (by omega) (by omega) (by omega) hP hD hS hl
  refine lp3 (fun z_1 z_2 H locs ls i_4 i_5 hP hD hS hl => ?_) 30 0 0 _ _ ls (by omega) (by omega) (by omega) hP hD hS hl
  refine lv_iload_n hx hb dX8_openAlleys_30 rfl (lv_at hl 1 rfl) ?_
  exact kr_z hx hb hr rfl hlocks hP hD hS [(a1, .inr (8, [v0, v1, .int (zI z4), v2, v3, v4, v5, v6, v7, v8, v9, v10, v11, v12, v13, v14, v15, v16])), (a48, .inl (ty 1, 28, .inl f49))] [0, 1] (by decide) rfl ⟨z_2, by omega, rfl, rfl⟩ (by decide) (by decide) dX8_openAlleys_31
set_option maxHeartbeats 4000000 in
set_option maxRecDepth 100000 in
theorem g_X8_pricesOfBoth_3 (l : Launch) (D : va_G) (ty : Nat → ClassId) (sz : Nat) (a1 : Nat) (a48 : Nat) (a16 : Nat) (v0 : Value) (v1 : Value) (z4 : Int) (v2 : Value) (v3 : Value) (v4 : Value) (v5 : Value) (v6 : Value) (v7 : Value) (v8 : Value) (v9 : Value) (v10 : Value) (v11 : Value) (v12 : Value) (v13 : Value) (v14 : Value) (v15 : Value) (f17 : Nat → Int32) (f49 : Nat → Int32) (bz4 : 0 ≤ z4 ∧ z4 ≤ 28) : cQ l yX8_pricesOfBoth cX8_pricesOfBoth 4 (some .int) 0 0 [.ref a1, .ref a48] D ty [(a1, .inr (8, [v0, v1, .int (zI z4), v2, v3, v4, v5, v6, v7, .ref a16, v8, v9, v10, v11, v12, v13, v14, v15])), (a16, .inl (ty 1, 28, .inl f17)), (a48, .inl (ty 1, 28, .inl f49))] sz (qI (fun (r : Int32) (u : va_W) => ∃  (y : Int), ((-2147483648) ≤ y ∧ y ≤ 2147483647) ∧ zI y = r ∧ [(a1, .inr (8, [v0, v1, .int (zI z4), v2, v3, v4, v5, v6, v7, .ref a16, v8, v9, v10, v11, v12, v13, v14, v15])), (a16, .inl (ty 1, 28, .inl f17)), (a48, .inl (ty 1, 28, .inl f49))] = u)) 0 0 := by
  refine cQ.of (by decide) (Nat.le_of_ble_eq_true rfl) (fun p e s m below meth c A ls C hsz hP hK hD hA hl => ?_)
  obtain ⟨hx, hb, hml, hown, hB, hr, hlocks, hin⟩ := C
  have hown : s.vm.findClass RX8 = some m.cls := hown
  have hS : va_S A s.heap s.heap [] := va_S.rf
  have hl : lv_has ls 4 [(0, .ref a1), (1, .ref a48)] := hl
  refine lv_iconst (v := zI 0) hx hb dX8_pricesOfBoth_0 rfl ?_
  refine lv_istore_n (lv' := [(2, .int (zI 0)), (0, .ref a1), (1, .ref a48)]) hx hb dX8_pricesOfBoth_1 rfl hl (by decide) rfl (fun ls hl => ?_)
  refine lv_iconst (v := zI 0) hx hb dX8_pricesOfBoth_2 rfl ?_
  refine lv_istore_n (lv' := [(3, .int (zI 0)), (2, .int (zI 0)), (0, .ref a1), (1, .ref a48)]) hx hb dX8_pricesOfBoth_3 rfl hl (by decide) rfl (fun ls hl => ?_)
  have lp3 : (∀ (z_1 : Int) (z_2 : Int) (H : Heap) (locs : List Loc) (ls : Array Slot), (0 ≤ z_1 ∧ z_1 ≤ 28) → ((-2147483648) ≤ z_2 ∧ z_2 ≤ 2147483647) → va_P D vwCl [(a1, .inr (8, [v0, v1, .int (zI z4), v2, v3, v4, v5, v6, v7, .ref a16, v8, v9, v10, v11, v12, v13, v14, v15])), (a16, .inl (ty 1, 28, .inl f17)), (a48, .inl (ty 1, 28, .inl f49))] H → va_D A [(a1, .inr (8, [v0, v1, .int (zI z4), v2, v3, v4, v5, v6, v7, .ref a16, v8, v9, v10, v11, v12, v13, v14, v15])), (a16, .inl (ty 1, 28, .inl f17)), (a48, .inl (ty 1, 28, .inl f49))] → va_S A s.heap H locs → lv_has ls 4 [(3, .int (zI z_1)), (2, .int (zI z_2)), (0, .ref a1), (1, .ref a48)] → W p l e ({ frames := 0, cells := 0, slots := 0, locals := 0 }) s m ([.ref a1, .ref a48] : List Value).toArray below meth c H locs 0 0 (MQ below ((qI (fun (r : Int32) (u : va_W) => ∃  (y : Int), ((-2147483648) ≤ y ∧ y ≤ 2147483647) ∧ zI y = r ∧ [(a1, .inr (8, [v0, v1, .int (zI z4), v2, v3, v4, v5, v6, v7, .ref a16, v8, v9, v10, v11, v12, v13, v14, v15])), (a16, .inl (ty 1, 28, .inl f17)), (a48, .inl (ty 1, 28, .inl f49))] = u)) D A) ([.ref a1, .ref a48] : List Value).toArray s 0 0 A) (F0 m 34 ls [])) →
      ∀ (k : Nat) (z_1 : Int) (z_2 : Int) (H : Heap) (locs : List Loc) (ls : Array Slot), (28 - z_1).toNat < k → (0 ≤ z_1 ∧ z_1 ≤ 28) → ((-2147483648) ≤ z_2 ∧ z_2 ≤ 2147483647) → va_P D vwCl [(a1, .inr (8, [v0, v1, .int (zI z4), v2, v3, v4, v5, v6, v7, .ref a16, v8, v9, v10, v11, v12, v13, v14, v15])), (a16, .inl (ty 1, 28, .inl f17)), (a48, .inl (ty 1, 28, .inl f49))] H → va_D A [(a1, .inr (8, [v0, v1, .int (zI z4), v2, v3, v4, v5, v6, v7, .ref a16, v8, v9, v10, v11, v12, v13, v14, v15])), (a16, .inl (ty 1, 28, .inl f17)), (a48, .inl (ty 1, 28, .inl f49))] → va_S A s.heap H locs → lv_has ls 4 [(3, .int (zI z_1)), (2, .int (zI z_2)), (0, .ref a1), (1, .ref a48)] → W p l e ({ frames := 0, cells := 0, slots := 0, locals := 0 }) s m ([.ref a1, .ref a48] : List Value).toArray below meth c H locs 0 0 (MQ below ((qI (fun (r : Int32) (u : va_W) => ∃  (y : Int), ((-2147483648) ≤ y ∧ y ≤ 2147483647) ∧ zI y = r ∧ [(a1, .inr (8, [v0, v1, .int (zI z4), v2, v3, v4, v5, v6, v7, .ref a16, v8, v9, v10, v11, v12, v13, v14, v15])), (a16, .inl (ty 1, 28, .inl f17)), (a48, .inl (ty 1, 28, .inl f49))] = u)) D A) ([.ref a1, .ref a48] : List Value).toArray s 0 0 A) (F0 m 4 ls []) := by
    intro kk3 k
    induction k with
    | zero => intro z_1 z_2 H locs ls hk; exact absurd hk (Nat.not_lt_zero _)
    | succ k ih3 =>
      intro z_1 z_2 H locs ls hk i_4 i_5 hP hD hS hl
      refine lv_iload_n hx hb dX8_pricesOfBoth_4 rfl (lv_at hl 0 rfl) ?_
      refine lv_aload_n hx hb dX8_pricesOfBoth_5 rfl (lv_at hl 2 rfl) ?_
      refine va_get (D := D) (ci := 8) (v := .int (zI z4)) (C := RX8) (T := TX8) (N := 18) hx hb hB inB_X8 hown hK.1 hP 0 rfl rfl 2 (by decide) (hB _ mw_3) (fun _ h9 => h9) rfl dX8_pricesOfBoth_6 ?_
      refine ri_icmp_ge (tgt := 34) hx hb dX8_pricesOfBoth_9 (by decide) (by omega) (by omega) (fun c_6 => ?_) (fun c_6 => ?_)
      · exact kk3 z_1 z_2 H locs ls (by omega) (by omega) hP hD hS hl
      · refine lv_aload_n hx hb dX8_pricesOfBoth_12 rfl (lv_at hl 3 rfl) ?_
        refine lv_iload_n hx hb dX8_pricesOfBoth_13 rfl (lv_at hl 0 rfl) ?_
        refine va_iald hx hb hK.1 hP 2 1 rfl rfl (zI_in (by omega) (by omega) (by omega)) dX8_pricesOfBoth_14 ?_
        refine ri_any (fun z_7 r_8 _ => ?_)
        obtain ⟨r_8a, r_8b⟩ := r_8
        refine lv_iconst (v := zI 3) hx hb dX8_pricesOfBoth_15 rfl ?_
        refine ri_icmp_ne (tgt := 28) hx hb dX8_pricesOfBoth_16 (by decide) (by omega) (by omega) (fun c_9 => ?_) (fun c_9 => ?_)
        · refine lv_iinc (v := zI (z_1 + 1)) (lv' := [(3, .int (zI (z_1 + 1))), (2, .int (zI z_2)), (0, .ref a1), (1, .ref a48)]) hx hb dX8_pricesOfBoth_28 hl (k := 0) rfl (zI_add _ _) (by decide) rfl (fun ls hl => ?_)
          refine lv_goto (tgt := 4) hx hb dX8_pricesOfBoth_31 (by decide) ?_
          exact ih3 (z_1 + 1) z_2 H locs ls (by omega) (by omega) (by omega) hP hD hS hl
        · refine lv_iload_n hx hb dX8_pricesOfBoth_19 rfl (lv_at hl 1 rfl) ?_
          refine lv_aload_n hx hb dX8_pricesOfBoth_20 rfl (lv_at hl 2 rfl) ?_
          refine va_get (D := D) (ci := 8) (v := .ref a16) (C := RX8) (T := TX8) (N := 18) hx hb hB inB_X8 hown hK.1 hP 0 rfl rfl 9 (by decide) (hB _ mw_4) (fun _ h9 => h9) rfl dX8_pricesOfBoth_21 ?_
          refine lv_iload_n hx hb dX8_pricesOfBoth_24 rfl (lv_at hl 0 rfl) ?_
          refine va_iald hx hb hK.1 hP 1 1 rfl rfl (zI_in (by omega) (by omega) (by omega)) dX8_pricesOfBoth_25 ?_
          refine ri_any (fun z_10 r_11 _ => ?_)
          obtain ⟨r_11a, r_11b⟩ := r_11
          refine ri_add hx hb dX8_pricesOfBoth_26 ?_
          refine ri_any (fun z_12 r_13 _ => ?_)
          obtain ⟨r_13a, r_13b⟩ := r_13
          refine lv_istore_n (lv' := [(2, .int (zI z_12)), (3, .int (zI z_1)), (0, .ref a1), (1, .ref a48)]) hx hb dX8_pricesOfBoth_27 rfl hl (by decide) rfl (fun ls hl => ?_)
          refine lv_iinc (v := zI (z_1 + 1)) (lv' := [(3, .int (zI (z_1 + 1))), (2, .int (zI z_12)), (0, .ref a1), (1, .ref a48)]) hx hb dX8_pricesOfBoth_28 hl (k := 1) rfl (zI_add _ _) (by decide) rfl (fun ls hl => ?_)
          refine lv_goto (tgt := 4) hx hb dX8_pricesOfBoth_31 (by decide) ?_
          exact ih3 (z_1 + 1) z_12 H locs ls (by omega) (by omega) (by omega) hP hD hS hl
  refine lp3 (fun z_1 z_2 H locs ls i_4 i_5 hP hD hS hl => ?_) 30 0 0 _ _ ls (by omega) (by omega) (by omega) hP hD hS hl
  refine lv_iload_n hx hb dX8_pricesOfBoth_34 rfl (lv_at hl 1 rfl) ?_
  exact kr_z hx hb hr rfl hlocks hP hD hS [(a1, .inr (8, [v0, v1, .int (zI z4), v2, v3, v4, v5, v6, v7, .ref a16, v8, v9, v10, v11, v12, v13, v14, v15])), (a16, .inl (ty 1, 28, .inl f17)), (a48, .inl (ty 1, 28, .inl f49))] [0, 1, 2] (by decide) rfl ⟨z_2, by omega, rfl, rfl⟩ (by decide) (by decide) dX8_pricesOfBoth_35
set_option maxHeartbeats 4000000 in
set_option maxRecDepth 100000 in
theorem g_X8_otherEnd_4 (l : Launch) (D : va_G) (ty : Nat → ClassId) (sz : Nat) (a1 : Nat) (a8 : Nat) (a11 : Nat) (v0 : Value) (v1 : Value) (v2 : Value) (v3 : Value) (v4 : Value) (v5 : Value) (v6 : Value) (v7 : Value) (v8 : Value) (v9 : Value) (v10 : Value) (v11 : Value) (v12 : Value) (v13 : Value) (v14 : Value) (v15 : Value) (F9 : Nat → Int) (F12 : Nat → Int) (z48 : Int) (z49 : Int) (bz48 : 0 ≤ z48 ∧ z48 ≤ 27) (bz49 : (-2147483648) ≤ z49 ∧ z49 ≤ 2147483647) (h10 : rng F9 28 0 15) (h13 : rng F12 28 0 15) : cQ l yX8_otherEnd cX8_otherEnd 3 (some .int) 0 0 [.ref a1, .int (zI z48), .int (zI z49)] D ty [(a1, .inr (8, [v0, v1, v2, v3, v4, v5, .ref a8, .ref a11, v6, v7, v8, v9, v10, v11, v12, v13, v14, v15])), (a8, .inl (ty 1, 28, .inl (cI F9))), (a11, .inl (ty 1, 28, .inl (cI F12)))] sz (qI (fun (r : Int32) (u : va_W) => ∃  (y : Int), (0 ≤ y ∧ y ≤ 15) ∧ zI y = r ∧ [(a1, .inr (8, [v0, v1, v2, v3, v4, v5, .ref a8, .ref a11, v6, v7, v8, v9, v10, v11, v12, v13, v14, v15])), (a8, .inl (ty 1, 28, .inl (cI F9))), (a11, .inl (ty 1, 28, .inl (cI F12)))] = u)) 0 0 := by
  refine cQ.of (by decide) (Nat.le_of_ble_eq_true rfl) (fun p e s m below meth c A ls C hsz hP hK hD hA hl => ?_)
  obtain ⟨hx, hb, hml, hown, hB, hr, hlocks, hin⟩ := C
  have hown : s.vm.findClass RX8 = some m.cls := hown
  have hS : va_S A s.heap s.heap [] := va_S.rf
  have hl : lv_has ls 3 [(0, .ref a1), (1, .int (zI z48)), (2, .int (zI z49))] := hl
  refine lv_aload_n hx hb dX8_otherEnd_0 rfl (lv_at hl 0 rfl) ?_
  refine va_get (D := D) (ci := 8) (v := .ref a8) (C := RX8) (T := TX8) (N := 18) hx hb hB inB_X8 hown hK.1 hP 0 rfl rfl 6 (by decide) (hB _ mw_5) (fun _ h9 => h9) rfl dX8_otherEnd_1 ?_
  refine lv_iload_n hx hb dX8_otherEnd_4 rfl (lv_at hl 1 rfl) ?_
  refine ri_iald hx hb hK hP 1 rfl (by omega) (by omega) (by omega) dX8_otherEnd_5 ?_
  have b_1 := rng.at (z := z48) h10 (by omega) (by omega)
  refine lv_iload_n hx hb dX8_otherEnd_6 rfl (lv_at hl 2 rfl) ?_
  refine ri_icmp_ne (tgt := 19) hx hb dX8_otherEnd_7 (by decide) (by omega) (by omega) (fun c_2 => ?_) (fun c_2 => ?_)
  · refine lv_aload_n hx hb dX8_otherEnd_19 rfl (lv_at hl 0 rfl) ?_
    refine va_get (D := D) (ci := 8) (v := .ref a8) (C := RX8) (T := TX8) (N := 18) hx hb hB inB_X8 hown hK.1 hP 0 rfl rfl 6 (by decide) (hB _ mw_5) (fun _ h9 => h9) rfl dX8_otherEnd_20 ?_
    refine lv_iload_n hx hb dX8_otherEnd_23 rfl (lv_at hl 1 rfl) ?_
    refine ri_iald hx hb hK hP 1 rfl (by omega) (by omega) (by omega) dX8_otherEnd_24 ?_
    have b_3 := rng.at (z := z48) h10 (by omega) (by omega)
    exact kr_z hx hb hr rfl hlocks hP hD hS [(a1, .inr (8, [v0, v1, v2, v3, v4, v5, .ref a8, .ref a11, v6, v7, v8, v9, v10, v11, v12, v13, v14, v15])), (a8, .inl (ty 1, 28, .inl (cI F9))), (a11, .inl (ty 1, 28, .inl (cI F12)))] [0, 1, 2] (by decide) rfl ⟨(F9 (z48).toNat), by omega, rfl, rfl⟩ (by decide) (by decide) dX8_otherEnd_25
  · refine lv_aload_n hx hb dX8_otherEnd_10 rfl (lv_at hl 0 rfl) ?_
    refine va_get (D := D) (ci := 8) (v := .ref a11) (C := RX8) (T := TX8) (N := 18) hx hb hB inB_X8 hown hK.1 hP 0 rfl rfl 7 (by decide) (hB _ mw_6) (fun _ h9 => h9) rfl dX8_otherEnd_11 ?_
    refine lv_iload_n hx hb dX8_otherEnd_14 rfl (lv_at hl 1 rfl) ?_
    refine ri_iald hx hb hK hP 2 rfl (by omega) (by omega) (by omega) dX8_otherEnd_15 ?_
    have b_4 := rng.at (z := z48) h13 (by omega) (by omega)
    refine lv_goto (tgt := 25) hx hb dX8_otherEnd_16 (by decide) ?_
    exact kr_z hx hb hr rfl hlocks hP hD hS [(a1, .inr (8, [v0, v1, v2, v3, v4, v5, .ref a8, .ref a11, v6, v7, v8, v9, v10, v11, v12, v13, v14, v15])), (a8, .inl (ty 1, 28, .inl (cI F9))), (a11, .inl (ty 1, 28, .inl (cI F12)))] [0, 1, 2] (by decide) rfl ⟨(F12 (z48).toNat), by omega, rfl, rfl⟩ (by decide) (by decide) dX8_otherEnd_25
set_option maxHeartbeats 4000000 in
set_option maxRecDepth 100000 in
theorem g_X8_mayEnter_5 (l : Launch) (D : va_G) (ty : Nat → ClassId) (sz : Nat) (a48 : Nat) (a1 : Nat) (a8 : Nat) (v0 : Value) (v1 : Value) (v2 : Value) (v3 : Value) (v4 : Value) (v5 : Value) (v6 : Value) (v7 : Value) (v8 : Value) (v9 : Value) (v10 : Value) (v11 : Value) (v12 : Value) (v13 : Value) (v14 : Value) (v15 : Value) (v16 : Value) (F9 : Nat → Int) (f49 : Nat → Int32) (z50 : Int) (z51 : Int) (bz50 : 0 ≤ z50 ∧ z50 ≤ 27) (bz51 : (-2147483648) ≤ z51 ∧ z51 ≤ 2147483647) (h10 : rng F9 28 0 15) : cQ l yX8_mayEnter cX8_mayEnter 4 (some .boolean) 0 0 [.ref a1, .ref a48, .int (zI z50), .int (zI z51)] D ty [(a1, .inr (8, [v0, v1, v2, v3, v4, v5, .ref a8, v6, v7, v8, v9, v10, v11, v12, v13, v14, v15, v16])), (a8, .inl (ty 1, 28, .inl (cI F9))), (a48, .inl (ty 1, 28, .inl f49))] sz (qI (fun (r : Int32) (u : va_W) => ∃  (y : Int), (0 ≤ y ∧ y ≤ 1) ∧ zI y = r ∧ [(a1, .inr (8, [v0, v1, v2, v3, v4, v5, .ref a8, v6, v7, v8, v9, v10, v11, v12, v13, v14, v15, v16])), (a8, .inl (ty 1, 28, .inl (cI F9))), (a48, .inl (ty 1, 28, .inl f49))] = u)) 0 0 := by
  refine cQ.of (by decide) (Nat.le_of_ble_eq_true rfl) (fun p e s m below meth c A ls C hsz hP hK hD hA hl => ?_)
  obtain ⟨hx, hb, hml, hown, hB, hr, hlocks, hin⟩ := C
  have hown : s.vm.findClass RX8 = some m.cls := hown
  have hS : va_S A s.heap s.heap [] := va_S.rf
  have hl : lv_has ls 4 [(0, .ref a1), (1, .ref a48), (2, .int (zI z50)), (3, .int (zI z51))] := hl
  refine lv_aload_n hx hb dX8_mayEnter_0 rfl (lv_at hl 1 rfl) ?_
  refine lv_iload_n hx hb dX8_mayEnter_1 rfl (lv_at hl 2 rfl) ?_
  refine va_iald hx hb hK.1 hP 2 1 rfl rfl (zI_in (by omega) (by omega) (by omega)) dX8_mayEnter_2 ?_
  refine ri_any (fun z_1 r_2 _ => ?_)
  obtain ⟨r_2a, r_2b⟩ := r_2
  refine lv_aload_n hx hb dX8_mayEnter_3 rfl (lv_at hl 0 rfl) ?_
  refine va_get (D := D) (ci := 8) (v := .ref a8) (C := RX8) (T := TX8) (N := 18) hx hb hB inB_X8 hown hK.1 hP 0 rfl rfl 6 (by decide) (hB _ mw_5) (fun _ h9 => h9) rfl dX8_mayEnter_4 ?_
  refine lv_iload_n hx hb dX8_mayEnter_7 rfl (lv_at hl 2 rfl) ?_
  refine ri_iald hx hb hK hP 1 rfl (by omega) (by omega) (by omega) dX8_mayEnter_8 ?_
  have b_3 := rng.at (z := z50) h10 (by omega) (by omega)
  refine lv_iload_n hx hb dX8_mayEnter_9 rfl (lv_at hl 3 rfl) ?_
  refine ri_icmp_ne (tgt := 17) hx hb dX8_mayEnter_10 (by decide) (by omega) (by omega) (fun c_4 => ?_) (fun c_4 => ?_)
  · refine lv_iconst (v := zI 1) hx hb dX8_mayEnter_17 rfl ?_
    refine ri_icmp_eq (tgt := 25) hx hb dX8_mayEnter_18 (by decide) (by omega) (by omega) (fun c_5 => ?_) (fun c_5 => ?_)
    · refine lv_iconst (v := zI 0) hx hb dX8_mayEnter_25 rfl ?_
      exact kr_z hx hb hr rfl hlocks hP hD hS [(a1, .inr (8, [v0, v1, v2, v3, v4, v5, .ref a8, v6, v7, v8, v9, v10, v11, v12, v13, v14, v15, v16])), (a8, .inl (ty 1, 28, .inl (cI F9))), (a48, .inl (ty 1, 28, .inl f49))] [0, 1, 2] (by decide) rfl ⟨0, by omega, rfl, rfl⟩ (by decide) (by decide) dX8_mayEnter_26
    · refine lv_iconst (v := zI 1) hx hb dX8_mayEnter_21 rfl ?_
      refine lv_goto (tgt := 26) hx hb dX8_mayEnter_22 (by decide) ?_
      exact kr_z hx hb hr rfl hlocks hP hD hS [(a1, .inr (8, [v0, v1, v2, v3, v4, v5, .ref a8, v6, v7, v8, v9, v10, v11, v12, v13, v14, v15, v16])), (a8, .inl (ty 1, 28, .inl (cI F9))), (a48, .inl (ty 1, 28, .inl f49))] [0, 1, 2] (by decide) rfl ⟨1, by omega, rfl, rfl⟩ (by decide) (by decide) dX8_mayEnter_26
  · refine lv_iconst (v := zI 2) hx hb dX8_mayEnter_13 rfl ?_
    refine lv_goto (tgt := 18) hx hb dX8_mayEnter_14 (by decide) ?_
    refine ri_icmp_eq (tgt := 25) hx hb dX8_mayEnter_18 (by decide) (by omega) (by omega) (fun c_6 => ?_) (fun c_6 => ?_)
    · refine lv_iconst (v := zI 0) hx hb dX8_mayEnter_25 rfl ?_
      exact kr_z hx hb hr rfl hlocks hP hD hS [(a1, .inr (8, [v0, v1, v2, v3, v4, v5, .ref a8, v6, v7, v8, v9, v10, v11, v12, v13, v14, v15, v16])), (a8, .inl (ty 1, 28, .inl (cI F9))), (a48, .inl (ty 1, 28, .inl f49))] [0, 1, 2] (by decide) rfl ⟨0, by omega, rfl, rfl⟩ (by decide) (by decide) dX8_mayEnter_26
    · refine lv_iconst (v := zI 1) hx hb dX8_mayEnter_21 rfl ?_
      refine lv_goto (tgt := 26) hx hb dX8_mayEnter_22 (by decide) ?_
      exact kr_z hx hb hr rfl hlocks hP hD hS [(a1, .inr (8, [v0, v1, v2, v3, v4, v5, .ref a8, v6, v7, v8, v9, v10, v11, v12, v13, v14, v15, v16])), (a8, .inl (ty 1, 28, .inl (cI F9))), (a48, .inl (ty 1, 28, .inl f49))] [0, 1, 2] (by decide) rfl ⟨1, by omega, rfl, rfl⟩ (by decide) (by decide) dX8_mayEnter_26
set_option maxHeartbeats 4000000 in
set_option maxRecDepth 100000 in
theorem g_X8_isTold_6 (l : Launch) (D : va_G) (ty : Nat → ClassId) (sz : Nat) (a1 : Nat) (v0 : Value) (v1 : Value) (v2 : Value) (v3 : Value) (v4 : Value) (v5 : Value) (v6 : Value) (v7 : Value) (v8 : Value) (v9 : Value) (z18 : Int) (v10 : Value) (v11 : Value) (v12 : Value) (v13 : Value) (v14 : Value) (v15 : Value) (v16 : Value) (z48 : Int) (bz18 : (-2147483648) ≤ z18 ∧ z18 ≤ 2147483647) (bz48 : (-2147483648) ≤ z48 ∧ z48 ≤ 2147483647) : cQ l yX8_isTold cX8_isTold 2 (some .boolean) 0 0 [.ref a1, .int (zI z48)] D ty [(a1, .inr (8, [v0, v1, v2, v3, v4, v5, v6, v7, v8, v9, .int (zI z18), v10, v11, v12, v13, v14, v15, v16]))] sz (qI (fun (r : Int32) (u : va_W) => ∃  (y : Int), (0 ≤ y ∧ y ≤ 1) ∧ zI y = r ∧ [(a1, .inr (8, [v0, v1, v2, v3, v4, v5, v6, v7, v8, v9, .int (zI z18), v10, v11, v12, v13, v14, v15, v16]))] = u)) 0 0 := by
  refine cQ.of (by decide) (Nat.le_of_ble_eq_true rfl) (fun p e s m below meth c A ls C hsz hP hK hD hA hl => ?_)
  obtain ⟨hx, hb, hml, hown, hB, hr, hlocks, hin⟩ := C
  have hown : s.vm.findClass RX8 = some m.cls := hown
  have hS : va_S A s.heap s.heap [] := va_S.rf
  have hl : lv_has ls 2 [(0, .ref a1), (1, .int (zI z48))] := hl
  refine lv_aload_n hx hb dX8_isTold_0 rfl (lv_at hl 0 rfl) ?_
  refine va_get (D := D) (ci := 8) (v := .int (zI z18)) (C := RX8) (T := TX8) (N := 18) hx hb hB inB_X8 hown hK.1 hP 0 rfl rfl 10 (by decide) (hB _ mw_7) (fun _ h9 => h9) rfl dX8_isTold_1 ?_
  refine lv_iload_n hx hb dX8_isTold_4 rfl (lv_at hl 1 rfl) ?_
  refine lv_ishr hx hb dX8_isTold_5 ?_
  refine ri_any (fun z_1 r_2 _ => ?_)
  obtain ⟨r_2a, r_2b⟩ := r_2
  refine lv_iconst (v := zI 1) hx hb dX8_isTold_6 rfl ?_
  refine lv_iand hx hb dX8_isTold_7 ?_
  refine ri_any (fun z_3 r_4 _ => ?_)
  obtain ⟨r_4a, r_4b⟩ := r_4
  refine ri_if_eq (tgt := 15) hx hb dX8_isTold_8 (by decide) (by omega) (fun c_5 => ?_) (fun c_5 => ?_)
  · refine lv_iconst (v := zI 0) hx hb dX8_isTold_15 rfl ?_
    exact kr_z hx hb hr rfl hlocks hP hD hS [(a1, .inr (8, [v0, v1, v2, v3, v4, v5, v6, v7, v8, v9, .int (zI z18), v10, v11, v12, v13, v14, v15, v16]))] [0] (by decide) rfl ⟨0, by omega, rfl, rfl⟩ (by decide) (by decide) dX8_isTold_16
  · refine lv_iconst (v := zI 1) hx hb dX8_isTold_11 rfl ?_
    refine lv_goto (tgt := 16) hx hb dX8_isTold_12 (by decide) ?_
    exact kr_z hx hb hr rfl hlocks hP hD hS [(a1, .inr (8, [v0, v1, v2, v3, v4, v5, v6, v7, v8, v9, .int (zI z18), v10, v11, v12, v13, v14, v15, v16]))] [0] (by decide) rfl ⟨1, by omega, rfl, rfl⟩ (by decide) (by decide) dX8_isTold_16
set_option maxHeartbeats 4000000 in
set_option maxRecDepth 100000 in
theorem g_X8_allCorners_7 (l : Launch) (D : va_G) (ty : Nat → ClassId) (sz : Nat) (a1 : Nat) (v0 : Value) (z3 : Int) (v1 : Value) (v2 : Value) (v3 : Value) (v4 : Value) (v5 : Value) (v6 : Value) (v7 : Value) (v8 : Value) (v9 : Value) (v10 : Value) (v11 : Value) (v12 : Value) (v13 : Value) (v14 : Value) (v15 : Value) (v16 : Value) (bz3 : 2 ≤ z3 ∧ z3 ≤ 16) : cQ l yX8_allCorners cX8_allCorners 1 (some .int) 0 0 [.ref a1] D ty [(a1, .inr (8, [v0, .int (zI z3), v1, v2, v3, v4, v5, v6, v7, v8, v9, v10, v11, v12, v13, v14, v15, v16]))] sz (qI (fun (r : Int32) (u : va_W) => ∃  (y : Int), ((-2147483648) ≤ y ∧ y ≤ 2147483647) ∧ zI y = r ∧ [(a1, .inr (8, [v0, .int (zI z3), v1, v2, v3, v4, v5, v6, v7, v8, v9, v10, v11, v12, v13, v14, v15, v16]))] = u)) 0 0 := by
  refine cQ.of (by decide) (Nat.le_of_ble_eq_true rfl) (fun p e s m below meth c A ls C hsz hP hK hD hA hl => ?_)
  obtain ⟨hx, hb, hml, hown, hB, hr, hlocks, hin⟩ := C
  have hown : s.vm.findClass RX8 = some m.cls := hown
  have hS : va_S A s.heap s.heap [] := va_S.rf
  have hl : lv_has ls 1 [(0, .ref a1)] := hl
  refine lv_iconst (v := zI 1) hx hb dX8_allCorners_0 rfl ?_
  refine lv_aload_n hx hb dX8_allCorners_1 rfl (lv_at hl 0 rfl) ?_
  refine va_get (D := D) (ci := 8) (v := .int (zI z3)) (C := RX8) (T := TX8) (N := 18) hx hb hB inB_X8 hown hK.1 hP 0 rfl rfl 1 (by decide) (hB _ mw_8) (fun _ h9 => h9) rfl dX8_allCorners_2 ?_
  refine lv_ishl hx hb dX8_allCorners_5 ?_
  refine ri_any (fun z_1 r_2 _ => ?_)
  obtain ⟨r_2a, r_2b⟩ := r_2
  refine lv_iconst (v := zI 1) hx hb dX8_allCorners_6 rfl ?_
  refine ri_sub hx hb dX8_allCorners_7 ?_
  refine ri_any (fun z_3 r_4 _ => ?_)
  obtain ⟨r_4a, r_4b⟩ := r_4
  exact kr_z hx hb hr rfl hlocks hP hD hS [(a1, .inr (8, [v0, .int (zI z3), v1, v2, v3, v4, v5, v6, v7, v8, v9, v10, v11, v12, v13, v14, v15, v16]))] [0] (by decide) rfl ⟨z_3, by omega, rfl, rfl⟩ (by decide) (by decide) dX8_allCorners_8
set_option maxHeartbeats 4000000 in
set_option maxRecDepth 100000 in
theorem g_X8_gridAlleys_8 (l : Launch) (D : va_G) (ty : Nat → ClassId) (sz : Nat) (a1 : Nat) (v0 : Value) (v1 : Value) (v2 : Value) (v3 : Value) (z6 : Int) (z7 : Int) (v4 : Value) (v5 : Value) (v6 : Value) (v7 : Value) (v8 : Value) (v9 : Value) (v10 : Value) (v11 : Value) (v12 : Value) (v13 : Value) (v14 : Value) (v15 : Value) (bz6 : 0 ≤ z6 ∧ z6 ≤ 4) (bz7 : 0 ≤ z7 ∧ z7 ≤ 4) : cQ l yX8_gridAlleys cX8_gridAlleys 1 (some .int) 0 0 [.ref a1] D ty [(a1, .inr (8, [v0, v1, v2, v3, .int (zI z6), .int (zI z7), v4, v5, v6, v7, v8, v9, v10, v11, v12, v13, v14, v15]))] sz (qI (fun (r : Int32) (u : va_W) => ∃  (y : Int), ((-2147483648) ≤ y ∧ y ≤ 2147483647) ∧ zI y = r ∧ [(a1, .inr (8, [v0, v1, v2, v3, .int (zI z6), .int (zI z7), v4, v5, v6, v7, v8, v9, v10, v11, v12, v13, v14, v15]))] = u)) 0 0 := by
  refine cQ.of (by decide) (Nat.le_of_ble_eq_true rfl) (fun p e s m below meth c A ls C hsz hP hK hD hA hl => ?_)
  obtain ⟨hx, hb, hml, hown, hB, hr, hlocks, hin⟩ := C
  have hown : s.vm.findClass RX8 = some m.cls := hown
  have hS : va_S A s.heap s.heap [] := va_S.rf
  have hl : lv_has ls 1 [(0, .ref a1)] := hl
  refine lv_aload_n hx hb dX8_gridAlleys_0 rfl (lv_at hl 0 rfl) ?_
  refine va_get (D := D) (ci := 8) (v := .int (zI z6)) (C := RX8) (T := TX8) (N := 18) hx hb hB inB_X8 hown hK.1 hP 0 rfl rfl 4 (by decide) (hB _ mw_9) (fun _ h9 => h9) rfl dX8_gridAlleys_1 ?_
  refine ri_if_ne (tgt := 11) hx hb dX8_gridAlleys_4 (by decide) (by omega) (fun c_1 => ?_) (fun c_1 => ?_)
  · refine lv_aload_n hx hb dX8_gridAlleys_11 rfl (lv_at hl 0 rfl) ?_
    refine va_get (D := D) (ci := 8) (v := .int (zI z6)) (C := RX8) (T := TX8) (N := 18) hx hb hB inB_X8 hown hK.1 hP 0 rfl rfl 4 (by decide) (hB _ mw_9) (fun _ h9 => h9) rfl dX8_gridAlleys_12 ?_
    refine lv_iconst (v := zI 1) hx hb dX8_gridAlleys_15 rfl ?_
    refine ri_sub hx hb dX8_gridAlleys_16 ?_
    refine lv_aload_n hx hb dX8_gridAlleys_17 rfl (lv_at hl 0 rfl) ?_
    refine va_get (D := D) (ci := 8) (v := .int (zI z7)) (C := RX8) (T := TX8) (N := 18) hx hb hB inB_X8 hown hK.1 hP 0 rfl rfl 5 (by decide) (hB _ mw_10) (fun _ h9 => h9) rfl dX8_gridAlleys_18 ?_
    refine ri_mul hx hb dX8_gridAlleys_21 ?_
    refine ri_any (fun z_2 r_3 _ => ?_)
    obtain ⟨r_3a, r_3b⟩ := r_3
    refine lv_aload_n hx hb dX8_gridAlleys_22 rfl (lv_at hl 0 rfl) ?_
    refine va_get (D := D) (ci := 8) (v := .int (zI z6)) (C := RX8) (T := TX8) (N := 18) hx hb hB inB_X8 hown hK.1 hP 0 rfl rfl 4 (by decide) (hB _ mw_9) (fun _ h9 => h9) rfl dX8_gridAlleys_23 ?_
    refine lv_aload_n hx hb dX8_gridAlleys_26 rfl (lv_at hl 0 rfl) ?_
    refine va_get (D := D) (ci := 8) (v := .int (zI z7)) (C := RX8) (T := TX8) (N := 18) hx hb hB inB_X8 hown hK.1 hP 0 rfl rfl 5 (by decide) (hB _ mw_10) (fun _ h9 => h9) rfl dX8_gridAlleys_27 ?_
    refine lv_iconst (v := zI 1) hx hb dX8_gridAlleys_30 rfl ?_
    refine ri_sub hx hb dX8_gridAlleys_31 ?_
    refine ri_mul hx hb dX8_gridAlleys_32 ?_
    refine ri_any (fun z_4 r_5 _ => ?_)
    obtain ⟨r_5a, r_5b⟩ := r_5
    refine ri_add hx hb dX8_gridAlleys_33 ?_
    refine ri_any (fun z_6 r_7 _ => ?_)
    obtain ⟨r_7a, r_7b⟩ := r_7
    exact kr_z hx hb hr rfl hlocks hP hD hS [(a1, .inr (8, [v0, v1, v2, v3, .int (zI z6), .int (zI z7), v4, v5, v6, v7, v8, v9, v10, v11, v12, v13, v14, v15]))] [0] (by decide) rfl ⟨z_6, by omega, rfl, rfl⟩ (by decide) (by decide) dX8_gridAlleys_34
  · refine lv_iconst (v := zI 0) hx hb dX8_gridAlleys_7 rfl ?_
    refine lv_goto (tgt := 34) hx hb dX8_gridAlleys_8 (by decide) ?_
    exact kr_z hx hb hr rfl hlocks hP hD hS [(a1, .inr (8, [v0, v1, v2, v3, .int (zI z6), .int (zI z7), v4, v5, v6, v7, v8, v9, v10, v11, v12, v13, v14, v15]))] [0] (by decide) rfl ⟨0, by omega, rfl, rfl⟩ (by decide) (by decide) dX8_gridAlleys_34
set_option maxHeartbeats 4000000 in
set_option maxRecDepth 100000 in
theorem g_X6_isAlike_11 (l : Launch) (D : va_G) (ty : Nat → ClassId) (sz : Nat) (a1 : Nat) (a7 : Nat) (a11 : Nat) (a4 : Nat) (v0 : Value) (v1 : Value) (F5 : Nat → Int) (F8 : Nat → Int) (f12 : Nat → Int32) (z10 : Int) (bz10 : 0 ≤ z10 ∧ z10 ≤ 5) (h6 : rng F5 6 0 6) (h9 : rng F8 36 0 27) : cQ l yX6_isAlike cX6_isAlike 5 (some .boolean) 0 0 [.ref a1, .int (zI z10), .ref a11] D ty [(a1, .inr (6, [v0, v1, .ref a4, .ref a7])), (a4, .inl (ty 1, 6, .inl (cI F5))), (a7, .inl (ty 1, 36, .inl (cI F8))), (a11, .inl (ty 1, 28, .inl f12))] sz (qI (fun (r : Int32) (u : va_W) => ∃  (y : Int), (0 ≤ y ∧ y ≤ 1) ∧ zI y = r ∧ [(a1, .inr (6, [v0, v1, .ref a4, .ref a7])), (a4, .inl (ty 1, 6, .inl (cI F5))), (a7, .inl (ty 1, 36, .inl (cI F8))), (a11, .inl (ty 1, 28, .inl f12))] = u)) 0 0 := by
  refine cQ.of (by decide) (Nat.le_of_ble_eq_true rfl) (fun p e s m below meth c A ls C hsz hP hK hD hA hl => ?_)
  obtain ⟨hx, hb, hml, hown, hB, hr, hlocks, hin⟩ := C
  have hown : s.vm.findClass RX6 = some m.cls := hown
  have hS : va_S A s.heap s.heap [] := va_S.rf
  have hl : lv_has ls 5 [(0, .ref a1), (1, .int (zI z10)), (2, .ref a11)] := hl
  refine lv_aload_n hx hb dX6_isAlike_0 rfl (lv_at hl 2 rfl) ?_
  refine lv_aload_n hx hb dX6_isAlike_1 rfl (lv_at hl 0 rfl) ?_
  refine va_get (D := D) (ci := 6) (v := .ref a7) (C := RX6) (T := TX6) (N := 4) hx hb hB inB_X6 hown hK.1 hP 0 rfl rfl 3 (by decide) (hB _ mw_13) (fun _ h9 => h9) rfl dX6_isAlike_2 ?_
  refine lv_iload_n hx hb dX6_isAlike_5 rfl (lv_at hl 1 rfl) ?_
  refine lv_bipush (v := zI 6) hx hb dX6_isAlike_6 rfl ?_
  refine ri_mul hx hb dX6_isAlike_8 ?_
  refine ri_iald hx hb hK hP 2 rfl (by omega) (by omega) (by omega) dX6_isAlike_9 ?_
  have b_1 := rng.at (z := (z10 * 6)) h9 (by omega) (by omega)
  refine va_iald hx hb hK.1 hP 3 1 rfl rfl (zI_in (by omega) (by omega) (by omega)) dX6_isAlike_10 ?_
  refine ri_any (fun z_2 r_3 _ => ?_)
  obtain ⟨r_3a, r_3b⟩ := r_3
  refine lv_istore_n (lv' := [(3, .int (zI z_2)), (0, .ref a1), (1, .int (zI z10)), (2, .ref a11)]) hx hb dX6_isAlike_11 rfl hl (by decide) rfl (fun ls hl => ?_)
  refine lv_iconst (v := zI 1) hx hb dX6_isAlike_12 rfl ?_
  refine lv_istore (lv' := [(4, .int (zI 1)), (3, .int (zI z_2)), (0, .ref a1), (1, .int (zI z10)), (2, .ref a11)]) hx hb dX6_isAlike_13 hl (by decide) rfl (fun ls hl => ?_)
  have lp5 : (∀ (z_4 : Int) (H : Heap) (locs : List Loc) (ls : Array Slot), (1 ≤ z_4 ∧ z_4 ≤ 6) → va_P D vwCl [(a1, .inr (6, [v0, v1, .ref a4, .ref a7])), (a4, .inl (ty 1, 6, .inl (cI F5))), (a7, .inl (ty 1, 36, .inl (cI F8))), (a11, .inl (ty 1, 28, .inl f12))] H → va_D A [(a1, .inr (6, [v0, v1, .ref a4, .ref a7])), (a4, .inl (ty 1, 6, .inl (cI F5))), (a7, .inl (ty 1, 36, .inl (cI F8))), (a11, .inl (ty 1, 28, .inl f12))] → va_S A s.heap H locs → lv_has ls 5 [(4, .int (zI z_4)), (3, .int (zI z_2)), (0, .ref a1), (1, .int (zI z10)), (2, .ref a11)] → W p l e ({ frames := 0, cells := 0, slots := 0, locals := 0 }) s m ([.ref a1, .int (zI z10), .ref a11] : List Value).toArray below meth c H locs 0 0 (MQ below ((qI (fun (r : Int32) (u : va_W) => ∃  (y : Int), (0 ≤ y ∧ y ≤ 1) ∧ zI y = r ∧ [(a1, .inr (6, [v0, v1, .ref a4, .ref a7])), (a4, .inl (ty 1, 6, .inl (cI F5))), (a7, .inl (ty 1, 36, .inl (cI F8))), (a11, .inl (ty 1, 28, .inl f12))] = u)) D A) ([.ref a1, .int (zI z10), .ref a11] : List Value).toArray s 0 0 A) (F0 m 52 ls [])) →
      ∀ (k : Nat) (z_4 : Int) (H : Heap) (locs : List Loc) (ls : Array Slot), (6 - z_4).toNat < k → (1 ≤ z_4 ∧ z_4 ≤ 6) → va_P D vwCl [(a1, .inr (6, [v0, v1, .ref a4, .ref a7])), (a4, .inl (ty 1, 6, .inl (cI F5))), (a7, .inl (ty 1, 36, .inl (cI F8))), (a11, .inl (ty 1, 28, .inl f12))] H → va_D A [(a1, .inr (6, [v0, v1, .ref a4, .ref a7])), (a4, .inl (ty 1, 6, .inl (cI F5))), (a7, .inl (ty 1, 36, .inl (cI F8))), (a11, .inl (ty 1, 28, .inl f12))] → va_S A s.heap H locs → lv_has ls 5 [(4, .int (zI z_4)), (3, .int (zI z_2)), (0, .ref a1), (1, .int (zI z10)), (2, .ref a11)] → W p l e ({ frames := 0, cells := 0, slots := 0, locals := 0 }) s m ([.ref a1, .int (zI z10), .ref a11] : List Value).toArray below meth c H locs 0 0 (MQ below ((qI (fun (r : Int32) (u : va_W) => ∃  (y : Int), (0 ≤ y ∧ y ≤ 1) ∧ zI y = r ∧ [(a1, .inr (6, [v0, v1, .ref a4, .ref a7])), (a4, .inl (ty 1, 6, .inl (cI F5))), (a7, .inl (ty 1, 36, .inl (cI F8))), (a11, .inl (ty 1, 28, .inl f12))] = u)) D A) ([.ref a1, .int (zI z10), .ref a11] : List Value).toArray s 0 0 A) (F0 m 15 ls []) := by
    intro kk5 k
    induction k with
    | zero => intro z_4 H locs ls hk; exact absurd hk (Nat.not_lt_zero _)
    | succ k ih5 =>
      intro z_4 H locs ls hk i_6 hP hD hS hl
      refine lv_iload hx hb dX6_isAlike_15 (lv_at hl 0 rfl) ?_
      refine lv_aload_n hx hb dX6_isAlike_17 rfl (lv_at hl 2 rfl) ?_
      refine va_get (D := D) (ci := 6) (v := .ref a4) (C := RX6) (T := TX6) (N := 4) hx hb hB inB_X6 hown hK.1 hP 0 rfl rfl 2 (by decide) (hB _ mw_14) (fun _ h9 => h9) rfl dX6_isAlike_18 ?_
      refine lv_iload_n hx hb dX6_isAlike_21 rfl (lv_at hl 3 rfl) ?_
      refine ri_iald hx hb hK hP 1 rfl (by omega) (by omega) (by omega) dX6_isAlike_22 ?_
      have b_7 := rng.at (z := z10) h6 (by omega) (by omega)
      refine ri_icmp_ge (tgt := 52) hx hb dX6_isAlike_23 (by decide) (by omega) (by omega) (fun c_8 => ?_) (fun c_8 => ?_)
      · exact kk5 z_4 H locs ls (by omega) hP hD hS hl
      · refine lv_aload_n hx hb dX6_isAlike_26 rfl (lv_at hl 4 rfl) ?_
        refine lv_aload_n hx hb dX6_isAlike_27 rfl (lv_at hl 2 rfl) ?_
        refine va_get (D := D) (ci := 6) (v := .ref a7) (C := RX6) (T := TX6) (N := 4) hx hb hB inB_X6 hown hK.1 hP 0 rfl rfl 3 (by decide) (hB _ mw_13) (fun _ h9 => h9) rfl dX6_isAlike_28 ?_
        refine lv_iload_n hx hb dX6_isAlike_31 rfl (lv_at hl 3 rfl) ?_
        refine lv_bipush (v := zI 6) hx hb dX6_isAlike_32 rfl ?_
        refine ri_mul hx hb dX6_isAlike_34 ?_
        refine lv_iload hx hb dX6_isAlike_35 (lv_at hl 0 rfl) ?_
        refine ri_add hx hb dX6_isAlike_37 ?_
        refine ri_iald hx hb hK hP 2 rfl (by omega) (by omega) (by omega) dX6_isAlike_38 ?_
        have b_9 := rng.at (z := ((z10 * 6) + z_4)) h9 (by omega) (by omega)
        refine va_iald hx hb hK.1 hP 3 1 rfl rfl (zI_in (by omega) (by omega) (by omega)) dX6_isAlike_39 ?_
        refine ri_any (fun z_10 r_11 _ => ?_)
        obtain ⟨r_11a, r_11b⟩ := r_11
        refine lv_iload_n hx hb dX6_isAlike_40 rfl (lv_at hl 1 rfl) ?_
        refine ri_icmp_eq (tgt := 46) hx hb dX6_isAlike_41 (by decide) (by omega) (by omega) (fun c_12 => ?_) (fun c_12 => ?_)
        · refine lv_iinc (v := zI (z_4 + 1)) (lv' := [(4, .int (zI (z_4 + 1))), (3, .int (zI z_2)), (0, .ref a1), (1, .int (zI z10)), (2, .ref a11)]) hx hb dX6_isAlike_46 hl (k := 0) rfl (zI_add _ _) (by decide) rfl (fun ls hl => ?_)
          refine lv_goto (tgt := 15) hx hb dX6_isAlike_49 (by decide) ?_
          exact ih5 (z_4 + 1) H locs ls (by omega) (by omega) hP hD hS hl
        · refine lv_iconst (v := zI 0) hx hb dX6_isAlike_44 rfl ?_
          exact kr_z hx hb hr rfl hlocks hP hD hS [(a1, .inr (6, [v0, v1, .ref a4, .ref a7])), (a4, .inl (ty 1, 6, .inl (cI F5))), (a7, .inl (ty 1, 36, .inl (cI F8))), (a11, .inl (ty 1, 28, .inl f12))] [0, 1, 2, 3] (by decide) rfl ⟨0, by omega, rfl, rfl⟩ (by decide) (by decide) dX6_isAlike_45
  refine lp5 (fun z_4 H locs ls i_6 hP hD hS hl => ?_) 7 1 _ _ ls (by omega) (by omega) hP hD hS hl
  refine lv_iconst (v := zI 1) hx hb dX6_isAlike_52 rfl ?_
  exact kr_z hx hb hr rfl hlocks hP hD hS [(a1, .inr (6, [v0, v1, .ref a4, .ref a7])), (a4, .inl (ty 1, 6, .inl (cI F5))), (a7, .inl (ty 1, 36, .inl (cI F8))), (a11, .inl (ty 1, 28, .inl f12))] [0, 1, 2, 3] (by decide) rfl ⟨1, by omega, rfl, rfl⟩ (by decide) (by decide) dX6_isAlike_53
set_option maxHeartbeats 4000000 in
set_option maxRecDepth 100000 in
theorem g_X2_detour_12 (l : Launch) (D : va_G) (ty : Nat → ClassId) (sz : Nat) (a1 : Nat) (a2 : Nat) (a14 : Nat) (a58 : Nat) (v0 : Value) (v1 : Value) (v2 : Value) (v3 : Value) (v4 : Value) (f3 : Nat → Int32) (v5 : Value) (v6 : Value) (v7 : Value) (v8 : Value) (v9 : Value) (v10 : Value) (v11 : Value) (v12 : Value) (v13 : Value) (v14 : Value) (v15 : Value) (v16 : Value) (v17 : Value) (v18 : Value) (v19 : Value) (v20 : Value) (v21 : Value) (f59 : Nat → Int32) (z61 : Int) (z62 : Int) (bz61 : 0 ≤ z61 ∧ z61 ≤ 15) (bz62 : 0 ≤ z62 ∧ z62 ≤ 15) : cQ l yX2_detour cX2_detour 4 (some .int) 0 0 [.ref a1, .ref a14, .int (zI z61), .int (zI z62)] D ty [(a1, .inr (2, [.ref a2, v0, v1, v2, v3, v4])), (a2, .inl (ty 1, 16, .inl f3)), (a14, .inr (8, [v5, v6, v7, v8, v9, v10, v11, v12, v13, v14, v15, v16, v17, v18, v19, v20, .ref a58, v21])), (a58, .inl (ty 1, 256, .inl f59))] sz (qI (fun (r : Int32) (u : va_W) => ∃  (y : Int), ((-2147483648) ≤ y ∧ y ≤ 2147483647) ∧ zI y = r ∧ [(a1, .inr (2, [.ref a2, v0, v1, v2, v3, v4])), (a2, .inl (ty 1, 16, .inl f3)), (a14, .inr (8, [v5, v6, v7, v8, v9, v10, v11, v12, v13, v14, v15, v16, v17, v18, v19, v20, .ref a58, v21])), (a58, .inl (ty 1, 256, .inl f59))] = u)) 0 0 := by
  refine cQ.of (by decide) (Nat.le_of_ble_eq_true rfl) (fun p e s m below meth c A ls C hsz hP hK hD hA hl => ?_)
  obtain ⟨hx, hb, hml, hown, hB, hr, hlocks, hin⟩ := C
  have hown : s.vm.findClass RX2 = some m.cls := hown
  have hS : va_S A s.heap s.heap [] := va_S.rf
  have hl : lv_has ls 4 [(0, .ref a1), (1, .ref a14), (2, .int (zI z61)), (3, .int (zI z62))] := hl
  refine lv_aload_n hx hb dX2_detour_0 rfl (lv_at hl 0 rfl) ?_
  refine va_get (D := D) (ci := 2) (v := .ref a2) (C := RX2) (T := TX2) (N := 6) hx hb hB inB_X2 hown hK.1 hP 0 rfl rfl 0 (by decide) (hB _ mw_2) (fun _ h9 => h9) rfl dX2_detour_1 ?_
  refine lv_iload_n hx hb dX2_detour_4 rfl (lv_at hl 2 rfl) ?_
  refine va_iald hx hb hK.1 hP 1 1 rfl rfl (zI_in (by omega) (by omega) (by omega)) dX2_detour_5 ?_
  refine ri_any (fun z_1 r_2 _ => ?_)
  obtain ⟨r_2a, r_2b⟩ := r_2
  refine lv_ldc hx hb hown (hB _ mw_0) dX2_detour_6 ?_
  refine tp_i (v := zI 1000000) rfl ?_
  refine ri_icmp_lt (tgt := 15) hx hb dX2_detour_8 (by decide) (by omega) (by omega) (fun c_3 => ?_) (fun c_3 => ?_)
  · refine lv_aload_n hx hb dX2_detour_15 rfl (lv_at hl 0 rfl) ?_
    refine va_get (D := D) (ci := 2) (v := .ref a2) (C := RX2) (T := TX2) (N := 6) hx hb hB inB_X2 hown hK.1 hP 0 rfl rfl 0 (by decide) (hB _ mw_2) (fun _ h9 => h9) rfl dX2_detour_16 ?_
    refine lv_iload_n hx hb dX2_detour_19 rfl (lv_at hl 2 rfl) ?_
    refine va_iald hx hb hK.1 hP 1 1 rfl rfl (zI_in (by omega) (by omega) (by omega)) dX2_detour_20 ?_
    refine ri_any (fun z_4 r_5 _ => ?_)
    obtain ⟨r_5a, r_5b⟩ := r_5
    refine lv_aload_n hx hb dX2_detour_21 rfl (lv_at hl 1 rfl) ?_
    refine va_get (D := D) (ci := 8) (v := .ref a58) (C := RX8) (T := TX8) (N := 18) hx hb hB inB_X8 hown hK.1 hP 2 rfl rfl 16 (by decide) (hB _ mw_15) (fun _ h9 => h9) rfl dX2_detour_22 ?_
    refine lv_iload_n hx hb dX2_detour_25 rfl (lv_at hl 2 rfl) ?_
    refine lv_bipush (v := zI 16) hx hb dX2_detour_26 rfl ?_
    refine ri_mul hx hb dX2_detour_28 ?_
    refine lv_iload_n hx hb dX2_detour_29 rfl (lv_at hl 3 rfl) ?_
    refine ri_add hx hb dX2_detour_30 ?_
    refine va_iald hx hb hK.1 hP 3 1 rfl rfl (zI_in (by omega) (by omega) (by omega)) dX2_detour_31 ?_
    refine ri_any (fun z_6 r_7 _ => ?_)
    obtain ⟨r_7a, r_7b⟩ := r_7
    refine ri_sub hx hb dX2_detour_32 ?_
    refine ri_any (fun z_8 r_9 _ => ?_)
    obtain ⟨r_9a, r_9b⟩ := r_9
    exact kr_z hx hb hr rfl hlocks hP hD hS [(a1, .inr (2, [.ref a2, v0, v1, v2, v3, v4])), (a2, .inl (ty 1, 16, .inl f3)), (a14, .inr (8, [v5, v6, v7, v8, v9, v10, v11, v12, v13, v14, v15, v16, v17, v18, v19, v20, .ref a58, v21])), (a58, .inl (ty 1, 256, .inl f59))] [0, 1, 2, 3] (by decide) rfl ⟨z_8, by omega, rfl, rfl⟩ (by decide) (by decide) dX2_detour_33
  · refine lv_iconst (v := zI (-1)) hx hb dX2_detour_11 rfl ?_
    refine lv_goto (tgt := 33) hx hb dX2_detour_12 (by decide) ?_
    exact kr_z hx hb hr rfl hlocks hP hD hS [(a1, .inr (2, [.ref a2, v0, v1, v2, v3, v4])), (a2, .inl (ty 1, 16, .inl f3)), (a14, .inr (8, [v5, v6, v7, v8, v9, v10, v11, v12, v13, v14, v15, v16, v17, v18, v19, v20, .ref a58, v21])), (a58, .inl (ty 1, 256, .inl f59))] [0, 1, 2, 3] (by decide) rfl ⟨(-1), by omega, rfl, rfl⟩ (by decide) (by decide) dX2_detour_33
set_option maxHeartbeats 4000000 in
set_option maxRecDepth 100000 in
theorem g_X4_isThere_13 (l : Launch) (D : va_G) (ty : Nat → ClassId) (sz : Nat) (a1 : Nat) (z2 : Int) (v0 : Value) (v1 : Value) (bz2 : (-1) ≤ z2 ∧ z2 ≤ 3) : cQ l yX4_isThere cX4_isThere 1 (some .boolean) 0 0 [.ref a1] D ty [(a1, .inr (4, [.int (zI z2), v0, v1]))] sz (qI (fun (r : Int32) (u : va_W) => ∃  (y : Int), (0 ≤ y ∧ y ≤ 1) ∧ zI y = r ∧ [(a1, .inr (4, [.int (zI z2), v0, v1]))] = u)) 0 0 := by
  refine cQ.of (by decide) (Nat.le_of_ble_eq_true rfl) (fun p e s m below meth c A ls C hsz hP hK hD hA hl => ?_)
  obtain ⟨hx, hb, hml, hown, hB, hr, hlocks, hin⟩ := C
  have hown : s.vm.findClass RX4 = some m.cls := hown
  have hS : va_S A s.heap s.heap [] := va_S.rf
  have hl : lv_has ls 1 [(0, .ref a1)] := hl
  refine lv_aload_n hx hb dX4_isThere_0 rfl (lv_at hl 0 rfl) ?_
  refine va_get (D := D) (ci := 4) (v := .int (zI z2)) (C := RX4) (T := TX4) (N := 3) hx hb hB inB_X4 hown hK.1 hP 0 rfl rfl 0 (by decide) (hB _ mw_16) (fun _ h9 => h9) rfl dX4_isThere_1 ?_
  refine lv_iconst (v := zI (-1)) hx hb dX4_isThere_4 rfl ?_
  refine ri_icmp_eq (tgt := 12) hx hb dX4_isThere_5 (by decide) (by omega) (by omega) (fun c_1 => ?_) (fun c_1 => ?_)
  · refine lv_iconst (v := zI 0) hx hb dX4_isThere_12 rfl ?_
    exact kr_z hx hb hr rfl hlocks hP hD hS [(a1, .inr (4, [.int (zI z2), v0, v1]))] [0] (by decide) rfl ⟨0, by omega, rfl, rfl⟩ (by decide) (by decide) dX4_isThere_13
  · refine lv_iconst (v := zI 1) hx hb dX4_isThere_8 rfl ?_
    refine lv_goto (tgt := 13) hx hb dX4_isThere_9 (by decide) ?_
    exact kr_z hx hb hr rfl hlocks hP hD hS [(a1, .inr (4, [.int (zI z2), v0, v1]))] [0] (by decide) rfl ⟨1, by omega, rfl, rfl⟩ (by decide) (by decide) dX4_isThere_13
set_option maxHeartbeats 4000000 in
set_option maxRecDepth 100000 in
theorem g_X4_hasPart_14 (l : Launch) (D : va_G) (ty : Nat → ClassId) (sz : Nat) (a1 : Nat) (v0 : Value) (z3 : Int) (v1 : Value) (z6 : Int) (z7 : Int) (bz3 : 0 ≤ z3 ∧ z3 ≤ 60) (bz6 : (-2147483648) ≤ z6 ∧ z6 ≤ 2147483647) (bz7 : (-2147483648) ≤ z7 ∧ z7 ≤ 2147483647) : cQ l yX4_hasPart cX4_hasPart 3 (some .boolean) 0 0 [.ref a1, .int (zI z6), .int (zI z7)] D ty [(a1, .inr (4, [v0, .int (zI z3), v1]))] sz (qI (fun (r : Int32) (u : va_W) => ∃  (y : Int), (0 ≤ y ∧ y ≤ 1) ∧ zI y = r ∧ [(a1, .inr (4, [v0, .int (zI z3), v1]))] = u)) 0 0 := by
  refine cQ.of (by decide) (Nat.le_of_ble_eq_true rfl) (fun p e s m below meth c A ls C hsz hP hK hD hA hl => ?_)
  obtain ⟨hx, hb, hml, hown, hB, hr, hlocks, hin⟩ := C
  have hown : s.vm.findClass RX4 = some m.cls := hown
  have hS : va_S A s.heap s.heap [] := va_S.rf
  have hl : lv_has ls 3 [(0, .ref a1), (1, .int (zI z6)), (2, .int (zI z7))] := hl
  refine lv_iload_n hx hb dX4_hasPart_0 rfl (lv_at hl 1 rfl) ?_
  refine ri_if_lt (tgt := 30) hx hb dX4_hasPart_1 (by decide) (by omega) (fun c_1 => ?_) (fun c_1 => ?_)
  · refine lv_iconst (v := zI 0) hx hb dX4_hasPart_30 rfl ?_
    exact kr_z hx hb hr rfl hlocks hP hD hS [(a1, .inr (4, [v0, .int (zI z3), v1]))] [0] (by decide) rfl ⟨0, by omega, rfl, rfl⟩ (by decide) (by decide) dX4_hasPart_31
  · refine lv_iload_n hx hb dX4_hasPart_4 rfl (lv_at hl 2 rfl) ?_
    refine ri_if_lt (tgt := 30) hx hb dX4_hasPart_5 (by decide) (by omega) (fun c_2 => ?_) (fun c_2 => ?_)
    · refine lv_iconst (v := zI 0) hx hb dX4_hasPart_30 rfl ?_
      exact kr_z hx hb hr rfl hlocks hP hD hS [(a1, .inr (4, [v0, .int (zI z3), v1]))] [0] (by decide) rfl ⟨0, by omega, rfl, rfl⟩ (by decide) (by decide) dX4_hasPart_31
    · refine lv_iload_n hx hb dX4_hasPart_8 rfl (lv_at hl 2 rfl) ?_
      refine lv_aload_n hx hb dX4_hasPart_9 rfl (lv_at hl 0 rfl) ?_
      refine va_get (D := D) (ci := 4) (v := .int (zI z3)) (C := RX4) (T := TX4) (N := 3) hx hb hB inB_X4 hown hK.1 hP 0 rfl rfl 1 (by decide) (hB _ mw_17) (fun _ h9 => h9) rfl dX4_hasPart_10 ?_
      refine ri_icmp_gt (tgt := 30) hx hb dX4_hasPart_13 (by decide) (by omega) (by omega) (fun c_3 => ?_) (fun c_3 => ?_)
      · refine lv_iconst (v := zI 0) hx hb dX4_hasPart_30 rfl ?_
        exact kr_z hx hb hr rfl hlocks hP hD hS [(a1, .inr (4, [v0, .int (zI z3), v1]))] [0] (by decide) rfl ⟨0, by omega, rfl, rfl⟩ (by decide) (by decide) dX4_hasPart_31
      · refine lv_iload_n hx hb dX4_hasPart_16 rfl (lv_at hl 1 rfl) ?_
        refine lv_aload_n hx hb dX4_hasPart_17 rfl (lv_at hl 0 rfl) ?_
        refine va_get (D := D) (ci := 4) (v := .int (zI z3)) (C := RX4) (T := TX4) (N := 3) hx hb hB inB_X4 hown hK.1 hP 0 rfl rfl 1 (by decide) (hB _ mw_17) (fun _ h9 => h9) rfl dX4_hasPart_18 ?_
        refine lv_iload_n hx hb dX4_hasPart_21 rfl (lv_at hl 2 rfl) ?_
        refine ri_sub hx hb dX4_hasPart_22 ?_
        refine ri_icmp_gt (tgt := 30) hx hb dX4_hasPart_23 (by decide) (by omega) (by omega) (fun c_4 => ?_) (fun c_4 => ?_)
        · refine lv_iconst (v := zI 0) hx hb dX4_hasPart_30 rfl ?_
          exact kr_z hx hb hr rfl hlocks hP hD hS [(a1, .inr (4, [v0, .int (zI z3), v1]))] [0] (by decide) rfl ⟨0, by omega, rfl, rfl⟩ (by decide) (by decide) dX4_hasPart_31
        · refine lv_iconst (v := zI 1) hx hb dX4_hasPart_26 rfl ?_
          refine lv_goto (tgt := 31) hx hb dX4_hasPart_27 (by decide) ?_
          exact kr_z hx hb hr rfl hlocks hP hD hS [(a1, .inr (4, [v0, .int (zI z3), v1]))] [0] (by decide) rfl ⟨1, by omega, rfl, rfl⟩ (by decide) (by decide) dX4_hasPart_31
set_option maxHeartbeats 4000000 in
set_option maxRecDepth 100000 in
theorem g_X3_priceOf_15 (l : Launch) (D : va_G) (ty : Nat → ClassId) (sz : Nat) (a24 : Nat) (a1 : Nat) (a15 : Nat) (a39 : Nat) (v0 : Value) (v1 : Value) (v2 : Value) (v3 : Value) (F16 : Nat → Int) (v4 : Value) (v5 : Value) (v6 : Value) (v7 : Value) (v8 : Value) (v9 : Value) (v10 : Value) (v11 : Value) (v12 : Value) (v13 : Value) (v14 : Value) (v15 : Value) (v16 : Value) (v17 : Value) (v18 : Value) (v19 : Value) (v20 : Value) (f40 : Nat → Int32) (z71 : Int) (z72 : Int) (bz71 : 0 ≤ z71 ∧ z71 ≤ 9) (bz72 : (-2147483648) ≤ z72 ∧ z72 ≤ 2147483647) (h17 : rng F16 9 0 27) : cQ l yX3_priceOf cX3_priceOf 6 (some .int) 0 0 [.ref a1, .ref a24, .int (zI z71), .int (zI z72)] D ty [(a1, .inr (3, [v0, .ref a15, v1, v2, v3])), (a15, .inl (ty 1, 9, .inl (cI F16))), (a24, .inr (8, [v4, v5, v6, v7, v8, v9, v10, v11, v12, .ref a39, v13, v14, v15, v16, v17, v18, v19, v20])), (a39, .inl (ty 1, 28, .inl f40))] sz (qI (fun (r : Int32) (u : va_W) => ∃  (y : Int), ((-2147483648) ≤ y ∧ y ≤ 2147483647) ∧ zI y = r ∧ [(a1, .inr (3, [v0, .ref a15, v1, v2, v3])), (a15, .inl (ty 1, 9, .inl (cI F16))), (a24, .inr (8, [v4, v5, v6, v7, v8, v9, v10, v11, v12, .ref a39, v13, v14, v15, v16, v17, v18, v19, v20])), (a39, .inl (ty 1, 28, .inl f40))] = u)) 0 0 := by
  refine cQ.of (by decide) (Nat.le_of_ble_eq_true rfl) (fun p e s m below meth c A ls C hsz hP hK hD hA hl => ?_)
  obtain ⟨hx, hb, hml, hown, hB, hr, hlocks, hin⟩ := C
  have hown : s.vm.findClass RX3 = some m.cls := hown
  have hS : va_S A s.heap s.heap [] := va_S.rf
  have hl : lv_has ls 6 [(0, .ref a1), (1, .ref a24), (2, .int (zI z71)), (3, .int (zI z72))] := hl
  refine lv_iconst (v := zI 0) hx hb dX3_priceOf_0 rfl ?_
  refine lv_istore (lv' := [(4, .int (zI 0)), (0, .ref a1), (1, .ref a24), (2, .int (zI z71)), (3, .int (zI z72))]) hx hb dX3_priceOf_1 hl (by decide) rfl (fun ls hl => ?_)
  refine lv_iconst (v := zI 0) hx hb dX3_priceOf_3 rfl ?_
  refine lv_istore (lv' := [(5, .int (zI 0)), (4, .int (zI 0)), (0, .ref a1), (1, .ref a24), (2, .int (zI z71)), (3, .int (zI z72))]) hx hb dX3_priceOf_4 hl (by decide) rfl (fun ls hl => ?_)
  have lp3 : (∀ (z_1 : Int) (z_2 : Int) (H : Heap) (locs : List Loc) (ls : Array Slot), (0 ≤ z_1 ∧ z_1 ≤ 9) → ((-2147483648) ≤ z_2 ∧ z_2 ≤ 2147483647) → va_P D vwCl [(a1, .inr (3, [v0, .ref a15, v1, v2, v3])), (a15, .inl (ty 1, 9, .inl (cI F16))), (a24, .inr (8, [v4, v5, v6, v7, v8, v9, v10, v11, v12, .ref a39, v13, v14, v15, v16, v17, v18, v19, v20])), (a39, .inl (ty 1, 28, .inl f40))] H → va_D A [(a1, .inr (3, [v0, .ref a15, v1, v2, v3])), (a15, .inl (ty 1, 9, .inl (cI F16))), (a24, .inr (8, [v4, v5, v6, v7, v8, v9, v10, v11, v12, .ref a39, v13, v14, v15, v16, v17, v18, v19, v20])), (a39, .inl (ty 1, 28, .inl f40))] → va_S A s.heap H locs → lv_has ls 6 [(5, .int (zI z_1)), (4, .int (zI z_2)), (0, .ref a1), (1, .ref a24), (2, .int (zI z71)), (3, .int (zI z72))] → W p l e ({ frames := 0, cells := 0, slots := 0, locals := 0 }) s m ([.ref a1, .ref a24, .int (zI z71), .int (zI z72)] : List Value).toArray below meth c H locs 0 0 (MQ below ((qI (fun (r : Int32) (u : va_W) => ∃  (y : Int), ((-2147483648) ≤ y ∧ y ≤ 2147483647) ∧ zI y = r ∧ [(a1, .inr (3, [v0, .ref a15, v1, v2, v3])), (a15, .inl (ty 1, 9, .inl (cI F16))), (a24, .inr (8, [v4, v5, v6, v7, v8, v9, v10, v11, v12, .ref a39, v13, v14, v15, v16, v17, v18, v19, v20])), (a39, .inl (ty 1, 28, .inl f40))] = u)) D A) ([.ref a1, .ref a24, .int (zI z71), .int (zI z72)] : List Value).toArray s 0 0 A) (F0 m 42 ls [])) →
      ∀ (k : Nat) (z_1 : Int) (z_2 : Int) (H : Heap) (locs : List Loc) (ls : Array Slot), (9 - z_1).toNat < k → (0 ≤ z_1 ∧ z_1 ≤ 9) → ((-2147483648) ≤ z_2 ∧ z_2 ≤ 2147483647) → va_P D vwCl [(a1, .inr (3, [v0, .ref a15, v1, v2, v3])), (a15, .inl (ty 1, 9, .inl (cI F16))), (a24, .inr (8, [v4, v5, v6, v7, v8, v9, v10, v11, v12, .ref a39, v13, v14, v15, v16, v17, v18, v19, v20])), (a39, .inl (ty 1, 28, .inl f40))] H → va_D A [(a1, .inr (3, [v0, .ref a15, v1, v2, v3])), (a15, .inl (ty 1, 9, .inl (cI F16))), (a24, .inr (8, [v4, v5, v6, v7, v8, v9, v10, v11, v12, .ref a39, v13, v14, v15, v16, v17, v18, v19, v20])), (a39, .inl (ty 1, 28, .inl f40))] → va_S A s.heap H locs → lv_has ls 6 [(5, .int (zI z_1)), (4, .int (zI z_2)), (0, .ref a1), (1, .ref a24), (2, .int (zI z71)), (3, .int (zI z72))] → W p l e ({ frames := 0, cells := 0, slots := 0, locals := 0 }) s m ([.ref a1, .ref a24, .int (zI z71), .int (zI z72)] : List Value).toArray below meth c H locs 0 0 (MQ below ((qI (fun (r : Int32) (u : va_W) => ∃  (y : Int), ((-2147483648) ≤ y ∧ y ≤ 2147483647) ∧ zI y = r ∧ [(a1, .inr (3, [v0, .ref a15, v1, v2, v3])), (a15, .inl (ty 1, 9, .inl (cI F16))), (a24, .inr (8, [v4, v5, v6, v7, v8, v9, v10, v11, v12, .ref a39, v13, v14, v15, v16, v17, v18, v19, v20])), (a39, .inl (ty 1, 28, .inl f40))] = u)) D A) ([.ref a1, .ref a24, .int (zI z71), .int (zI z72)] : List Value).toArray s 0 0 A) (F0 m 6 ls []) := by
    intro kk3 k
    induction k with
    | zero => intro z_1 z_2 H locs ls hk; exact absurd hk (Nat.not_lt_zero _)
    | succ k ih3 =>
      intro z_1 z_2 H locs ls hk i_4 i_5 hP hD hS hl
      refine lv_iload hx hb dX3_priceOf_6 (lv_at hl 0 rfl) ?_
      refine lv_iload_n hx hb dX3_priceOf_8 rfl (lv_at hl 4 rfl) ?_
      refine ri_icmp_ge (tgt := 42) hx hb dX3_priceOf_9 (by decide) (by omega) (by omega) (fun c_6 => ?_) (fun c_6 => ?_)
      · exact kk3 z_1 z_2 H locs ls (by omega) (by omega) hP hD hS hl
      · refine lv_iload hx hb dX3_priceOf_12 (lv_at hl 1 rfl) ?_
        refine lv_iload_n hx hb dX3_priceOf_14 rfl (lv_at hl 5 rfl) ?_
        refine lv_iload hx hb dX3_priceOf_15 (lv_at hl 0 rfl) ?_
        refine lv_ishr hx hb dX3_priceOf_17 ?_
        refine ri_any (fun z_7 r_8 _ => ?_)
        obtain ⟨r_8a, r_8b⟩ := r_8
        refine lv_iconst (v := zI 1) hx hb dX3_priceOf_18 rfl ?_
        refine lv_iand hx hb dX3_priceOf_19 ?_
        refine ri_any (fun z_9 r_10 _ => ?_)
        obtain ⟨r_10a, r_10b⟩ := r_10
        refine lv_aload_n hx hb dX3_priceOf_20 rfl (lv_at hl 3 rfl) ?_
        refine va_get (D := D) (ci := 8) (v := .ref a39) (C := RX8) (T := TX8) (N := 18) hx hb hB inB_X8 hown hK.1 hP 2 rfl rfl 9 (by decide) (hB _ mw_18) (fun _ h9 => h9) rfl dX3_priceOf_21 ?_
        refine lv_aload_n hx hb dX3_priceOf_24 rfl (lv_at hl 2 rfl) ?_
        refine va_get (D := D) (ci := 3) (v := .ref a15) (C := RX3) (T := TX3) (N := 5) hx hb hB inB_X3 hown hK.1 hP 0 rfl rfl 1 (by decide) (hB _ mw_19) (fun _ h9 => h9) rfl dX3_priceOf_25 ?_
        refine lv_iload hx hb dX3_priceOf_28 (lv_at hl 0 rfl) ?_
        refine ri_iald hx hb hK hP 1 rfl (by omega) (by omega) (by omega) dX3_priceOf_30 ?_
        have b_11 := rng.at (z := z_1) h17 (by omega) (by omega)
        refine va_iald hx hb hK.1 hP 3 1 rfl rfl (zI_in (by omega) (by omega) (by omega)) dX3_priceOf_31 ?_
        refine ri_any (fun z_12 r_13 _ => ?_)
        obtain ⟨r_13a, r_13b⟩ := r_13
        refine ri_mul hx hb dX3_priceOf_32 ?_
        refine ri_any (fun z_14 r_15 _ => ?_)
        obtain ⟨r_15a, r_15b⟩ := r_15
        refine ri_add hx hb dX3_priceOf_33 ?_
        refine ri_any (fun z_16 r_17 _ => ?_)
        obtain ⟨r_17a, r_17b⟩ := r_17
        refine lv_istore (lv' := [(4, .int (zI z_16)), (5, .int (zI z_1)), (0, .ref a1), (1, .ref a24), (2, .int (zI z71)), (3, .int (zI z72))]) hx hb dX3_priceOf_34 hl (by decide) rfl (fun ls hl => ?_)
        refine lv_iinc (v := zI (z_1 + 1)) (lv' := [(5, .int (zI (z_1 + 1))), (4, .int (zI z_16)), (0, .ref a1), (1, .ref a24), (2, .int (zI z71)), (3, .int (zI z72))]) hx hb dX3_priceOf_36 hl (k := 1) rfl (zI_add _ _) (by decide) rfl (fun ls hl => ?_)
        refine lv_goto (tgt := 6) hx hb dX3_priceOf_39 (by decide) ?_
        exact ih3 (z_1 + 1) z_16 H locs ls (by omega) (by omega) (by omega) hP hD hS hl
  refine lp3 (fun z_1 z_2 H locs ls i_4 i_5 hP hD hS hl => ?_) 11 0 0 _ _ ls (by omega) (by omega) (by omega) hP hD hS hl
  refine lv_iload hx hb dX3_priceOf_42 (lv_at hl 1 rfl) ?_
  exact kr_z hx hb hr rfl hlocks hP hD hS [(a1, .inr (3, [v0, .ref a15, v1, v2, v3])), (a15, .inl (ty 1, 9, .inl (cI F16))), (a24, .inr (8, [v4, v5, v6, v7, v8, v9, v10, v11, v12, .ref a39, v13, v14, v15, v16, v17, v18, v19, v20])), (a39, .inl (ty 1, 28, .inl f40))] [0, 1, 2, 3] (by decide) rfl ⟨z_2, by omega, rfl, rfl⟩ (by decide) (by decide) dX3_priceOf_44
set_option maxHeartbeats 4000000 in
set_option maxRecDepth 100000 in
theorem g_X3_makeBoth_16 (l : Launch) (D : va_G) (ty : Nat → ClassId) (sz : Nat) (a1 : Nat) (a15 : Nat) (a24 : Nat) (a18 : Nat) (v0 : Value) (v1 : Value) (v2 : Value) (F16 : Nat → Int) (f19 : Nat → Int32) (f25 : Nat → Int32) (z26 : Int) (z27 : Int) (bz26 : 0 ≤ z26 ∧ z26 ≤ 9) (bz27 : (-2147483648) ≤ z27 ∧ z27 ≤ 2147483647) (h17 : rng F16 9 0 27) : cQ l yX3_makeBoth cX3_makeBoth 5 none 0 0 [.ref a1, .ref a24, .int (zI z26), .int (zI z27)] D ty [(a1, .inr (3, [v0, .ref a15, .ref a18, v1, v2])), (a15, .inl (ty 1, 9, .inl (cI F16))), (a18, .inl (ty 1, 9, .inl f19)), (a24, .inl (ty 1, 28, .inl f25))] sz (qV (fun (u : va_W) => ∃ (f_14 : Nat → Int32), [(a1, .inr (3, [v0, .ref a15, .ref a18, v1, v2])), (a15, .inl (ty 1, 9, .inl (cI F16))), (a18, .inl (ty 1, 9, .inl f19)), (a24, .inl (ty 1, 28, .inl f_14))] = u)) 0 0 := by
  refine cQ.of (by decide) (Nat.le_of_ble_eq_true rfl) (fun p e s m below meth c A ls C hsz hP hK hD hA hl => ?_)
  obtain ⟨hx, hb, hml, hown, hB, hr, hlocks, hin⟩ := C
  have hown : s.vm.findClass RX3 = some m.cls := hown
  have hS : va_S A s.heap s.heap [] := va_S.rf
  have hl : lv_has ls 5 [(0, .ref a1), (1, .ref a24), (2, .int (zI z26)), (3, .int (zI z27))] := hl
  refine lv_iconst (v := zI 0) hx hb dX3_makeBoth_0 rfl ?_
  refine lv_istore (lv' := [(4, .int (zI 0)), (0, .ref a1), (1, .ref a24), (2, .int (zI z26)), (3, .int (zI z27))]) hx hb dX3_makeBoth_1 hl (by decide) rfl (fun ls hl => ?_)
  have lp3 : (∀ (z_1 : Int) (f_2 : Nat → Int32) (H : Heap) (locs : List Loc) (ls : Array Slot), (0 ≤ z_1 ∧ z_1 ≤ 9) → va_P D vwCl [(a1, .inr (3, [v0, .ref a15, .ref a18, v1, v2])), (a15, .inl (ty 1, 9, .inl (cI F16))), (a18, .inl (ty 1, 9, .inl f19)), (a24, .inl (ty 1, 28, .inl f_2))] H → va_D A [(a1, .inr (3, [v0, .ref a15, .ref a18, v1, v2])), (a15, .inl (ty 1, 9, .inl (cI F16))), (a18, .inl (ty 1, 9, .inl f19)), (a24, .inl (ty 1, 28, .inl f_2))] → va_S A s.heap H locs → lv_has ls 5 [(4, .int (zI z_1)), (0, .ref a1), (1, .ref a24), (2, .int (zI z26)), (3, .int (zI z27))] → W p l e ({ frames := 0, cells := 0, slots := 0, locals := 0 }) s m ([.ref a1, .ref a24, .int (zI z26), .int (zI z27)] : List Value).toArray below meth c H locs 0 0 (MQ below ((qV (fun (u : va_W) => ∃ (f_14 : Nat → Int32), [(a1, .inr (3, [v0, .ref a15, .ref a18, v1, v2])), (a15, .inl (ty 1, 9, .inl (cI F16))), (a18, .inl (ty 1, 9, .inl f19)), (a24, .inl (ty 1, 28, .inl f_14))] = u)) D A) ([.ref a1, .ref a24, .int (zI z26), .int (zI z27)] : List Value).toArray s 0 0 A) (F0 m 44 ls [])) →
      ∀ (k : Nat) (z_1 : Int) (f_2 : Nat → Int32) (H : Heap) (locs : List Loc) (ls : Array Slot), (9 - z_1).toNat < k → (0 ≤ z_1 ∧ z_1 ≤ 9) → va_P D vwCl [(a1, .inr (3, [v0, .ref a15, .ref a18, v1, v2])), (a15, .inl (ty 1, 9, .inl (cI F16))), (a18, .inl (ty 1, 9, .inl f19)), (a24, .inl (ty 1, 28, .inl f_2))] H → va_D A [(a1, .inr (3, [v0, .ref a15, .ref a18, v1, v2])), (a15, .inl (ty 1, 9, .inl (cI F16))), (a18, .inl (ty 1, 9, .inl f19)), (a24, .inl (ty 1, 28, .inl f_2))] → va_S A s.heap H locs → lv_has ls 5 [(4, .int (zI z_1)), (0, .ref a1), (1, .ref a24), (2, .int (zI z26)), (3, .int (zI z27))] → W p l e ({ frames := 0, cells := 0, slots := 0, locals := 0 }) s m ([.ref a1, .ref a24, .int (zI z26), .int (zI z27)] : List Value).toArray below meth c H locs 0 0 (MQ below ((qV (fun (u : va_W) => ∃ (f_14 : Nat → Int32), [(a1, .inr (3, [v0, .ref a15, .ref a18, v1, v2])), (a15, .inl (ty 1, 9, .inl (cI F16))), (a18, .inl (ty 1, 9, .inl f19)), (a24, .inl (ty 1, 28, .inl f_14))] = u)) D A) ([.ref a1, .ref a24, .int (zI z26), .int (zI z27)] : List Value).toArray s 0 0 A) (F0 m 3 ls []) := by
    intro kk3 k
    induction k with
    | zero => intro z_1 f_2 H locs ls hk; exact absurd hk (Nat.not_lt_zero _)
    | succ k ih3 =>
      intro z_1 f_2 H locs ls hk i_4 hP hD hS hl
      refine lv_iload hx hb dX3_makeBoth_3 (lv_at hl 0 rfl) ?_
      refine lv_iload_n hx hb dX3_makeBoth_5 rfl (lv_at hl 3 rfl) ?_
      refine ri_icmp_ge (tgt := 44) hx hb dX3_makeBoth_6 (by decide) (by omega) (by omega) (fun c_5 => ?_) (fun c_5 => ?_)
      · exact kk3 z_1 f_2 H locs ls (by omega) hP hD hS hl
      · refine lv_aload_n hx hb dX3_makeBoth_9 rfl (lv_at hl 2 rfl) ?_
        refine lv_aload_n hx hb dX3_makeBoth_10 rfl (lv_at hl 1 rfl) ?_
        refine va_get (D := D) (ci := 3) (v := .ref a15) (C := RX3) (T := TX3) (N := 5) hx hb hB inB_X3 hown hK.1 hP 0 rfl rfl 1 (by decide) (hB _ mw_19) (fun _ h9 => h9) rfl dX3_makeBoth_11 ?_
        refine lv_iload hx hb dX3_makeBoth_14 (lv_at hl 0 rfl) ?_
        refine ri_iald hx hb hK hP 1 rfl (by omega) (by omega) (by omega) dX3_makeBoth_16 ?_
        have b_6 := rng.at (z := z_1) h17 (by omega) (by omega)
        refine lv_iload_n hx hb dX3_makeBoth_17 rfl (lv_at hl 4 rfl) ?_
        refine lv_iload hx hb dX3_makeBoth_18 (lv_at hl 0 rfl) ?_
        refine lv_ishr hx hb dX3_makeBoth_20 ?_
        refine ri_any (fun z_7 r_8 _ => ?_)
        obtain ⟨r_8a, r_8b⟩ := r_8
        refine lv_iconst (v := zI 1) hx hb dX3_makeBoth_21 rfl ?_
        refine lv_iand hx hb dX3_makeBoth_22 ?_
        refine ri_any (fun z_9 r_10 _ => ?_)
        obtain ⟨r_10a, r_10b⟩ := r_10
        refine ri_if_ne (tgt := 36) hx hb dX3_makeBoth_23 (by decide) (by omega) (fun c_11 => ?_) (fun c_11 => ?_)
        · refine lv_iconst (v := zI 3) hx hb dX3_makeBoth_36 rfl ?_
          refine wy_iast hx hb hK hP hD hS 3 1 rfl rfl (zI_in (by omega) (by omega) (by omega)) dX3_makeBoth_37 (j := ((F16 (z_1).toNat)).toNat) (zI_clamp (by omega) (by omega)) (ws' := [(a1, .inr (3, [v0, .ref a15, .ref a18, v1, v2])), (a15, .inl (ty 1, 9, .inl (cI F16))), (a18, .inl (ty 1, 9, .inl f19)), (a24, .inl (ty 1, 28, .inl (upd f_2 ((F16 (z_1).toNat)).toNat (zI 3))))]) rfl (fun H locs hP hD hS => ?_)
          refine lv_iinc (v := zI (z_1 + 1)) (lv' := [(4, .int (zI (z_1 + 1))), (0, .ref a1), (1, .ref a24), (2, .int (zI z26)), (3, .int (zI z27))]) hx hb dX3_makeBoth_38 hl (k := 0) rfl (zI_add _ _) (by decide) rfl (fun ls hl => ?_)
          refine lv_goto (tgt := 3) hx hb dX3_makeBoth_41 (by decide) ?_
          exact ih3 (z_1 + 1) (upd f_2 ((F16 (z_1).toNat)).toNat (zI 3)) H locs ls (by omega) (by omega) hP hD hS hl
        · refine lv_aload_n hx hb dX3_makeBoth_26 rfl (lv_at hl 1 rfl) ?_
          refine va_get (D := D) (ci := 3) (v := .ref a18) (C := RX3) (T := TX3) (N := 5) hx hb hB inB_X3 hown hK.1 hP 0 rfl rfl 2 (by decide) (hB _ mw_20) (fun _ h9 => h9) rfl dX3_makeBoth_27 ?_
          refine lv_iload hx hb dX3_makeBoth_30 (lv_at hl 0 rfl) ?_
          refine va_iald hx hb hK.1 hP 2 1 rfl rfl (zI_in (by omega) (by omega) (by omega)) dX3_makeBoth_32 ?_
          refine ri_any (fun z_12 r_13 _ => ?_)
          obtain ⟨r_13a, r_13b⟩ := r_13
          refine lv_goto (tgt := 37) hx hb dX3_makeBoth_33 (by decide) ?_
          refine wy_iast hx hb hK hP hD hS 3 1 rfl rfl (zI_in (by omega) (by omega) (by omega)) dX3_makeBoth_37 (j := ((F16 (z_1).toNat)).toNat) (zI_clamp (by omega) (by omega)) (ws' := [(a1, .inr (3, [v0, .ref a15, .ref a18, v1, v2])), (a15, .inl (ty 1, 9, .inl (cI F16))), (a18, .inl (ty 1, 9, .inl f19)), (a24, .inl (ty 1, 28, .inl (upd f_2 ((F16 (z_1).toNat)).toNat (zI z_12))))]) rfl (fun H locs hP hD hS => ?_)
          refine lv_iinc (v := zI (z_1 + 1)) (lv' := [(4, .int (zI (z_1 + 1))), (0, .ref a1), (1, .ref a24), (2, .int (zI z26)), (3, .int (zI z27))]) hx hb dX3_makeBoth_38 hl (k := 0) rfl (zI_add _ _) (by decide) rfl (fun ls hl => ?_)
          refine lv_goto (tgt := 3) hx hb dX3_makeBoth_41 (by decide) ?_
          exact ih3 (z_1 + 1) (upd f_2 ((F16 (z_1).toNat)).toNat (zI z_12)) H locs ls (by omega) (by omega) hP hD hS hl
  refine lp3 (fun z_1 f_2 H locs ls i_4 hP hD hS hl => ?_) 11 0 f25 _ _ ls (by omega) (by omega) hP hD hS hl
  exact kr_v hx hb hr hlocks hP hD hS [(a1, .inr (3, [v0, .ref a15, .ref a18, v1, v2])), (a15, .inl (ty 1, 9, .inl (cI F16))), (a18, .inl (ty 1, 9, .inl f19)), (a24, .inl (ty 1, 28, .inl f_2))] [0, 1, 2, 3] (by decide) rfl ⟨f_2, rfl⟩ (by decide) (by decide) dX3_makeBoth_44
set_option maxHeartbeats 4000000 in
set_option maxRecDepth 100000 in
theorem g_X0_listOpen_17 (l : Launch) (D : va_G) (ty : Nat → ClassId) (sz : Nat) (a18 : Nat) (a65 : Nat) (a1 : Nat) (a15 : Nat) (v0 : Value) (F16 : Nat → Int) (v1 : Value) (v2 : Value) (z21 : Int) (v3 : Value) (v4 : Value) (v5 : Value) (v6 : Value) (v7 : Value) (v8 : Value) (v9 : Value) (v10 : Value) (v11 : Value) (v12 : Value) (v13 : Value) (v14 : Value) (v15 : Value) (v16 : Value) (v17 : Value) (f66 : Nat → Int32) (bz21 : 0 ≤ z21 ∧ z21 ≤ 28) (h17 : rng F16 10 0 27) : cQ l yX0_listOpen cX0_listOpen 5 (some .int) 0 0 [.ref a1, .ref a18, .ref a65] D ty [(a1, .inr (0, [v0, .ref a15])), (a15, .inl (ty 1, 10, .inl (cI F16))), (a18, .inr (8, [v1, v2, .int (zI z21), v3, v4, v5, v6, v7, v8, v9, v10, v11, v12, v13, v14, v15, v16, v17])), (a65, .inl (ty 1, 28, .inl f66))] sz (qI (fun (r : Int32) (u : va_W) => ∃ (F_14 : Nat → Int) (y : Int), rng F_14 10 0 27 ∧ (0 ≤ y ∧ y ≤ 10) ∧ zI y = r ∧ [(a1, .inr (0, [v0, .ref a15])), (a15, .inl (ty 1, 10, .inl (cI F_14))), (a18, .inr (8, [v1, v2, .int (zI z21), v3, v4, v5, v6, v7, v8, v9, v10, v11, v12, v13, v14, v15, v16, v17])), (a65, .inl (ty 1, 28, .inl f66))] = u)) 0 0 := by
  refine cQ.of (by decide) (Nat.le_of_ble_eq_true rfl) (fun p e s m below meth c A ls C hsz hP hK hD hA hl => ?_)
  obtain ⟨hx, hb, hml, hown, hB, hr, hlocks, hin⟩ := C
  have hown : s.vm.findClass RX0 = some m.cls := hown
  have hS : va_S A s.heap s.heap [] := va_S.rf
  have hl : lv_has ls 5 [(0, .ref a1), (1, .ref a18), (2, .ref a65)] := hl
  refine lv_iconst (v := zI 0) hx hb dX0_listOpen_0 rfl ?_
  refine lv_istore_n (lv' := [(3, .int (zI 0)), (0, .ref a1), (1, .ref a18), (2, .ref a65)]) hx hb dX0_listOpen_1 rfl hl (by decide) rfl (fun ls hl => ?_)
  refine lv_iconst (v := zI 0) hx hb dX0_listOpen_2 rfl ?_
  refine lv_istore (lv' := [(4, .int (zI 0)), (3, .int (zI 0)), (0, .ref a1), (1, .ref a18), (2, .ref a65)]) hx hb dX0_listOpen_3 hl (by decide) rfl (fun ls hl => ?_)
  have lp5 : (∀ (z_1 : Int) (z_2 : Int) (F_3 : Nat → Int) (H : Heap) (locs : List Loc) (ls : Array Slot), (0 ≤ z_1 ∧ z_1 ≤ 28) → (0 ≤ z_2 ∧ z_2 ≤ 10) → rng F_3 10 0 27 → va_P D vwCl [(a1, .inr (0, [v0, .ref a15])), (a15, .inl (ty 1, 10, .inl (cI F_3))), (a18, .inr (8, [v1, v2, .int (zI z21), v3, v4, v5, v6, v7, v8, v9, v10, v11, v12, v13, v14, v15, v16, v17])), (a65, .inl (ty 1, 28, .inl f66))] H → va_D A [(a1, .inr (0, [v0, .ref a15])), (a15, .inl (ty 1, 10, .inl (cI F_3))), (a18, .inr (8, [v1, v2, .int (zI z21), v3, v4, v5, v6, v7, v8, v9, v10, v11, v12, v13, v14, v15, v16, v17])), (a65, .inl (ty 1, 28, .inl f66))] → va_S A s.heap H locs → lv_has ls 5 [(4, .int (zI z_1)), (3, .int (zI z_2)), (0, .ref a1), (1, .ref a18), (2, .ref a65)] → W p l e ({ frames := 0, cells := 0, slots := 0, locals := 0 }) s m ([.ref a1, .ref a18, .ref a65] : List Value).toArray below meth c H locs 0 0 (MQ below ((qI (fun (r : Int32) (u : va_W) => ∃ (F_14 : Nat → Int) (y : Int), rng F_14 10 0 27 ∧ (0 ≤ y ∧ y ≤ 10) ∧ zI y = r ∧ [(a1, .inr (0, [v0, .ref a15])), (a15, .inl (ty 1, 10, .inl (cI F_14))), (a18, .inr (8, [v1, v2, .int (zI z21), v3, v4, v5, v6, v7, v8, v9, v10, v11, v12, v13, v14, v15, v16, v17])), (a65, .inl (ty 1, 28, .inl f66))] = u)) D A) ([.ref a1, .ref a18, .ref a65] : List Value).toArray s 0 0 A) (F0 m 44 ls [])) →
      ∀ (k : Nat) (z_1 : Int) (z_2 : Int) (F_3 : Nat → Int) (H : Heap) (locs : List Loc) (ls : Array Slot), (28 - z_1).toNat < k → (0 ≤ z_1 ∧ z_1 ≤ 28) → (0 ≤ z_2 ∧ z_2 ≤ 10) → rng F_3 10 0 27 → va_P D vwCl [(a1, .inr (0, [v0, .ref a15])), (a15, .inl (ty 1, 10, .inl (cI F_3))), (a18, .inr (8, [v1, v2, .int (zI z21), v3, v4, v5, v6, v7, v8, v9, v10, v11, v12, v13, v14, v15, v16, v17])), (a65, .inl (ty 1, 28, .inl f66))] H → va_D A [(a1, .inr (0, [v0, .ref a15])), (a15, .inl (ty 1, 10, .inl (cI F_3))), (a18, .inr (8, [v1, v2, .int (zI z21), v3, v4, v5, v6, v7, v8, v9, v10, v11, v12, v13, v14, v15, v16, v17])), (a65, .inl (ty 1, 28, .inl f66))] → va_S A s.heap H locs → lv_has ls 5 [(4, .int (zI z_1)), (3, .int (zI z_2)), (0, .ref a1), (1, .ref a18), (2, .ref a65)] → W p l e ({ frames := 0, cells := 0, slots := 0, locals := 0 }) s m ([.ref a1, .ref a18, .ref a65] : List Value).toArray below meth c H locs 0 0 (MQ below ((qI (fun (r : Int32) (u : va_W) => ∃ (F_14 : Nat → Int) (y : Int), rng F_14 10 0 27 ∧ (0 ≤ y ∧ y ≤ 10) ∧ zI y = r ∧ [(a1, .inr (0, [v0, .ref a15])), (a15, .inl (ty 1, 10, .inl (cI F_14))), (a18, .inr (8, [v1, v2, .int (zI z21), v3, v4, v5, v6, v7, v8, v9, v10, v11, v12, v13, v14, v15, v16, v17])), (a65, .inl (ty 1, 28, .inl f66))] = u)) D A) ([.ref a1, .ref a18, .ref a65] : List Value).toArray s 0 0 A) (F0 m 5 ls []) := by
    intro kk5 k
    induction k with
    | zero => intro z_1 z_2 F_3 H locs ls hk; exact absurd hk (Nat.not_lt_zero _)
    | succ k ih5 =>
      intro z_1 z_2 F_3 H locs ls hk i_6 i_7 h_4 hP hD hS hl
      refine lv_iload hx hb dX0_listOpen_5 (lv_at hl 0 rfl) ?_
      refine lv_aload_n hx hb dX0_listOpen_7 rfl (lv_at hl 3 rfl) ?_
      refine va_get (D := D) (ci := 8) (v := .int (zI z21)) (C := RX8) (T := TX8) (N := 18) hx hb hB inB_X8 hown hK.1 hP 2 rfl rfl 2 (by decide) (hB _ mw_21) (fun _ h9 => h9) rfl dX0_listOpen_8 ?_
      refine ri_icmp_ge (tgt := 44) hx hb dX0_listOpen_11 (by decide) (by omega) (by omega) (fun c_8 => ?_) (fun c_8 => ?_)
      · exact kk5 z_1 z_2 F_3 H locs ls (by omega) (by omega) h_4 hP hD hS hl
      · refine lv_iload_n hx hb dX0_listOpen_14 rfl (lv_at hl 1 rfl) ?_
        refine lv_bipush (v := zI 10) hx hb dX0_listOpen_15 rfl ?_
        refine ri_icmp_ge (tgt := 44) hx hb dX0_listOpen_17 (by decide) (by omega) (by omega) (fun c_9 => ?_) (fun c_9 => ?_)
        · exact kk5 z_1 z_2 F_3 H locs ls (by omega) (by omega) h_4 hP hD hS hl
        · refine lv_aload_n hx hb dX0_listOpen_20 rfl (lv_at hl 4 rfl) ?_
          refine lv_iload hx hb dX0_listOpen_21 (lv_at hl 0 rfl) ?_
          refine va_iald hx hb hK.1 hP 3 1 rfl rfl (zI_in (by omega) (by omega) (by omega)) dX0_listOpen_23 ?_
          refine ri_any (fun z_10 r_11 _ => ?_)
          obtain ⟨r_11a, r_11b⟩ := r_11
          refine ri_if_ne (tgt := 38) hx hb dX0_listOpen_24 (by decide) (by omega) (fun c_12 => ?_) (fun c_12 => ?_)
          · refine lv_iinc (v := zI (z_1 + 1)) (lv' := [(4, .int (zI (z_1 + 1))), (3, .int (zI z_2)), (0, .ref a1), (1, .ref a18), (2, .ref a65)]) hx hb dX0_listOpen_38 hl (k := 0) rfl (zI_add _ _) (by decide) rfl (fun ls hl => ?_)
            refine lv_goto (tgt := 5) hx hb dX0_listOpen_41 (by decide) ?_
            exact ih5 (z_1 + 1) z_2 F_3 H locs ls (by omega) (by omega) (by omega) h_4 hP hD hS hl
          · refine lv_aload_n hx hb dX0_listOpen_27 rfl (lv_at hl 2 rfl) ?_
            refine va_get (D := D) (ci := 0) (v := .ref a15) (C := RX0) (T := TX0) (N := 2) hx hb hB inB_X0 hown hK.1 hP 0 rfl rfl 1 (by decide) (hB _ mw_22) (fun _ h9 => h9) rfl dX0_listOpen_28 ?_
            refine lv_iload_n hx hb dX0_listOpen_31 rfl (lv_at hl 1 rfl) ?_
            refine lv_iload hx hb dX0_listOpen_32 (lv_at hl 0 rfl) ?_
            have h_13 := rng.up (k := (z_2).toNat) (v := z_1) h_4 (by omega) (by omega)
            refine ri_iast hx hb hK hP hD hS 1 rfl (by omega) (by omega) (by omega) dX0_listOpen_34 (ws' := [(a1, .inr (0, [v0, .ref a15])), (a15, .inl (ty 1, 10, .inl (cI (uZ F_3 (z_2).toNat z_1)))), (a18, .inr (8, [v1, v2, .int (zI z21), v3, v4, v5, v6, v7, v8, v9, v10, v11, v12, v13, v14, v15, v16, v17])), (a65, .inl (ty 1, 28, .inl f66))]) rfl (fun H locs hP hD hS => ?_)
            refine lv_iinc (v := zI (z_2 + 1)) (lv' := [(3, .int (zI (z_2 + 1))), (4, .int (zI z_1)), (0, .ref a1), (1, .ref a18), (2, .ref a65)]) hx hb dX0_listOpen_35 hl (k := 1) rfl (zI_add _ _) (by decide) rfl (fun ls hl => ?_)
            refine lv_iinc (v := zI (z_1 + 1)) (lv' := [(4, .int (zI (z_1 + 1))), (3, .int (zI (z_2 + 1))), (0, .ref a1), (1, .ref a18), (2, .ref a65)]) hx hb dX0_listOpen_38 hl (k := 1) rfl (zI_add _ _) (by decide) rfl (fun ls hl => ?_)
            refine lv_goto (tgt := 5) hx hb dX0_listOpen_41 (by decide) ?_
            exact ih5 (z_1 + 1) (z_2 + 1) (uZ F_3 (z_2).toNat z_1) H locs ls (by omega) (by omega) (by omega) h_13 hP hD hS hl
  refine lp5 (fun z_1 z_2 F_3 H locs ls i_6 i_7 h_4 hP hD hS hl => ?_) 30 0 0 F16 _ _ ls (by omega) (by omega) (by omega) h17 hP hD hS hl
  refine lv_iload_n hx hb dX0_listOpen_44 rfl (lv_at hl 1 rfl) ?_
  exact kr_z hx hb hr rfl hlocks hP hD hS [(a1, .inr (0, [v0, .ref a15])), (a15, .inl (ty 1, 10, .inl (cI F_3))), (a18, .inr (8, [v1, v2, .int (zI z21), v3, v4, v5, v6, v7, v8, v9, v10, v11, v12, v13, v14, v15, v16, v17])), (a65, .inl (ty 1, 28, .inl f66))] [0, 1, 2, 3] (by decide) rfl ⟨F_3, z_2, h_4, by omega, rfl, rfl⟩ (by decide) (by decide) dX0_listOpen_45
set_option maxHeartbeats 4000000 in
set_option maxRecDepth 100000 in
theorem g_X0_giveTrial_18 (l : Launch) (D : va_G) (ty : Nat → ClassId) (sz : Nat) (a1 : Nat) (a15 : Nat) (a18 : Nat) (v0 : Value) (F16 : Nat → Int) (f19 : Nat → Int32) (z20 : Int) (z21 : Int) (bz20 : 0 ≤ z20 ∧ z20 ≤ 10) (bz21 : (-2147483648) ≤ z21 ∧ z21 ≤ 2147483647) (h17 : rng F16 10 0 27) : cQ l yX0_giveTrial cX0_giveTrial 5 none 0 0 [.ref a1, .ref a18, .int (zI z20), .int (zI z21)] D ty [(a1, .inr (0, [v0, .ref a15])), (a15, .inl (ty 1, 10, .inl (cI F16))), (a18, .inl (ty 1, 28, .inl f19))] sz (qV (fun (u : va_W) => ∃ (f_12 : Nat → Int32), [(a1, .inr (0, [v0, .ref a15])), (a15, .inl (ty 1, 10, .inl (cI F16))), (a18, .inl (ty 1, 28, .inl f_12))] = u)) 0 0 := by
  refine cQ.of (by decide) (Nat.le_of_ble_eq_true rfl) (fun p e s m below meth c A ls C hsz hP hK hD hA hl => ?_)
  obtain ⟨hx, hb, hml, hown, hB, hr, hlocks, hin⟩ := C
  have hown : s.vm.findClass RX0 = some m.cls := hown
  have hS : va_S A s.heap s.heap [] := va_S.rf
  have hl : lv_has ls 5 [(0, .ref a1), (1, .ref a18), (2, .int (zI z20)), (3, .int (zI z21))] := hl
  refine lv_iconst (v := zI 0) hx hb dX0_giveTrial_0 rfl ?_
  refine lv_istore (lv' := [(4, .int (zI 0)), (0, .ref a1), (1, .ref a18), (2, .int (zI z20)), (3, .int (zI z21))]) hx hb dX0_giveTrial_1 hl (by decide) rfl (fun ls hl => ?_)
  have lp3 : (∀ (z_1 : Int) (f_2 : Nat → Int32) (H : Heap) (locs : List Loc) (ls : Array Slot), (0 ≤ z_1 ∧ z_1 ≤ 10) → va_P D vwCl [(a1, .inr (0, [v0, .ref a15])), (a15, .inl (ty 1, 10, .inl (cI F16))), (a18, .inl (ty 1, 28, .inl f_2))] H → va_D A [(a1, .inr (0, [v0, .ref a15])), (a15, .inl (ty 1, 10, .inl (cI F16))), (a18, .inl (ty 1, 28, .inl f_2))] → va_S A s.heap H locs → lv_has ls 5 [(4, .int (zI z_1)), (0, .ref a1), (1, .ref a18), (2, .int (zI z20)), (3, .int (zI z21))] → W p l e ({ frames := 0, cells := 0, slots := 0, locals := 0 }) s m ([.ref a1, .ref a18, .int (zI z20), .int (zI z21)] : List Value).toArray below meth c H locs 0 0 (MQ below ((qV (fun (u : va_W) => ∃ (f_12 : Nat → Int32), [(a1, .inr (0, [v0, .ref a15])), (a15, .inl (ty 1, 10, .inl (cI F16))), (a18, .inl (ty 1, 28, .inl f_12))] = u)) D A) ([.ref a1, .ref a18, .int (zI z20), .int (zI z21)] : List Value).toArray s 0 0 A) (F0 m 42 ls [])) →
      ∀ (k : Nat) (z_1 : Int) (f_2 : Nat → Int32) (H : Heap) (locs : List Loc) (ls : Array Slot), (10 - z_1).toNat < k → (0 ≤ z_1 ∧ z_1 ≤ 10) → va_P D vwCl [(a1, .inr (0, [v0, .ref a15])), (a15, .inl (ty 1, 10, .inl (cI F16))), (a18, .inl (ty 1, 28, .inl f_2))] H → va_D A [(a1, .inr (0, [v0, .ref a15])), (a15, .inl (ty 1, 10, .inl (cI F16))), (a18, .inl (ty 1, 28, .inl f_2))] → va_S A s.heap H locs → lv_has ls 5 [(4, .int (zI z_1)), (0, .ref a1), (1, .ref a18), (2, .int (zI z20)), (3, .int (zI z21))] → W p l e ({ frames := 0, cells := 0, slots := 0, locals := 0 }) s m ([.ref a1, .ref a18, .int (zI z20), .int (zI z21)] : List Value).toArray below meth c H locs 0 0 (MQ below ((qV (fun (u : va_W) => ∃ (f_12 : Nat → Int32), [(a1, .inr (0, [v0, .ref a15])), (a15, .inl (ty 1, 10, .inl (cI F16))), (a18, .inl (ty 1, 28, .inl f_12))] = u)) D A) ([.ref a1, .ref a18, .int (zI z20), .int (zI z21)] : List Value).toArray s 0 0 A) (F0 m 3 ls []) := by
    intro kk3 k
    induction k with
    | zero => intro z_1 f_2 H locs ls hk; exact absurd hk (Nat.not_lt_zero _)
    | succ k ih3 =>
      intro z_1 f_2 H locs ls hk i_4 hP hD hS hl
      refine lv_iload hx hb dX0_giveTrial_3 (lv_at hl 0 rfl) ?_
      refine lv_iload_n hx hb dX0_giveTrial_5 rfl (lv_at hl 3 rfl) ?_
      refine ri_icmp_ge (tgt := 42) hx hb dX0_giveTrial_6 (by decide) (by omega) (by omega) (fun c_5 => ?_) (fun c_5 => ?_)
      · exact kk3 z_1 f_2 H locs ls (by omega) hP hD hS hl
      · refine lv_aload_n hx hb dX0_giveTrial_9 rfl (lv_at hl 2 rfl) ?_
        refine lv_aload_n hx hb dX0_giveTrial_10 rfl (lv_at hl 1 rfl) ?_
        refine va_get (D := D) (ci := 0) (v := .ref a15) (C := RX0) (T := TX0) (N := 2) hx hb hB inB_X0 hown hK.1 hP 0 rfl rfl 1 (by decide) (hB _ mw_22) (fun _ h9 => h9) rfl dX0_giveTrial_11 ?_
        refine lv_iload hx hb dX0_giveTrial_14 (lv_at hl 0 rfl) ?_
        refine ri_iald hx hb hK hP 1 rfl (by omega) (by omega) (by omega) dX0_giveTrial_16 ?_
        have b_6 := rng.at (z := z_1) h17 (by omega) (by omega)
        refine lv_iload_n hx hb dX0_giveTrial_17 rfl (lv_at hl 4 rfl) ?_
        refine lv_iload_n hx hb dX0_giveTrial_18 rfl (lv_at hl 3 rfl) ?_
        refine lv_iconst (v := zI 1) hx hb dX0_giveTrial_19 rfl ?_
        refine ri_sub hx hb dX0_giveTrial_20 ?_
        refine lv_iload hx hb dX0_giveTrial_21 (lv_at hl 0 rfl) ?_
        refine ri_sub hx hb dX0_giveTrial_23 ?_
        refine lv_ishr hx hb dX0_giveTrial_24 ?_
        refine ri_any (fun z_7 r_8 _ => ?_)
        obtain ⟨r_8a, r_8b⟩ := r_8
        refine lv_iconst (v := zI 1) hx hb dX0_giveTrial_25 rfl ?_
        refine lv_iand hx hb dX0_giveTrial_26 ?_
        refine ri_any (fun z_9 r_10 _ => ?_)
        obtain ⟨r_10a, r_10b⟩ := r_10
        refine ri_if_ne (tgt := 34) hx hb dX0_giveTrial_27 (by decide) (by omega) (fun c_11 => ?_) (fun c_11 => ?_)
        · refine lv_iconst (v := zI 2) hx hb dX0_giveTrial_34 rfl ?_
          refine wy_iast hx hb hK hP hD hS 2 1 rfl rfl (zI_in (by omega) (by omega) (by omega)) dX0_giveTrial_35 (j := ((F16 (z_1).toNat)).toNat) (zI_clamp (by omega) (by omega)) (ws' := [(a1, .inr (0, [v0, .ref a15])), (a15, .inl (ty 1, 10, .inl (cI F16))), (a18, .inl (ty 1, 28, .inl (upd f_2 ((F16 (z_1).toNat)).toNat (zI 2))))]) rfl (fun H locs hP hD hS => ?_)
          refine lv_iinc (v := zI (z_1 + 1)) (lv' := [(4, .int (zI (z_1 + 1))), (0, .ref a1), (1, .ref a18), (2, .int (zI z20)), (3, .int (zI z21))]) hx hb dX0_giveTrial_36 hl (k := 0) rfl (zI_add _ _) (by decide) rfl (fun ls hl => ?_)
          refine lv_goto (tgt := 3) hx hb dX0_giveTrial_39 (by decide) ?_
          exact ih3 (z_1 + 1) (upd f_2 ((F16 (z_1).toNat)).toNat (zI 2)) H locs ls (by omega) (by omega) hP hD hS hl
        · refine lv_iconst (v := zI 1) hx hb dX0_giveTrial_30 rfl ?_
          refine lv_goto (tgt := 35) hx hb dX0_giveTrial_31 (by decide) ?_
          refine wy_iast hx hb hK hP hD hS 2 1 rfl rfl (zI_in (by omega) (by omega) (by omega)) dX0_giveTrial_35 (j := ((F16 (z_1).toNat)).toNat) (zI_clamp (by omega) (by omega)) (ws' := [(a1, .inr (0, [v0, .ref a15])), (a15, .inl (ty 1, 10, .inl (cI F16))), (a18, .inl (ty 1, 28, .inl (upd f_2 ((F16 (z_1).toNat)).toNat (zI 1))))]) rfl (fun H locs hP hD hS => ?_)
          refine lv_iinc (v := zI (z_1 + 1)) (lv' := [(4, .int (zI (z_1 + 1))), (0, .ref a1), (1, .ref a18), (2, .int (zI z20)), (3, .int (zI z21))]) hx hb dX0_giveTrial_36 hl (k := 0) rfl (zI_add _ _) (by decide) rfl (fun ls hl => ?_)
          refine lv_goto (tgt := 3) hx hb dX0_giveTrial_39 (by decide) ?_
          exact ih3 (z_1 + 1) (upd f_2 ((F16 (z_1).toNat)).toNat (zI 1)) H locs ls (by omega) (by omega) hP hD hS hl
  refine lp3 (fun z_1 f_2 H locs ls i_4 hP hD hS hl => ?_) 12 0 f19 _ _ ls (by omega) (by omega) hP hD hS hl
  exact kr_v hx hb hr hlocks hP hD hS [(a1, .inr (0, [v0, .ref a15])), (a15, .inl (ty 1, 10, .inl (cI F16))), (a18, .inl (ty 1, 28, .inl f_2))] [0, 1, 2] (by decide) rfl ⟨f_2, rfl⟩ (by decide) (by decide) dX0_giveTrial_42
set_option maxHeartbeats 4000000 in
set_option maxRecDepth 100000 in
theorem g_X10_turn_19 (l : Launch) (D : va_G) (ty : Nat → ClassId) (sz : Nat) (a15 : Nat) (a62 : Nat) (a1 : Nat) (v0 : Value) (v1 : Value) (z18 : Int) (v2 : Value) (v3 : Value) (v4 : Value) (v5 : Value) (v6 : Value) (v7 : Value) (v8 : Value) (v9 : Value) (v10 : Value) (v11 : Value) (v12 : Value) (v13 : Value) (v14 : Value) (v15 : Value) (v16 : Value) (f63 : Nat → Int32) (z64 : Int) (bz18 : 0 ≤ z18 ∧ z18 ≤ 28) (bz64 : (-2147483648) ≤ z64 ∧ z64 ≤ 2147483647) : cQ l yX10_turn cX10_turn 5 none 0 0 [.ref a1, .ref a15, .ref a62, .int (zI z64)] D ty [(a15, .inr (8, [v0, v1, .int (zI z18), v2, v3, v4, v5, v6, v7, v8, v9, v10, v11, v12, v13, v14, v15, v16])), (a62, .inl (ty 1, 28, .inl f63))] sz (qV (fun (u : va_W) => ∃ (f_15 : Nat → Int32), [(a15, .inr (8, [v0, v1, .int (zI z18), v2, v3, v4, v5, v6, v7, v8, v9, v10, v11, v12, v13, v14, v15, v16])), (a62, .inl (ty 1, 28, .inl f_15))] = u)) 0 0 := by
  refine cQ.of (by decide) (Nat.le_of_ble_eq_true rfl) (fun p e s m below meth c A ls C hsz hP hK hD hA hl => ?_)
  obtain ⟨hx, hb, hml, hown, hB, hr, hlocks, hin⟩ := C
  have hown : s.vm.findClass RX10 = some m.cls := hown
  have hS : va_S A s.heap s.heap [] := va_S.rf
  have hl : lv_has ls 5 [(0, .ref a1), (1, .ref a15), (2, .ref a62), (3, .int (zI z64))] := hl
  refine lv_iconst (v := zI 0) hx hb dX10_turn_0 rfl ?_
  refine lv_istore (lv' := [(4, .int (zI 0)), (0, .ref a1), (1, .ref a15), (2, .ref a62), (3, .int (zI z64))]) hx hb dX10_turn_1 hl (by decide) rfl (fun ls hl => ?_)
  have lp3 : (∀ (z_1 : Int) (f_2 : Nat → Int32) (H : Heap) (locs : List Loc) (ls : Array Slot), (0 ≤ z_1 ∧ z_1 ≤ 28) → va_P D vwCl [(a15, .inr (8, [v0, v1, .int (zI z18), v2, v3, v4, v5, v6, v7, v8, v9, v10, v11, v12, v13, v14, v15, v16])), (a62, .inl (ty 1, 28, .inl f_2))] H → va_D A [(a15, .inr (8, [v0, v1, .int (zI z18), v2, v3, v4, v5, v6, v7, v8, v9, v10, v11, v12, v13, v14, v15, v16])), (a62, .inl (ty 1, 28, .inl f_2))] → va_S A s.heap H locs → lv_has ls 5 [(4, .int (zI z_1)), (0, .ref a1), (1, .ref a15), (2, .ref a62), (3, .int (zI z64))] → W p l e ({ frames := 0, cells := 0, slots := 0, locals := 0 }) s m ([.ref a1, .ref a15, .ref a62, .int (zI z64)] : List Value).toArray below meth c H locs 0 0 (MQ below ((qV (fun (u : va_W) => ∃ (f_15 : Nat → Int32), [(a15, .inr (8, [v0, v1, .int (zI z18), v2, v3, v4, v5, v6, v7, v8, v9, v10, v11, v12, v13, v14, v15, v16])), (a62, .inl (ty 1, 28, .inl f_15))] = u)) D A) ([.ref a1, .ref a15, .ref a62, .int (zI z64)] : List Value).toArray s 0 0 A) (F0 m 37 ls [])) →
      ∀ (k : Nat) (z_1 : Int) (f_2 : Nat → Int32) (H : Heap) (locs : List Loc) (ls : Array Slot), (28 - z_1).toNat < k → (0 ≤ z_1 ∧ z_1 ≤ 28) → va_P D vwCl [(a15, .inr (8, [v0, v1, .int (zI z18), v2, v3, v4, v5, v6, v7, v8, v9, v10, v11, v12, v13, v14, v15, v16])), (a62, .inl (ty 1, 28, .inl f_2))] H → va_D A [(a15, .inr (8, [v0, v1, .int (zI z18), v2, v3, v4, v5, v6, v7, v8, v9, v10, v11, v12, v13, v14, v15, v16])), (a62, .inl (ty 1, 28, .inl f_2))] → va_S A s.heap H locs → lv_has ls 5 [(4, .int (zI z_1)), (0, .ref a1), (1, .ref a15), (2, .ref a62), (3, .int (zI z64))] → W p l e ({ frames := 0, cells := 0, slots := 0, locals := 0 }) s m ([.ref a1, .ref a15, .ref a62, .int (zI z64)] : List Value).toArray below meth c H locs 0 0 (MQ below ((qV (fun (u : va_W) => ∃ (f_15 : Nat → Int32), [(a15, .inr (8, [v0, v1, .int (zI z18), v2, v3, v4, v5, v6, v7, v8, v9, v10, v11, v12, v13, v14, v15, v16])), (a62, .inl (ty 1, 28, .inl f_15))] = u)) D A) ([.ref a1, .ref a15, .ref a62, .int (zI z64)] : List Value).toArray s 0 0 A) (F0 m 3 ls []) := by
    intro kk3 k
    induction k with
    | zero => intro z_1 f_2 H locs ls hk; exact absurd hk (Nat.not_lt_zero _)
    | succ k ih3 =>
      intro z_1 f_2 H locs ls hk i_4 hP hD hS hl
      refine lv_iload hx hb dX10_turn_3 (lv_at hl 0 rfl) ?_
      refine lv_aload_n hx hb dX10_turn_5 rfl (lv_at hl 2 rfl) ?_
      refine va_get (D := D) (ci := 8) (v := .int (zI z18)) (C := RX8) (T := TX8) (N := 18) hx hb hB inB_X8 hown hK.1 hP 0 rfl rfl 2 (by decide) (hB _ mw_23) (fun _ h9 => h9) rfl dX10_turn_6 ?_
      refine ri_icmp_ge (tgt := 37) hx hb dX10_turn_9 (by decide) (by omega) (by omega) (fun c_5 => ?_) (fun c_5 => ?_)
      · exact kk3 z_1 f_2 H locs ls (by omega) hP hD hS hl
      · refine lv_iload_n hx hb dX10_turn_12 rfl (lv_at hl 4 rfl) ?_
        refine lv_iload hx hb dX10_turn_13 (lv_at hl 0 rfl) ?_
        refine lv_ishr hx hb dX10_turn_15 ?_
        refine ri_any (fun z_6 r_7 _ => ?_)
        obtain ⟨r_7a, r_7b⟩ := r_7
        refine lv_iconst (v := zI 1) hx hb dX10_turn_16 rfl ?_
        refine lv_iand hx hb dX10_turn_17 ?_
        refine ri_any (fun z_8 r_9 _ => ?_)
        obtain ⟨r_9a, r_9b⟩ := r_9
        refine ri_if_eq (tgt := 31) hx hb dX10_turn_18 (by decide) (by omega) (fun c_10 => ?_) (fun c_10 => ?_)
        · refine lv_iinc (v := zI (z_1 + 1)) (lv' := [(4, .int (zI (z_1 + 1))), (0, .ref a1), (1, .ref a15), (2, .ref a62), (3, .int (zI z64))]) hx hb dX10_turn_31 hl (k := 0) rfl (zI_add _ _) (by decide) rfl (fun ls hl => ?_)
          refine lv_goto (tgt := 3) hx hb dX10_turn_34 (by decide) ?_
          exact ih3 (z_1 + 1) f_2 H locs ls (by omega) (by omega) hP hD hS hl
        · refine lv_aload_n hx hb dX10_turn_21 rfl (lv_at hl 3 rfl) ?_
          refine lv_iload hx hb dX10_turn_22 (lv_at hl 0 rfl) ?_
          refine lv_iconst (v := zI 3) hx hb dX10_turn_24 rfl ?_
          refine lv_aload_n hx hb dX10_turn_25 rfl (lv_at hl 3 rfl) ?_
          refine lv_iload hx hb dX10_turn_26 (lv_at hl 0 rfl) ?_
          refine va_iald hx hb hK.1 hP 1 1 rfl rfl (zI_in (by omega) (by omega) (by omega)) dX10_turn_28 ?_
          refine ri_any (fun z_11 r_12 _ => ?_)
          obtain ⟨r_12a, r_12b⟩ := r_12
          refine ri_sub hx hb dX10_turn_29 ?_
          refine ri_any (fun z_13 r_14 _ => ?_)
          obtain ⟨r_14a, r_14b⟩ := r_14
          refine wy_iast hx hb hK hP hD hS 1 1 rfl rfl (zI_in (by omega) (by omega) (by omega)) dX10_turn_30 (j := (z_1).toNat) (zI_clamp (by omega) (by omega)) (ws' := [(a15, .inr (8, [v0, v1, .int (zI z18), v2, v3, v4, v5, v6, v7, v8, v9, v10, v11, v12, v13, v14, v15, v16])), (a62, .inl (ty 1, 28, .inl (upd f_2 (z_1).toNat (zI z_13))))]) rfl (fun H locs hP hD hS => ?_)
          refine lv_iinc (v := zI (z_1 + 1)) (lv' := [(4, .int (zI (z_1 + 1))), (0, .ref a1), (1, .ref a15), (2, .ref a62), (3, .int (zI z64))]) hx hb dX10_turn_31 hl (k := 0) rfl (zI_add _ _) (by decide) rfl (fun ls hl => ?_)
          refine lv_goto (tgt := 3) hx hb dX10_turn_34 (by decide) ?_
          exact ih3 (z_1 + 1) (upd f_2 (z_1).toNat (zI z_13)) H locs ls (by omega) (by omega) hP hD hS hl
  refine lp3 (fun z_1 f_2 H locs ls i_4 hP hD hS hl => ?_) 30 0 f63 _ _ ls (by omega) (by omega) hP hD hS hl
  exact kr_v hx hb hr hlocks hP hD hS [(a15, .inr (8, [v0, v1, .int (zI z18), v2, v3, v4, v5, v6, v7, v8, v9, v10, v11, v12, v13, v14, v15, v16])), (a62, .inl (ty 1, 28, .inl f_2))] [0, 1] (by decide) rfl ⟨f_2, rfl⟩ (by decide) (by decide) dX10_turn_37
