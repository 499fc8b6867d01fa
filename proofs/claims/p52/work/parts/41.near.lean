theorem mwc : Cond.fieldLink RX2 73 "OneWays$Town" "corners" "I" ∈ bW := by decide +kernel
theorem mwt : Cond.fieldLink RX2 9 "OneWays$Paths" "toGo" "[I" ∈ bW := by decide +kernel
theorem mwk : Cond.constant RX2 76 1000000 ∈ bW := by decide +kernel
theorem dX2_nearestOf_0 : decode cX2_nearestOf 0 = .ok (.iconst 0, 1) := by decide +kernel
theorem dX2_nearestOf_1 : decode cX2_nearestOf 1 = .ok (.istore_n 3, 1) := by decide +kernel
theorem dX2_nearestOf_2 : decode cX2_nearestOf 2 = .ok (.ldc 76, 2) := by decide +kernel
theorem dX2_nearestOf_4 : decode cX2_nearestOf 4 = .ok (.istore 4, 2) := by decide +kernel
theorem dX2_nearestOf_6 : decode cX2_nearestOf 6 = .ok (.iconst 0, 1) := by decide +kernel
theorem dX2_nearestOf_7 : decode cX2_nearestOf 7 = .ok (.istore 5, 2) := by decide +kernel
theorem dX2_nearestOf_9 : decode cX2_nearestOf 9 = .ok (.iload 5, 2) := by decide +kernel
theorem dX2_nearestOf_11 : decode cX2_nearestOf 11 = .ok (.aload_n 1, 1) := by decide +kernel
theorem dX2_nearestOf_12 : decode cX2_nearestOf 12 = .ok (.getfield 73, 3) := by decide +kernel
theorem dX2_nearestOf_15 : decode cX2_nearestOf 15 = .ok (.if_icmp .ge 42, 3) := by decide +kernel
theorem dX2_nearestOf_18 : decode cX2_nearestOf 18 = .ok (.iload_n 2, 1) := by decide +kernel
theorem dX2_nearestOf_19 : decode cX2_nearestOf 19 = .ok (.iload 5, 2) := by decide +kernel
theorem dX2_nearestOf_21 : decode cX2_nearestOf 21 = .ok (.ishr, 1) := by decide +kernel
theorem dX2_nearestOf_22 : decode cX2_nearestOf 22 = .ok (.iconst 1, 1) := by decide +kernel
theorem dX2_nearestOf_23 : decode cX2_nearestOf 23 = .ok (.iand, 1) := by decide +kernel
theorem dX2_nearestOf_24 : decode cX2_nearestOf 24 = .ok (.ifCond .eq 27, 3) := by decide +kernel
theorem dX2_nearestOf_27 : decode cX2_nearestOf 27 = .ok (.aload_n 0, 1) := by decide +kernel
theorem dX2_nearestOf_28 : decode cX2_nearestOf 28 = .ok (.getfield 9, 3) := by decide +kernel
theorem dX2_nearestOf_31 : decode cX2_nearestOf 31 = .ok (.iload 5, 2) := by decide +kernel
theorem dX2_nearestOf_33 : decode cX2_nearestOf 33 = .ok (.iaload, 1) := by decide +kernel
theorem dX2_nearestOf_34 : decode cX2_nearestOf 34 = .ok (.iload 4, 2) := by decide +kernel
theorem dX2_nearestOf_36 : decode cX2_nearestOf 36 = .ok (.if_icmp .ge 15, 3) := by decide +kernel
theorem dX2_nearestOf_39 : decode cX2_nearestOf 39 = .ok (.aload_n 0, 1) := by decide +kernel
theorem dX2_nearestOf_40 : decode cX2_nearestOf 40 = .ok (.getfield 9, 3) := by decide +kernel
theorem dX2_nearestOf_43 : decode cX2_nearestOf 43 = .ok (.iload 5, 2) := by decide +kernel
theorem dX2_nearestOf_45 : decode cX2_nearestOf 45 = .ok (.iaload, 1) := by decide +kernel
theorem dX2_nearestOf_46 : decode cX2_nearestOf 46 = .ok (.istore 4, 2) := by decide +kernel
theorem dX2_nearestOf_48 : decode cX2_nearestOf 48 = .ok (.iload 5, 2) := by decide +kernel
theorem dX2_nearestOf_50 : decode cX2_nearestOf 50 = .ok (.istore_n 3, 1) := by decide +kernel
theorem dX2_nearestOf_51 : decode cX2_nearestOf 51 = .ok (.iinc 5 1, 3) := by decide +kernel
theorem dX2_nearestOf_54 : decode cX2_nearestOf 54 = .ok (.goto (-45), 3) := by decide +kernel
theorem dX2_nearestOf_57 : decode cX2_nearestOf 57 = .ok (.iload_n 3, 1) := by decide +kernel
theorem dX2_nearestOf_58 : decode cX2_nearestOf 58 = .ok (.ireturn, 1) := by decide +kernel
set_option maxHeartbeats 4000000 in
theorem g_nearestOf (l : Launch) (D : va_G) (ty : Nat → ClassId) (sz : Nat) (h0 h1 h2 : Nat) (v0 v1 v2 v3 v4 t0 t1 t2 t3 t4 t5 t6 t7 t8 t9 t10 t11 t12 t13 t14 t15 t16 : Value) (f0 : Nat → Int32) (z0 w0 : Int) (b0 : 2 ≤ z0 ∧ z0 ≤ 16) (b1 : rI w0) : cQ l yX2_nearestOf cX2_nearestOf 6 (some .int) 0 0 [.ref h0, .ref h1, .int (zI w0)] D ty [(h0, .inr (2, [.ref h2, v0, v1, v2, v3, v4])), (h1, .inr (8, [t0, .int (zI z0), t1, t2, t3, t4, t5, t6, t7, t8, t9, t10, t11, t12, t13, t14, t15, t16])), (h2, .inl (ty 1, 16, .inl f0))] sz (qI (fun (r : Int32) (u : va_W) => ∃ y : Int, (0 ≤ y ∧ y ≤ 15) ∧ zI y = r ∧ [(h0, .inr (2, [.ref h2, v0, v1, v2, v3, v4])), (h1, .inr (8, [t0, .int (zI z0), t1, t2, t3, t4, t5, t6, t7, t8, t9, t10, t11, t12, t13, t14, t15, t16])), (h2, .inl (ty 1, 16, .inl f0))] = u)) 0 0 := by
  refine cQ.of (by decide) (Nat.le_of_ble_eq_true rfl) (fun p e s m below meth c A ls C hsz hP hK hD hA hl => ?_)
  obtain ⟨hx, hb, hml, hown, hB, hr, hlocks, hin⟩ := C
  have hown : s.vm.findClass RX2 = some m.cls := hown
  have hS : va_S A s.heap s.heap [] := va_S.rf
  have hl : lv_has ls 6 [(0, .ref h0), (1, .ref h1), (2, .int (zI w0))] := hl
  refine lv_iconst (v := zI 0) hx hb dX2_nearestOf_0 rfl ?_
  refine lv_istore_n (lv' := [(3, .int (zI 0)), (0, .ref h0), (1, .ref h1), (2, .int (zI w0))]) hx hb dX2_nearestOf_1 rfl hl (by decide) rfl (fun ls hl => ?_)
  refine lv_ldc hx hb hown (hB _ mwk) dX2_nearestOf_2 ?_
  refine tp_i (v := zI 1000000) rfl ?_
  refine lv_istore (lv' := [(4, .int (zI 1000000)), (3, .int (zI 0)), (0, .ref h0), (1, .ref h1), (2, .int (zI w0))]) hx hb dX2_nearestOf_4 hl (by decide) rfl (fun ls hl => ?_)
  refine lv_iconst (v := zI 0) hx hb dX2_nearestOf_6 rfl ?_
  refine lv_istore (lv' := [(5, .int (zI 0)), (4, .int (zI 1000000)), (3, .int (zI 0)), (0, .ref h0), (1, .ref h1), (2, .int (zI w0))]) hx hb dX2_nearestOf_7 hl (by decide) rfl (fun ls hl => ?_)
  have lp : (∀ (z3 z4 z5 : Int) (H : Heap) (locs : List Loc) (ls : Array Slot), (0 ≤ z3 ∧ z3 ≤ 15) → rI z4 → (0 ≤ z5 ∧ z5 ≤ 16) → va_P D vwCl [(h0, .inr (2, [.ref h2, v0, v1, v2, v3, v4])), (h1, .inr (8, [t0, .int (zI z0), t1, t2, t3, t4, t5, t6, t7, t8, t9, t10, t11, t12, t13, t14, t15, t16])), (h2, .inl (ty 1, 16, .inl f0))] H → va_D A [(h0, .inr (2, [.ref h2, v0, v1, v2, v3, v4])), (h1, .inr (8, [t0, .int (zI z0), t1, t2, t3, t4, t5, t6, t7, t8, t9, t10, t11, t12, t13, t14, t15, t16])), (h2, .inl (ty 1, 16, .inl f0))] → va_S A s.heap H locs → lv_has ls 6 [(5, .int (zI z5)), (4, .int (zI z4)), (3, .int (zI z3)), (0, .ref h0), (1, .ref h1), (2, .int (zI w0))] → W p l e ({ frames := 0, cells := 0, slots := 0, locals := 0 }) s m ([.ref h0, .ref h1, .int (zI w0)] : List Value).toArray below meth c H locs 0 0 (MQ below (qI (fun (r : Int32) (u : va_W) => ∃ y : Int, (0 ≤ y ∧ y ≤ 15) ∧ zI y = r ∧ [(h0, .inr (2, [.ref h2, v0, v1, v2, v3, v4])), (h1, .inr (8, [t0, .int (zI z0), t1, t2, t3, t4, t5, t6, t7, t8, t9, t10, t11, t12, t13, t14, t15, t16])), (h2, .inl (ty 1, 16, .inl f0))] = u) D A) ([.ref h0, .ref h1, .int (zI w0)] : List Value).toArray s 0 0 A) (F0 m 57 ls [])) →
      ∀ (k : Nat) (z3 z4 z5 : Int) (H : Heap) (locs : List Loc) (ls : Array Slot), (16 - z5).toNat < k → (0 ≤ z3 ∧ z3 ≤ 15) → rI z4 → (0 ≤ z5 ∧ z5 ≤ 16) → va_P D vwCl [(h0, .inr (2, [.ref h2, v0, v1, v2, v3, v4])), (h1, .inr (8, [t0, .int (zI z0), t1, t2, t3, t4, t5, t6, t7, t8, t9, t10, t11, t12, t13, t14, t15, t16])), (h2, .inl (ty 1, 16, .inl f0))] H → va_D A [(h0, .inr (2, [.ref h2, v0, v1, v2, v3, v4])), (h1, .inr (8, [t0, .int (zI z0), t1, t2, t3, t4, t5, t6, t7, t8, t9, t10, t11, t12, t13, t14, t15, t16])), (h2, .inl (ty 1, 16, .inl f0))] → va_S A s.heap H locs → lv_has ls 6 [(5, .int (zI z5)), (4, .int (zI z4)), (3, .int (zI z3)), (0, .ref h0), (1, .ref h1), (2, .int (zI w0))] → W p l e ({ frames := 0, cells := 0, slots := 0, locals := 0 }) s m ([.ref h0, .ref h1, .int (zI w0)] : List Value).toArray below meth c H locs 0 0 (MQ below (qI (fun (r : Int32) (u : va_W) => ∃ y : Int, (0 ≤ y ∧ y ≤ 15) ∧ zI y = r ∧ [(h0, .inr (2, [.ref h2, v0, v1, v2, v3, v4])), (h1, .inr (8, [t0, .int (zI z0), t1, t2, t3, t4, t5, t6, t7, t8, t9, t10, t11, t12, t13, t14, t15, t16])), (h2, .inl (ty 1, 16, .inl f0))] = u) D A) ([.ref h0, .ref h1, .int (zI w0)] : List Value).toArray s 0 0 A) (F0 m 9 ls []) := by
    intro kk k
    induction k with
    | zero => intro z3 z4 z5 H locs ls hk; exact absurd hk (Nat.not_lt_zero _)
    | succ k ih =>
      intro z3 z4 z5 H locs ls hk i3 i4 i5 hP hD hS hl
      refine lv_iload hx hb dX2_nearestOf_9 (lv_at hl 0 rfl) ?_
      refine lv_aload_n hx hb dX2_nearestOf_11 rfl (lv_at hl 4 rfl) ?_
      refine va_get (D := D) (ci := 8) (v := .int (zI z0)) (C := RX8) (T := TX8) (N := 18) hx hb hB inB_X8 hown hK.1 hP 1 rfl rfl 1 (by decide) (hB _ mwc) (fun _ h9 => h9) rfl dX2_nearestOf_12 ?_
      refine ri_icmp_ge (tgt := 57) hx hb dX2_nearestOf_15 (by decide) (by omega) (by omega) (fun c1 => ?_) (fun c1 => ?_)
      · exact kk z3 z4 z5 H locs ls i3 i4 i5 hP hD hS hl
      · refine lv_iload_n hx hb dX2_nearestOf_18 rfl (lv_at hl 5 rfl) ?_
        refine lv_iload hx hb dX2_nearestOf_19 (lv_at hl 0 rfl) ?_
        refine lv_ishr hx hb dX2_nearestOf_21 ?_
        refine lv_iconst (v := zI 1) hx hb dX2_nearestOf_22 rfl ?_
        refine lv_iand hx hb dX2_nearestOf_23 ?_
        refine ri_any (fun z6 r6 e6 => ?_)
        refine ri_if_eq (tgt := 51) hx hb dX2_nearestOf_24 (by decide) r6 (fun c2 => ?_) (fun c2 => ?_)
        · refine lv_iinc (v := zI (z5 + 1)) (lv' := [(5, .int (zI (z5 + 1))), (4, .int (zI z4)), (3, .int (zI z3)), (0, .ref h0), (1, .ref h1), (2, .int (zI w0))]) hx hb dX2_nearestOf_51 hl (k := 0) rfl (zI_add _ _) (by decide) rfl (fun ls hl => ?_)
          refine lv_goto (tgt := 9) hx hb dX2_nearestOf_54 (by decide) ?_
          exact ih z3 z4 (z5 + 1) H locs ls (by omega) i3 i4 (by omega) hP hD hS hl
        · refine lv_aload_n hx hb dX2_nearestOf_27 rfl (lv_at hl 3 rfl) ?_
          refine va_get (D := D) (ci := 2) (v := .ref h2) (C := RX2) (T := TX2) (N := 6) hx hb hB inB_X2 hown hK.1 hP 0 rfl rfl 0 (by decide) (hB _ mwt) (fun _ h9 => h9) rfl dX2_nearestOf_28 ?_
          refine lv_iload hx hb dX2_nearestOf_31 (lv_at hl 0 rfl) ?_
          refine va_iald hx hb hK.1 hP 2 1 rfl rfl (zI_in (by omega) (by omega) (by omega)) dX2_nearestOf_33 ?_
          refine ri_any (fun z7 r7 e7 => ?_)
          refine lv_iload hx hb dX2_nearestOf_34 (lv_at hl 1 rfl) ?_
          refine ri_icmp_ge (tgt := 51) hx hb dX2_nearestOf_36 (by decide) r7 i4 (fun c3 => ?_) (fun c3 => ?_)
          · refine lv_iinc (v := zI (z5 + 1)) (lv' := [(5, .int (zI (z5 + 1))), (4, .int (zI z4)), (3, .int (zI z3)), (0, .ref h0), (1, .ref h1), (2, .int (zI w0))]) hx hb dX2_nearestOf_51 hl (k := 0) rfl (zI_add _ _) (by decide) rfl (fun ls hl => ?_)
            refine lv_goto (tgt := 9) hx hb dX2_nearestOf_54 (by decide) ?_
            exact ih z3 z4 (z5 + 1) H locs ls (by omega) i3 i4 (by omega) hP hD hS hl
          · refine lv_aload_n hx hb dX2_nearestOf_39 rfl (lv_at hl 3 rfl) ?_
            refine va_get (D := D) (ci := 2) (v := .ref h2) (C := RX2) (T := TX2) (N := 6) hx hb hB inB_X2 hown hK.1 hP 0 rfl rfl 0 (by decide) (hB _ mwt) (fun _ h9 => h9) rfl dX2_nearestOf_40 ?_
            refine lv_iload hx hb dX2_nearestOf_43 (lv_at hl 0 rfl) ?_
            refine va_iald hx hb hK.1 hP 2 1 rfl rfl (zI_in (by omega) (by omega) (by omega)) dX2_nearestOf_45 ?_
            refine ri_any (fun z8 r8 e8 => ?_)
            refine lv_istore (lv' := [(4, .int (zI z8)), (5, .int (zI z5)), (3, .int (zI z3)), (0, .ref h0), (1, .ref h1), (2, .int (zI w0))]) hx hb dX2_nearestOf_46 hl (by decide) rfl (fun ls hl => ?_)
            refine lv_iload hx hb dX2_nearestOf_48 (lv_at hl 1 rfl) ?_
            refine lv_istore_n (lv' := [(3, .int (zI z5)), (4, .int (zI z8)), (5, .int (zI z5)), (0, .ref h0), (1, .ref h1), (2, .int (zI w0))]) hx hb dX2_nearestOf_50 rfl hl (by decide) rfl (fun ls hl => ?_)
            refine lv_iinc (v := zI (z5 + 1)) (lv' := [(5, .int (zI (z5 + 1))), (3, .int (zI z5)), (4, .int (zI z8)), (0, .ref h0), (1, .ref h1), (2, .int (zI w0))]) hx hb dX2_nearestOf_51 hl (k := 2) rfl (zI_add _ _) (by decide) rfl (fun ls hl => ?_)
            refine lv_goto (tgt := 9) hx hb dX2_nearestOf_54 (by decide) ?_
            exact ih z5 z8 (z5 + 1) H locs ls (by omega) (by omega) r8 (by omega) hP hD hS (lv_sub hl [0, 2, 1, 3, 4, 5] rfl)
  refine lp (fun z3 z4 z5 H locs ls i3 i4 i5 hP hD hS hl => ?_) 18 0 1000000 0 s.heap [] ls (by decide) (by decide) (by decide) (by decide) hP hD hS hl
  refine lv_iload_n hx hb dX2_nearestOf_57 rfl (lv_at hl 2 rfl) ?_
  exact kr_z hx hb hr rfl hlocks hP hD hS [(h0, .inr (2, [.ref h2, v0, v1, v2, v3, v4])), (h1, .inr (8, [t0, .int (zI z0), t1, t2, t3, t4, t5, t6, t7, t8, t9, t10, t11, t12, t13, t14, t15, t16])), (h2, .inl (ty 1, 16, .inl f0))] [0, 1, 2] (by decide) rfl ⟨z3, i3, rfl, rfl⟩ (by decide) (by decide) dX2_nearestOf_58
