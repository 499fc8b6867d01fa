set_option maxHeartbeats 4000000 in
set_option maxRecDepth 100000 in
theorem c119_X11_judge (l : Launch) (D : va_G) (ty : Nat → ClassId) (sz : Nat) (h0 : Nat) (h1 : Nat) (h2 : Nat) (h3 : Nat) (h4 : Nat) (h5 : Nat) (p0 : Int32) (p1 : Int32) (v0 : Value) (v1 : Value) (v2 : Value) (v3 : Value) (v4 : Value) (v5 : Value) (v6 : Value) (v7 : Value) (v8 : Value) (v9 : Value) (v10 : Value) (v11 : Value) (v12 : Value) (v13 : Value) (v14 : Value) (v15 : Value) (v16 : Value) (v17 : Value) (v18 : Value) (v19 : Value) (v20 : Value) (v21 : Value) : cQ l yX11_judge cX11_judge 4 (some .int) 1 20 [.ref h0, .int p0, .int p1] D ty [(h0, .inr (11, [v0, v1, v2, v3, v4, .ref h1, v5, v6, v7, v8, v9, v10, v11, v12, v13])), (h1, .inl (ty 4, 4, .inr (.inr (.inr (.inr (va_up (va_up (va_up (va_up kn 0 (some h2)) 1 (some h3)) 2 (some h4)) 3 (some h5))))))), (h2, .inr (4, [.int (-1), v14, v15])), (h3, .inr (4, [.int (-1), v16, v17])), (h4, .inr (4, [.int (-1), v18, v19])), (h5, .inr (4, [.int (-1), v20, v21]))] sz (qI (fun (r : Int32) (u : va_W) => ((((((p0 < 0)) ∨ ((¬ (p0 < 0)) ∧ (4 ≤ p0)))) ∨ (((¬ (p0 < 0)) ∧ (¬ (4 ≤ p0))) ∧ (p1 < 0)) ∨ (((¬ (p0 < 0)) ∧ (¬ (4 ≤ p0))) ∧ (¬ (p1 < 0)) ∧ (¬ (p1 ≤ 6)))) ∧ (-2) = r ∧ [] = u) ∨ (((((¬ (p0 < 0)) ∧ (¬ (4 ≤ p0))) ∧ (¬ (p1 < 0)) ∧ (p1 ≤ 6) ∧ (p0 = 0)) ∨ (((¬ (p0 < 0)) ∧ (¬ (4 ≤ p0))) ∧ (¬ (p1 < 0)) ∧ (p1 ≤ 6) ∧ (p0 = 1)) ∨ (((¬ (p0 < 0)) ∧ (¬ (4 ≤ p0))) ∧ (¬ (p1 < 0)) ∧ (p1 ≤ 6) ∧ (p0 = 2)) ∨ (((¬ (p0 < 0)) ∧ (¬ (4 ≤ p0))) ∧ (¬ (p1 < 0)) ∧ (p1 ≤ 6) ∧ (p0 = 3))) ∧ (-6) = r ∧ [] = u))) 0 0 := by
  refine cQ.of (by decide) (Nat.le_of_ble_eq_true rfl) (fun p e s m below meth c A ls C hsz hP hK hD hA hl => ?_)
  obtain ⟨hx, hb, hml, hown, hB, hr, hlocks, hin⟩ := C
  have hown : s.vm.findClass RX11 = some m.cls := hown
  have hS : va_S A s.heap s.heap [] := va_S.rf
  have hl : lv_has ls 4 [(0, .ref h0), (1, .int p0), (2, .int p1)] := hl
  refine lv_iload_n hx hb dX11_judge_0 rfl (lv_at hl 1 rfl) ?_
  refine kc_i (va_runS (As := [.int p0]) (rest := []) ⟨hx, hb, hml, hown, hB⟩ (c41_X11_isSlot l D ty s.heap.size p0) (va_cwS 1 hB (bw_S mw_261 mw_262 mw_216 mw_260) rfl rfl rfl (by decide +kernel) ⟨Nat.le_of_ble_eq_true rfl, Nat.le_of_ble_eq_true rfl⟩) (kp_S hK hP hD [] (by decide) rfl) rfl rfl hl.1 rfl (lv_room (Nat.le_of_ble_eq_true rfl)) dX11_judge_1 ⟨Nat.le_of_ble_eq_true rfl, Nat.le_of_ble_eq_true rfl⟩) hP hD hS hA [] [0, 1, 2, 3, 4, 5] (wr := [(h0, .inr (11, [v0, v1, v2, v3, v4, .ref h1, v5, v6, v7, v8, v9, v10, v11, v12, v13])), (h1, .inl (ty 4, 4, .inr (.inr (.inr (.inr (va_up (va_up (va_up (va_up kn 0 (some h2)) 1 (some h3)) 2 (some h4)) 3 (some h5))))))), (h2, .inr (4, [.int (-1), v14, v15])), (h3, .inr (4, [.int (-1), v16, v17])), (h4, .inr (4, [.int (-1), v18, v19])), (h5, .inr (4, [.int (-1), v20, v21]))]) rfl rfl (by decide) (by decide) (fun r u H locs w1 hP hD hS => ?_)
  rcases w1 with ⟨c2, rfl, rfl⟩ | ⟨c3, rfl, rfl⟩
  · have hP : va_P D vwCl [(h0, .inr (11, [v0, v1, v2, v3, v4, .ref h1, v5, v6, v7, v8, v9, v10, v11, v12, v13])), (h1, .inl (ty 4, 4, .inr (.inr (.inr (.inr (va_up (va_up (va_up (va_up kn 0 (some h2)) 1 (some h3)) 2 (some h4)) 3 (some h5))))))), (h2, .inr (4, [.int (-1), v14, v15])), (h3, .inr (4, [.int (-1), v16, v17])), (h4, .inr (4, [.int (-1), v18, v19])), (h5, .inr (4, [.int (-1), v20, v21]))] H := hP
    have hD : va_D A [(h0, .inr (11, [v0, v1, v2, v3, v4, .ref h1, v5, v6, v7, v8, v9, v10, v11, v12, v13])), (h1, .inl (ty 4, 4, .inr (.inr (.inr (.inr (va_up (va_up (va_up (va_up kn 0 (some h2)) 1 (some h3)) 2 (some h4)) 3 (some h5))))))), (h2, .inr (4, [.int (-1), v14, v15])), (h3, .inr (4, [.int (-1), v16, v17])), (h4, .inr (4, [.int (-1), v18, v19])), (h5, .inr (4, [.int (-1), v20, v21]))] := hD
    refine lv_if_eq (tgt := 17) hx hb dX11_judge_4 (by decide) (fun _ => ?_) (fun h9 => absurd (by decide) h9)
    refine lv_bipush (v := (-2)) hx hb dX11_judge_17 (by decide) ?_
    exact kr_z hx hb hr rfl hlocks hP hD hS [] [] (by decide) rfl (Or.inl ⟨(Or.inl c2), rfl, rfl⟩) (by decide) (by decide) dX11_judge_19
  · have hP : va_P D vwCl [(h0, .inr (11, [v0, v1, v2, v3, v4, .ref h1, v5, v6, v7, v8, v9, v10, v11, v12, v13])), (h1, .inl (ty 4, 4, .inr (.inr (.inr (.inr (va_up (va_up (va_up (va_up kn 0 (some h2)) 1 (some h3)) 2 (some h4)) 3 (some h5))))))), (h2, .inr (4, [.int (-1), v14, v15])), (h3, .inr (4, [.int (-1), v16, v17])), (h4, .inr (4, [.int (-1), v18, v19])), (h5, .inr (4, [.int (-1), v20, v21]))] H := hP
    have hD : va_D A [(h0, .inr (11, [v0, v1, v2, v3, v4, .ref h1, v5, v6, v7, v8, v9, v10, v11, v12, v13])), (h1, .inl (ty 4, 4, .inr (.inr (.inr (.inr (va_up (va_up (va_up (va_up kn 0 (some h2)) 1 (some h3)) 2 (some h4)) 3 (some h5))))))), (h2, .inr (4, [.int (-1), v14, v15])), (h3, .inr (4, [.int (-1), v16, v17])), (h4, .inr (4, [.int (-1), v18, v19])), (h5, .inr (4, [.int (-1), v20, v21]))] := hD
    refine lv_if_eq (tgt := 17) hx hb dX11_judge_4 (by decide) (fun h9 => absurd h9 (by decide)) (fun _ => ?_)
    refine lv_iload_n hx hb dX11_judge_7 rfl (lv_at hl 2 rfl) ?_
    refine lv_if_lt (tgt := 17) hx hb dX11_judge_8 (by decide) (fun c4 => ?_) (fun c4 => ?_)
    · refine lv_bipush (v := (-2)) hx hb dX11_judge_17 (by decide) ?_
      exact kr_z hx hb hr rfl hlocks hP hD hS [] [] (by decide) rfl (Or.inl ⟨(Or.inr (Or.inl ⟨c3, c4⟩)), rfl, rfl⟩) (by decide) (by decide) dX11_judge_19
    · refine lv_iload_n hx hb dX11_judge_11 rfl (lv_at hl 2 rfl) ?_
      refine lv_bipush (v := 6) hx hb dX11_judge_12 (by decide) ?_
      refine lv_icmp_le (tgt := 20) hx hb dX11_judge_14 (by decide) (fun c5 => ?_) (fun c5 => ?_)
      · refine lv_aload_n hx hb dX11_judge_20 rfl (lv_at hl 0 rfl) ?_
        refine va_get (D := D) (ci := 11) (v := .ref h1) (C := RX11) (T := TX11) (N := 15) hx hb hB inB_X11 hown hK.1 hP 0 rfl rfl 5 (by decide) (hB _ mw_89) (fun _ h9 => h9) rfl dX11_judge_21 ?_
        refine lv_iload_n hx hb dX11_judge_24 rfl (lv_at hl 1 rfl) ?_
        rcases ps_1 p0 c3 with rfl | rfl | rfl | rfl
        · refine va_aldq hx hb hK.1 hP 1 4 rfl rfl (by unfold vp_in; decide) dX11_judge_25 ?_
          refine tp_v (v := .ref h2) rfl ?_
          refine kc_i (va_runV (As := []) (rest := []) ⟨hx, hb, hml, hown, hB⟩ (c42_X4_isThere l D ty H.size h2 v14 v15) (cwV 0 hB (bw_V mw_264 mw_265 mw_266 mw_142 mw_263) rfl rfl rfl (by decide +kernel) ⟨Nat.le_of_ble_eq_true rfl, Nat.le_of_ble_eq_true rfl⟩) (kp_V hK hP hD [2] (by decide) rfl 2 rfl rfl rfl) rfl rfl hl.1 rfl (lv_room (Nat.le_of_ble_eq_true rfl)) dX11_judge_26 ⟨Nat.le_of_ble_eq_true rfl, Nat.le_of_ble_eq_true rfl⟩) hP hD hS hA [2] [0, 1, 3, 4, 5] (wr := [(h0, .inr (11, [v0, v1, v2, v3, v4, .ref h1, v5, v6, v7, v8, v9, v10, v11, v12, v13])), (h1, .inl (ty 4, 4, .inr (.inr (.inr (.inr (va_up (va_up (va_up (va_up kn 0 (some h2)) 1 (some h3)) 2 (some h4)) 3 (some h5))))))), (h3, .inr (4, [.int (-1), v16, v17])), (h4, .inr (4, [.int (-1), v18, v19])), (h5, .inr (4, [.int (-1), v20, v21]))]) rfl rfl (by decide) (by decide) (fun r u H locs w6 hP hD hS => ?_)
          obtain ⟨rfl, rfl⟩ := w6
          have hP : va_P D vwCl [(h0, .inr (11, [v0, v1, v2, v3, v4, .ref h1, v5, v6, v7, v8, v9, v10, v11, v12, v13])), (h1, .inl (ty 4, 4, .inr (.inr (.inr (.inr (va_up (va_up (va_up (va_up kn 0 (some h2)) 1 (some h3)) 2 (some h4)) 3 (some h5))))))), (h3, .inr (4, [.int (-1), v16, v17])), (h4, .inr (4, [.int (-1), v18, v19])), (h5, .inr (4, [.int (-1), v20, v21])), (h2, .inr (4, [.int (-1), v14, v15]))] H := hP
          have hD : va_D A [(h0, .inr (11, [v0, v1, v2, v3, v4, .ref h1, v5, v6, v7, v8, v9, v10, v11, v12, v13])), (h1, .inl (ty 4, 4, .inr (.inr (.inr (.inr (va_up (va_up (va_up (va_up kn 0 (some h2)) 1 (some h3)) 2 (some h4)) 3 (some h5))))))), (h3, .inr (4, [.int (-1), v16, v17])), (h4, .inr (4, [.int (-1), v18, v19])), (h5, .inr (4, [.int (-1), v20, v21])), (h2, .inr (4, [.int (-1), v14, v15]))] := hD
          refine lv_if_ne (tgt := 35) hx hb dX11_judge_29 (by decide) (fun h9 => absurd (by decide) h9) (fun _ => ?_)
          refine lv_bipush (v := (-6)) hx hb dX11_judge_32 (by decide) ?_
          exact kr_z hx hb hr rfl hlocks hP hD hS [] [] (by decide) rfl (Or.inr ⟨(Or.inl ⟨c3, c4, c5, rfl⟩), rfl, rfl⟩) (by decide) (by decide) dX11_judge_34
        · refine va_aldq hx hb hK.1 hP 1 4 rfl rfl (by unfold vp_in; decide) dX11_judge_25 ?_
          refine tp_v (v := .ref h3) rfl ?_
          refine kc_i (va_runV (As := []) (rest := []) ⟨hx, hb, hml, hown, hB⟩ (c42_X4_isThere l D ty H.size h3 v16 v17) (cwV 0 hB (bw_V mw_264 mw_265 mw_266 mw_142 mw_263) rfl rfl rfl (by decide +kernel) ⟨Nat.le_of_ble_eq_true rfl, Nat.le_of_ble_eq_true rfl⟩) (kp_V hK hP hD [3] (by decide) rfl 3 rfl rfl rfl) rfl rfl hl.1 rfl (lv_room (Nat.le_of_ble_eq_true rfl)) dX11_judge_26 ⟨Nat.le_of_ble_eq_true rfl, Nat.le_of_ble_eq_true rfl⟩) hP hD hS hA [3] [0, 1, 2, 4, 5] (wr := [(h0, .inr (11, [v0, v1, v2, v3, v4, .ref h1, v5, v6, v7, v8, v9, v10, v11, v12, v13])), (h1, .inl (ty 4, 4, .inr (.inr (.inr (.inr (va_up (va_up (va_up (va_up kn 0 (some h2)) 1 (some h3)) 2 (some h4)) 3 (some h5))))))), (h2, .inr (4, [.int (-1), v14, v15])), (h4, .inr (4, [.int (-1), v18, v19])), (h5, .inr (4, [.int (-1), v20, v21]))]) rfl rfl (by decide) (by decide) (fun r u H locs w7 hP hD hS => ?_)
          obtain ⟨rfl, rfl⟩ := w7
          have hP : va_P D vwCl [(h0, .inr (11, [v0, v1, v2, v3, v4, .ref h1, v5, v6, v7, v8, v9, v10, v11, v12, v13])), (h1, .inl (ty 4, 4, .inr (.inr (.inr (.inr (va_up (va_up (va_up (va_up kn 0 (some h2)) 1 (some h3)) 2 (some h4)) 3 (some h5))))))), (h2, .inr (4, [.int (-1), v14, v15])), (h4, .inr (4, [.int (-1), v18, v19])), (h5, .inr (4, [.int (-1), v20, v21])), (h3, .inr (4, [.int (-1), v16, v17]))] H := hP
          have hD : va_D A [(h0, .inr (11, [v0, v1, v2, v3, v4, .ref h1, v5, v6, v7, v8, v9, v10, v11, v12, v13])), (h1, .inl (ty 4, 4, .inr (.inr (.inr (.inr (va_up (va_up (va_up (va_up kn 0 (some h2)) 1 (some h3)) 2 (some h4)) 3 (some h5))))))), (h2, .inr (4, [.int (-1), v14, v15])), (h4, .inr (4, [.int (-1), v18, v19])), (h5, .inr (4, [.int (-1), v20, v21])), (h3, .inr (4, [.int (-1), v16, v17]))] := hD
          refine lv_if_ne (tgt := 35) hx hb dX11_judge_29 (by decide) (fun h9 => absurd (by decide) h9) (fun _ => ?_)
          refine lv_bipush (v := (-6)) hx hb dX11_judge_32 (by decide) ?_
          exact kr_z hx hb hr rfl hlocks hP hD hS [] [] (by decide) rfl (Or.inr ⟨(Or.inr (Or.inl ⟨c3, c4, c5, rfl⟩)), rfl, rfl⟩) (by decide) (by decide) dX11_judge_34
        · refine va_aldq hx hb hK.1 hP 1 4 rfl rfl (by unfold vp_in; decide) dX11_judge_25 ?_
          refine tp_v (v := .ref h4) rfl ?_
          refine kc_i (va_runV (As := []) (rest := []) ⟨hx, hb, hml, hown, hB⟩ (c42_X4_isThere l D ty H.size h4 v18 v19) (cwV 0 hB (bw_V mw_264 mw_265 mw_266 mw_142 mw_263) rfl rfl rfl (by decide +kernel) ⟨Nat.le_of_ble_eq_true rfl, Nat.le_of_ble_eq_true rfl⟩) (kp_V hK hP hD [4] (by decide) rfl 4 rfl rfl rfl) rfl rfl hl.1 rfl (lv_room (Nat.le_of_ble_eq_true rfl)) dX11_judge_26 ⟨Nat.le_of_ble_eq_true rfl, Nat.le_of_ble_eq_true rfl⟩) hP hD hS hA [4] [0, 1, 2, 3, 5] (wr := [(h0, .inr (11, [v0, v1, v2, v3, v4, .ref h1, v5, v6, v7, v8, v9, v10, v11, v12, v13])), (h1, .inl (ty 4, 4, .inr (.inr (.inr (.inr (va_up (va_up (va_up (va_up kn 0 (some h2)) 1 (some h3)) 2 (some h4)) 3 (some h5))))))), (h2, .inr (4, [.int (-1), v14, v15])), (h3, .inr (4, [.int (-1), v16, v17])), (h5, .inr (4, [.int (-1), v20, v21]))]) rfl rfl (by decide) (by decide) (fun r u H locs w8 hP hD hS => ?_)
          obtain ⟨rfl, rfl⟩ := w8
          have hP : va_P D vwCl [(h0, .inr (11, [v0, v1, v2, v3, v4, .ref h1, v5, v6, v7, v8, v9, v10, v11, v12, v13])), (h1, .inl (ty 4, 4, .inr (.inr (.inr (.inr (va_up (va_up (va_up (va_up kn 0 (some h2)) 1 (some h3)) 2 (some h4)) 3 (some h5))))))), (h2, .inr (4, [.int (-1), v14, v15])), (h3, .inr (4, [.int (-1), v16, v17])), (h5, .inr (4, [.int (-1), v20, v21])), (h4, .inr (4, [.int (-1), v18, v19]))] H := hP
          have hD : va_D A [(h0, .inr (11, [v0, v1, v2, v3, v4, .ref h1, v5, v6, v7, v8, v9, v10, v11, v12, v13])), (h1, .inl (ty 4, 4, .inr (.inr (.inr (.inr (va_up (va_up (va_up (va_up kn 0 (some h2)) 1 (some h3)) 2 (some h4)) 3 (some h5))))))), (h2, .inr (4, [.int (-1), v14, v15])), (h3, .inr (4, [.int (-1), v16, v17])), (h5, .inr (4, [.int (-1), v20, v21])), (h4, .inr (4, [.int (-1), v18, v19]))] := hD
          refine lv_if_ne (tgt := 35) hx hb dX11_judge_29 (by decide) (fun h9 => absurd (by decide) h9) (fun _ => ?_)
          refine lv_bipush (v := (-6)) hx hb dX11_judge_32 (by decide) ?_
          exact kr_z hx hb hr rfl hlocks hP hD hS [] [] (by decide) rfl (Or.inr ⟨(Or.inr (Or.inr (Or.inl ⟨c3, c4, c5, rfl⟩))), rfl, rfl⟩) (by decide) (by decide) dX11_judge_34
        · refine va_aldq hx hb hK.1 hP 1 4 rfl rfl (by unfold vp_in; decide) dX11_judge_25 ?_
          refine tp_v (v := .ref h5) rfl ?_
          refine kc_i (va_runV (As := []) (rest := []) ⟨hx, hb, hml, hown, hB⟩ (c42_X4_isThere l D ty H.size h5 v20 v21) (cwV 0 hB (bw_V mw_264 mw_265 mw_266 mw_142 mw_263) rfl rfl rfl (by decide +kernel) ⟨Nat.le_of_ble_eq_true rfl, Nat.le_of_ble_eq_true rfl⟩) (kp_V hK hP hD [5] (by decide) rfl 5 rfl rfl rfl) rfl rfl hl.1 rfl (lv_room (Nat.le_of_ble_eq_true rfl)) dX11_judge_26 ⟨Nat.le_of_ble_eq_true rfl, Nat.le_of_ble_eq_true rfl⟩) hP hD hS hA [5] [0, 1, 2, 3, 4] (wr := [(h0, .inr (11, [v0, v1, v2, v3, v4, .ref h1, v5, v6, v7, v8, v9, v10, v11, v12, v13])), (h1, .inl (ty 4, 4, .inr (.inr (.inr (.inr (va_up (va_up (va_up (va_up kn 0 (some h2)) 1 (some h3)) 2 (some h4)) 3 (some h5))))))), (h2, .inr (4, [.int (-1), v14, v15])), (h3, .inr (4, [.int (-1), v16, v17])), (h4, .inr (4, [.int (-1), v18, v19]))]) rfl rfl (by decide) (by decide) (fun r u H locs w9 hP hD hS => ?_)
          obtain ⟨rfl, rfl⟩ := w9
          have hP : va_P D vwCl [(h0, .inr (11, [v0, v1, v2, v3, v4, .ref h1, v5, v6, v7, v8, v9, v10, v11, v12, v13])), (h1, .inl (ty 4, 4, .inr (.inr (.inr (.inr (va_up (va_up (va_up (va_up kn 0 (some h2)) 1 (some h3)) 2 (some h4)) 3 (some h5))))))), (h2, .inr (4, [.int (-1), v14, v15])), (h3, .inr (4, [.int (-1), v16, v17])), (h4, .inr (4, [.int (-1), v18, v19])), (h5, .inr (4, [.int (-1), v20, v21]))] H := hP
          have hD : va_D A [(h0, .inr (11, [v0, v1, v2, v3, v4, .ref h1, v5, v6, v7, v8, v9, v10, v11, v12, v13])), (h1, .inl (ty 4, 4, .inr (.inr (.inr (.inr (va_up (va_up (va_up (va_up kn 0 (some h2)) 1 (some h3)) 2 (some h4)) 3 (some h5))))))), (h2, .inr (4, [.int (-1), v14, v15])), (h3, .inr (4, [.int (-1), v16, v17])), (h4, .inr (4, [.int (-1), v18, v19])), (h5, .inr (4, [.int (-1), v20, v21]))] := hD
          refine lv_if_ne (tgt := 35) hx hb dX11_judge_29 (by decide) (fun h9 => absurd (by decide) h9) (fun _ => ?_)
          refine lv_bipush (v := (-6)) hx hb dX11_judge_32 (by decide) ?_
          exact kr_z hx hb hr rfl hlocks hP hD hS [] [] (by decide) rfl (Or.inr ⟨(Or.inr (Or.inr (Or.inr ⟨c3, c4, c5, rfl⟩))), rfl, rfl⟩) (by decide) (by decide) dX11_judge_34
      · refine lv_bipush (v := (-2)) hx hb dX11_judge_17 (by decide) ?_
        exact kr_z hx hb hr rfl hlocks hP hD hS [] [] (by decide) rfl (Or.inl ⟨(Or.inr (Or.inr ⟨c3, c4, c5⟩)), rfl, rfl⟩) (by decide) (by decide) dX11_judge_19
set_option maxHeartbeats 4000000 in
set_option maxRecDepth 100000 in
theorem c121_X2_measureAll (l : Launch) (D : va_G) (ty : Nat → ClassId) (sz : Nat) (h0 : Nat) (h1 : Nat) (h2 : Nat) (h3 : Nat) (h4 : Nat) (h5 : Nat) (v0 : Value) (v1 : Value) (v2 : Value) (v3 : Value) (v4 : Value) (v5 : Value) (v6 : Value) (v7 : Value) (v8 : Value) (v9 : Value) (v10 : Value) (v11 : Value) (v12 : Value) (v13 : Value) (v14 : Value) (v15 : Value) (v16 : Value) (v17 : Value) (v18 : Value) (v19 : Value) (v20 : Value) (f0 : Nat → Int32) (f1 : Nat → Int32) : cQ l yX2_measureAll cX2_measureAll 6 none 2 56 [.ref h1, .ref h0, .ref h5, .ref h4] D ty [(h0, .inr (8, [v0, .int 2, v1, v2, v3, v4, v5, v6, v7, v8, v9, v10, v11, v12, .ref h3, v13, v14, v15])), (h1, .inr (2, [.ref h2, v16, v17, v18, v19, v20])), (h2, .inl (ty 1, 16, .inl f0)), (h3, .inl (ty 1, 17, .inl (upd (upd (upd (kf 0) 0 0) 1 0) 2 0))), (h4, .inl (ty 1, 256, .inl f1))] sz (qV (fun (u : va_W) => [(h4, .inl (ty 1, 256, .inl (upd (upd (upd (upd f1 0 0) 16 1000000) 1 1000000) 17 0))), (h3, .inl (ty 1, 17, .inl (upd (upd (upd (kf 0) 0 0) 1 0) 2 0))), (h0, .inr (8, [v0, .int 2, v1, v2, v3, v4, v5, v6, v7, v8, v9, v10, v11, v12, .ref h3, v13, v14, v15])), (h1, .inr (2, [.ref h2, v16, v17, v18, v19, v20])), (h2, .inl (ty 1, 16, .inl (upd (kf 1000000) 1 0)))] = u)) 0 0 := by
  refine cQ.of (by decide) (Nat.le_of_ble_eq_true rfl) (fun p e s m below meth c A ls C hsz hP hK hD hA hl => ?_)
  obtain ⟨hx, hb, hml, hown, hB, hr, hlocks, hin⟩ := C
  have hown : s.vm.findClass RX2 = some m.cls := hown
  have hS : va_S A s.heap s.heap [] := va_S.rf
  have hl : lv_has ls 6 [(0, .ref h1), (1, .ref h0), (2, .ref h5), (3, .ref h4)] := hl
  refine lv_iconst (v := 0) hx hb dX2_measureAll_0 (by decide) ?_
  refine lv_istore (lv' := [(4, .int 0), (0, .ref h1), (1, .ref h0), (2, .ref h5), (3, .ref h4)]) hx hb dX2_measureAll_1 hl (by decide) rfl (fun ls hl => ?_)
  refine lv_iload hx hb dX2_measureAll_3 (lv_at hl 0 rfl) ?_
  refine lv_aload_n hx hb dX2_measureAll_5 rfl (lv_at hl 2 rfl) ?_
  refine va_get (D := D) (ci := 8) (v := .int 2) (C := RX8) (T := TX8) (N := 18) hx hb hB inB_X8 hown hK.1 hP 0 rfl rfl 1 (by decide) (hB _ mw_156) (fun _ h9 => h9) rfl dX2_measureAll_6 ?_
  refine lv_icmp_ge (tgt := 62) hx hb dX2_measureAll_9 (by decide) (fun h9 => absurd h9 (by decide)) (fun _ => ?_)
  refine lv_aload_n hx hb dX2_measureAll_12 rfl (lv_at hl 1 rfl) ?_
  refine lv_aload_n hx hb dX2_measureAll_13 rfl (lv_at hl 2 rfl) ?_
  refine lv_aload_n hx hb dX2_measureAll_14 rfl (lv_at hl 3 rfl) ?_
  refine lv_iload hx hb dX2_measureAll_15 (lv_at hl 0 rfl) ?_
  refine lv_iconst (v := 0) hx hb dX2_measureAll_17 (by decide) ?_
  refine kc_v (va_runV (As := [.ref h0, .ref h5, .int 0, .int 0]) (rest := []) ⟨hx, hb, hml, hown, hB⟩ (c65_X2_goToward l D ty s.heap.size h1 h2 h0 h3 h5 v16 v17 v18 v19 v20 f0 v0 v1 v2 v3 v4 v5 v6 v7 v8 v9 v10 v11 v12 v13 v14 v15) (cwV 4 hB (bw_V mw_168 mw_169 mw_170 mw_92 mw_167) rfl rfl rfl (by decide +kernel) ⟨Nat.le_of_ble_eq_true rfl, Nat.le_of_ble_eq_true rfl⟩) (kp_V hK hP hD [1, 2, 0, 3] (by decide) rfl 1 rfl rfl rfl) rfl rfl hl.1 rfl (lv_room (Nat.le_of_ble_eq_true rfl)) dX2_measureAll_18 ⟨Nat.le_of_ble_eq_true rfl, Nat.le_of_ble_eq_true rfl⟩) hP hD hS hA [1, 2, 0, 3] [4] (wr := [(h4, .inl (ty 1, 256, .inl f1))]) rfl rfl (by decide) (by decide) (fun u H locs w1 hP hD hS => ?_)
  subst w1
  have hP : va_P D vwCl [(h4, .inl (ty 1, 256, .inl f1)), (h3, .inl (ty 1, 17, .inl (upd (upd (upd (kf 0) 0 0) 1 0) 2 0))), (h0, .inr (8, [v0, .int 2, v1, v2, v3, v4, v5, v6, v7, v8, v9, v10, v11, v12, .ref h3, v13, v14, v15])), (h1, .inr (2, [.ref h2, v16, v17, v18, v19, v20])), (h2, .inl (ty 1, 16, .inl (upd (kf 1000000) 0 0)))] H := hP
  have hD : va_D A [(h4, .inl (ty 1, 256, .inl f1)), (h3, .inl (ty 1, 17, .inl (upd (upd (upd (kf 0) 0 0) 1 0) 2 0))), (h0, .inr (8, [v0, .int 2, v1, v2, v3, v4, v5, v6, v7, v8, v9, v10, v11, v12, .ref h3, v13, v14, v15])), (h1, .inr (2, [.ref h2, v16, v17, v18, v19, v20])), (h2, .inl (ty 1, 16, .inl (upd (kf 1000000) 0 0)))] := hD
  refine lv_iconst (v := 0) hx hb dX2_measureAll_21 (by decide) ?_
  refine lv_istore (lv' := [(5, .int 0), (4, .int 0), (0, .ref h1), (1, .ref h0), (2, .ref h5), (3, .ref h4)]) hx hb dX2_measureAll_22 hl (by decide) rfl (fun ls hl => ?_)
  refine lv_iload hx hb dX2_measureAll_24 (lv_at hl 0 rfl) ?_
  refine lv_aload_n hx hb dX2_measureAll_26 rfl (lv_at hl 3 rfl) ?_
  refine va_get (D := D) (ci := 8) (v := .int 2) (C := RX8) (T := TX8) (N := 18) hx hb hB inB_X8 hown hK.1 hP 2 rfl rfl 1 (by decide) (hB _ mw_156) (fun _ h9 => h9) rfl dX2_measureAll_27 ?_
  refine lv_icmp_ge (tgt := 56) hx hb dX2_measureAll_30 (by decide) (fun h9 => absurd h9 (by decide)) (fun _ => ?_)
  refine lv_aload_n hx hb dX2_measureAll_33 rfl (lv_at hl 5 rfl) ?_
  refine lv_iload hx hb dX2_measureAll_34 (lv_at hl 0 rfl) ?_
  refine lv_bipush (v := 16) hx hb dX2_measureAll_36 (by decide) ?_
  refine lv_imul hx hb dX2_measureAll_38 ?_
  refine tp_i (v := 0) (by decide) ?_
  refine lv_iload hx hb dX2_measureAll_39 (lv_at hl 1 rfl) ?_
  refine lv_iadd hx hb dX2_measureAll_41 ?_
  refine tp_i (v := 0) (by decide) ?_
  refine lv_aload_n hx hb dX2_measureAll_42 rfl (lv_at hl 2 rfl) ?_
  refine va_get (D := D) (ci := 2) (v := .ref h2) (C := RX2) (T := TX2) (N := 6) hx hb hB inB_X2 hown hK.1 hP 3 rfl rfl 0 (by decide) (hB _ mw_94) (fun _ h9 => h9) rfl dX2_measureAll_43 ?_
  refine lv_iload hx hb dX2_measureAll_46 (lv_at hl 0 rfl) ?_
  refine va_iald hx hb hK.1 hP 4 1 rfl rfl (by unfold vp_in; decide) dX2_measureAll_48 ?_
  refine tp_i (v := 0) rfl ?_
  refine wy_iast hx hb hK hP hD hS 0 1 rfl rfl (by unfold vp_in; decide) dX2_measureAll_49 (j := 0) (by decide) (ws' := [(h4, .inl (ty 1, 256, .inl (upd f1 0 0))), (h3, .inl (ty 1, 17, .inl (upd (upd (upd (kf 0) 0 0) 1 0) 2 0))), (h0, .inr (8, [v0, .int 2, v1, v2, v3, v4, v5, v6, v7, v8, v9, v10, v11, v12, .ref h3, v13, v14, v15])), (h1, .inr (2, [.ref h2, v16, v17, v18, v19, v20])), (h2, .inl (ty 1, 16, .inl (upd (kf 1000000) 0 0)))]) rfl (fun H locs hP hD hS => ?_)
  refine lv_iinc (v := 1) (lv' := [(5, .int 1), (4, .int 0), (0, .ref h1), (1, .ref h0), (2, .ref h5), (3, .ref h4)]) hx hb dX2_measureAll_50 hl (k := 0) rfl (by decide) (by decide) rfl (fun ls hl => ?_)
  refine lv_goto (tgt := 24) hx hb dX2_measureAll_53 (by decide) ?_
  refine lv_iload hx hb dX2_measureAll_24 (lv_at hl 0 rfl) ?_
  refine lv_aload_n hx hb dX2_measureAll_26 rfl (lv_at hl 3 rfl) ?_
  refine va_get (D := D) (ci := 8) (v := .int 2) (C := RX8) (T := TX8) (N := 18) hx hb hB inB_X8 hown hK.1 hP 2 rfl rfl 1 (by decide) (hB _ mw_156) (fun _ h9 => h9) rfl dX2_measureAll_27 ?_
  refine lv_icmp_ge (tgt := 56) hx hb dX2_measureAll_30 (by decide) (fun h9 => absurd h9 (by decide)) (fun _ => ?_)
  refine lv_aload_n hx hb dX2_measureAll_33 rfl (lv_at hl 5 rfl) ?_
  refine lv_iload hx hb dX2_measureAll_34 (lv_at hl 0 rfl) ?_
  refine lv_bipush (v := 16) hx hb dX2_measureAll_36 (by decide) ?_
  refine lv_imul hx hb dX2_measureAll_38 ?_
  refine tp_i (v := 16) (by decide) ?_
  refine lv_iload hx hb dX2_measureAll_39 (lv_at hl 1 rfl) ?_
  refine lv_iadd hx hb dX2_measureAll_41 ?_
  refine tp_i (v := 16) (by decide) ?_
  refine lv_aload_n hx hb dX2_measureAll_42 rfl (lv_at hl 2 rfl) ?_
  refine va_get (D := D) (ci := 2) (v := .ref h2) (C := RX2) (T := TX2) (N := 6) hx hb hB inB_X2 hown hK.1 hP 3 rfl rfl 0 (by decide) (hB _ mw_94) (fun _ h9 => h9) rfl dX2_measureAll_43 ?_
  refine lv_iload hx hb dX2_measureAll_46 (lv_at hl 0 rfl) ?_
  refine va_iald hx hb hK.1 hP 4 1 rfl rfl (by unfold vp_in; decide) dX2_measureAll_48 ?_
  refine tp_i (v := 1000000) rfl ?_
  refine wy_iast hx hb hK hP hD hS 0 1 rfl rfl (by unfold vp_in; decide) dX2_measureAll_49 (j := 16) (by decide) (ws' := [(h4, .inl (ty 1, 256, .inl (upd (upd f1 0 0) 16 1000000))), (h3, .inl (ty 1, 17, .inl (upd (upd (upd (kf 0) 0 0) 1 0) 2 0))), (h0, .inr (8, [v0, .int 2, v1, v2, v3, v4, v5, v6, v7, v8, v9, v10, v11, v12, .ref h3, v13, v14, v15])), (h1, .inr (2, [.ref h2, v16, v17, v18, v19, v20])), (h2, .inl (ty 1, 16, .inl (upd (kf 1000000) 0 0)))]) rfl (fun H locs hP hD hS => ?_)
  refine lv_iinc (v := 2) (lv' := [(5, .int 2), (4, .int 0), (0, .ref h1), (1, .ref h0), (2, .ref h5), (3, .ref h4)]) hx hb dX2_measureAll_50 hl (k := 0) rfl (by decide) (by decide) rfl (fun ls hl => ?_)
  refine lv_goto (tgt := 24) hx hb dX2_measureAll_53 (by decide) ?_
  refine lv_iload hx hb dX2_measureAll_24 (lv_at hl 0 rfl) ?_
  refine lv_aload_n hx hb dX2_measureAll_26 rfl (lv_at hl 3 rfl) ?_
  refine va_get (D := D) (ci := 8) (v := .int 2) (C := RX8) (T := TX8) (N := 18) hx hb hB inB_X8 hown hK.1 hP 2 rfl rfl 1 (by decide) (hB _ mw_156) (fun _ h9 => h9) rfl dX2_measureAll_27 ?_
  refine lv_icmp_ge (tgt := 56) hx hb dX2_measureAll_30 (by decide) (fun _ => ?_) (fun h9 => absurd (by decide) h9)
  refine lv_iinc (v := 1) (lv' := [(4, .int 1), (5, .int 2), (0, .ref h1), (1, .ref h0), (2, .ref h5), (3, .ref h4)]) hx hb dX2_measureAll_56 hl (k := 1) rfl (by decide) (by decide) rfl (fun ls hl => ?_)
  refine lv_goto (tgt := 3) hx hb dX2_measureAll_59 (by decide) ?_
  refine lv_iload hx hb dX2_measureAll_3 (lv_at hl 0 rfl) ?_
  refine lv_aload_n hx hb dX2_measureAll_5 rfl (lv_at hl 3 rfl) ?_
  refine va_get (D := D) (ci := 8) (v := .int 2) (C := RX8) (T := TX8) (N := 18) hx hb hB inB_X8 hown hK.1 hP 2 rfl rfl 1 (by decide) (hB _ mw_156) (fun _ h9 => h9) rfl dX2_measureAll_6 ?_
  refine lv_icmp_ge (tgt := 62) hx hb dX2_measureAll_9 (by decide) (fun h9 => absurd h9 (by decide)) (fun _ => ?_)
  refine lv_aload_n hx hb dX2_measureAll_12 rfl (lv_at hl 2 rfl) ?_
  refine lv_aload_n hx hb dX2_measureAll_13 rfl (lv_at hl 3 rfl) ?_
  refine lv_aload_n hx hb dX2_measureAll_14 rfl (lv_at hl 4 rfl) ?_
  refine lv_iload hx hb dX2_measureAll_15 (lv_at hl 0 rfl) ?_
  refine lv_iconst (v := 0) hx hb dX2_measureAll_17 (by decide) ?_
  refine kc_v (va_runV (As := [.ref h0, .ref h5, .int 1, .int 0]) (rest := []) ⟨hx, hb, hml, hown, hB⟩ (c68_X2_goToward l D ty H.size h1 h2 h0 h3 h5 v16 v17 v18 v19 v20 (upd (kf 1000000) 0 0) v0 v1 v2 v3 v4 v5 v6 v7 v8 v9 v10 v11 v12 v13 v14 v15) (cwV 4 hB (bw_V mw_168 mw_169 mw_170 mw_92 mw_167) rfl rfl rfl (by decide +kernel) ⟨Nat.le_of_ble_eq_true rfl, Nat.le_of_ble_eq_true rfl⟩) (kp_V hK hP hD [3, 4, 2, 1] (by decide) rfl 3 rfl rfl rfl) rfl rfl hl.1 rfl (lv_room (Nat.le_of_ble_eq_true rfl)) dX2_measureAll_18 ⟨Nat.le_of_ble_eq_true rfl, Nat.le_of_ble_eq_true rfl⟩) hP hD hS hA [3, 4, 2, 1] [0] (wr := [(h4, .inl (ty 1, 256, .inl (upd (upd f1 0 0) 16 1000000)))]) rfl rfl (by decide) (by decide) (fun u H locs w2 hP hD hS => ?_)
  subst w2
  have hP : va_P D vwCl [(h4, .inl (ty 1, 256, .inl (upd (upd f1 0 0) 16 1000000))), (h3, .inl (ty 1, 17, .inl (upd (upd (upd (kf 0) 0 0) 1 0) 2 0))), (h0, .inr (8, [v0, .int 2, v1, v2, v3, v4, v5, v6, v7, v8, v9, v10, v11, v12, .ref h3, v13, v14, v15])), (h1, .inr (2, [.ref h2, v16, v17, v18, v19, v20])), (h2, .inl (ty 1, 16, .inl (upd (kf 1000000) 1 0)))] H := hP
  have hD : va_D A [(h4, .inl (ty 1, 256, .inl (upd (upd f1 0 0) 16 1000000))), (h3, .inl (ty 1, 17, .inl (upd (upd (upd (kf 0) 0 0) 1 0) 2 0))), (h0, .inr (8, [v0, .int 2, v1, v2, v3, v4, v5, v6, v7, v8, v9, v10, v11, v12, .ref h3, v13, v14, v15])), (h1, .inr (2, [.ref h2, v16, v17, v18, v19, v20])), (h2, .inl (ty 1, 16, .inl (upd (kf 1000000) 1 0)))] := hD
  refine lv_iconst (v := 0) hx hb dX2_measureAll_21 (by decide) ?_
  refine lv_istore (lv' := [(5, .int 0), (4, .int 1), (0, .ref h1), (1, .ref h0), (2, .ref h5), (3, .ref h4)]) hx hb dX2_measureAll_22 hl (by decide) rfl (fun ls hl => ?_)
  refine lv_iload hx hb dX2_measureAll_24 (lv_at hl 0 rfl) ?_
  refine lv_aload_n hx hb dX2_measureAll_26 rfl (lv_at hl 3 rfl) ?_
  refine va_get (D := D) (ci := 8) (v := .int 2) (C := RX8) (T := TX8) (N := 18) hx hb hB inB_X8 hown hK.1 hP 2 rfl rfl 1 (by decide) (hB _ mw_156) (fun _ h9 => h9) rfl dX2_measureAll_27 ?_
  refine lv_icmp_ge (tgt := 56) hx hb dX2_measureAll_30 (by decide) (fun h9 => absurd h9 (by decide)) (fun _ => ?_)
  refine lv_aload_n hx hb dX2_measureAll_33 rfl (lv_at hl 5 rfl) ?_
  refine lv_iload hx hb dX2_measureAll_34 (lv_at hl 0 rfl) ?_
  refine lv_bipush (v := 16) hx hb dX2_measureAll_36 (by decide) ?_
  refine lv_imul hx hb dX2_measureAll_38 ?_
  refine tp_i (v := 0) (by decide) ?_
  refine lv_iload hx hb dX2_measureAll_39 (lv_at hl 1 rfl) ?_
  refine lv_iadd hx hb dX2_measureAll_41 ?_
  refine tp_i (v := 1) (by decide) ?_
  refine lv_aload_n hx hb dX2_measureAll_42 rfl (lv_at hl 2 rfl) ?_
  refine va_get (D := D) (ci := 2) (v := .ref h2) (C := RX2) (T := TX2) (N := 6) hx hb hB inB_X2 hown hK.1 hP 3 rfl rfl 0 (by decide) (hB _ mw_94) (fun _ h9 => h9) rfl dX2_measureAll_43 ?_
  refine lv_iload hx hb dX2_measureAll_46 (lv_at hl 0 rfl) ?_
  refine va_iald hx hb hK.1 hP 4 1 rfl rfl (by unfold vp_in; decide) dX2_measureAll_48 ?_
  refine tp_i (v := 1000000) rfl ?_
  refine wy_iast hx hb hK hP hD hS 0 1 rfl rfl (by unfold vp_in; decide) dX2_measureAll_49 (j := 1) (by decide) (ws' := [(h4, .inl (ty 1, 256, .inl (upd (upd (upd f1 0 0) 16 1000000) 1 1000000))), (h3, .inl (ty 1, 17, .inl (upd (upd (upd (kf 0) 0 0) 1 0) 2 0))), (h0, .inr (8, [v0, .int 2, v1, v2, v3, v4, v5, v6, v7, v8, v9, v10, v11, v12, .ref h3, v13, v14, v15])), (h1, .inr (2, [.ref h2, v16, v17, v18, v19, v20])), (h2, .inl (ty 1, 16, .inl (upd (kf 1000000) 1 0)))]) rfl (fun H locs hP hD hS => ?_)
  refine lv_iinc (v := 1) (lv' := [(5, .int 1), (4, .int 1), (0, .ref h1), (1, .ref h0), (2, .ref h5), (3, .ref h4)]) hx hb dX2_measureAll_50 hl (k := 0) rfl (by decide) (by decide) rfl (fun ls hl => ?_)
  refine lv_goto (tgt := 24) hx hb dX2_measureAll_53 (by decide) ?_
  refine lv_iload hx hb dX2_measureAll_24 (lv_at hl 0 rfl) ?_
  refine lv_aload_n hx hb dX2_measureAll_26 rfl (lv_at hl 3 rfl) ?_
  refine va_get (D := D) (ci := 8) (v := .int 2) (C := RX8) (T := TX8) (N := 18) hx hb hB inB_X8 hown hK.1 hP 2 rfl rfl 1 (by decide) (hB _ mw_156) (fun _ h9 => h9) rfl dX2_measureAll_27 ?_
  refine lv_icmp_ge (tgt := 56) hx hb dX2_measureAll_30 (by decide) (fun h9 => absurd h9 (by decide)) (fun _ => ?_)
  refine lv_aload_n hx hb dX2_measureAll_33 rfl (lv_at hl 5 rfl) ?_
  refine lv_iload hx hb dX2_measureAll_34 (lv_at hl 0 rfl) ?_
  refine lv_bipush (v := 16) hx hb dX2_measureAll_36 (by decide) ?_
  refine lv_imul hx hb dX2_measureAll_38 ?_
  refine tp_i (v := 16) (by decide) ?_
  refine lv_iload hx hb dX2_measureAll_39 (lv_at hl 1 rfl) ?_
  refine lv_iadd hx hb dX2_measureAll_41 ?_
  refine tp_i (v := 17) (by decide) ?_
  refine lv_aload_n hx hb dX2_measureAll_42 rfl (lv_at hl 2 rfl) ?_
  refine va_get (D := D) (ci := 2) (v := .ref h2) (C := RX2) (T := TX2) (N := 6) hx hb hB inB_X2 hown hK.1 hP 3 rfl rfl 0 (by decide) (hB _ mw_94) (fun _ h9 => h9) rfl dX2_measureAll_43 ?_
  refine lv_iload hx hb dX2_measureAll_46 (lv_at hl 0 rfl) ?_
  refine va_iald hx hb hK.1 hP 4 1 rfl rfl (by unfold vp_in; decide) dX2_measureAll_48 ?_
  refine tp_i (v := 0) rfl ?_
  refine wy_iast hx hb hK hP hD hS 0 1 rfl rfl (by unfold vp_in; decide) dX2_measureAll_49 (j := 17) (by decide) (ws' := [(h4, .inl (ty 1, 256, .inl (upd (upd (upd (upd f1 0 0) 16 1000000) 1 1000000) 17 0))), (h3, .inl (ty 1, 17, .inl (upd (upd (upd (kf 0) 0 0) 1 0) 2 0))), (h0, .inr (8, [v0, .int 2, v1, v2, v3, v4, v5, v6, v7, v8, v9, v10, v11, v12, .ref h3, v13, v14, v15])), (h1, .inr (2, [.ref h2, v16, v17, v18, v19, v20])), (h2, .inl (ty 1, 16, .inl (upd (kf 1000000) 1 0)))]) rfl (fun H locs hP hD hS => ?_)
  refine lv_iinc (v := 2) (lv' := [(5, .int 2), (4, .int 1), (0, .ref h1), (1, .ref h0), (2, .ref h5), (3, .ref h4)]) hx hb dX2_measureAll_50 hl (k := 0) rfl (by decide) (by decide) rfl (fun ls hl => ?_)
  refine lv_goto (tgt := 24) hx hb dX2_measureAll_53 (by decide) ?_
  refine lv_iload hx hb dX2_measureAll_24 (lv_at hl 0 rfl) ?_
  refine lv_aload_n hx hb dX2_measureAll_26 rfl (lv_at hl 3 rfl) ?_
  refine va_get (D := D) (ci := 8) (v := .int 2) (C := RX8) (T := TX8) (N := 18) hx hb hB inB_X8 hown hK.1 hP 2 rfl rfl 1 (by decide) (hB _ mw_156) (fun _ h9 => h9) rfl dX2_measureAll_27 ?_
  refine lv_icmp_ge (tgt := 56) hx hb dX2_measureAll_30 (by decide) (fun _ => ?_) (fun h9 => absurd (by decide) h9)
  refine lv_iinc (v := 2) (lv' := [(4, .int 2), (5, .int 2), (0, .ref h1), (1, .ref h0), (2, .ref h5), (3, .ref h4)]) hx hb dX2_measureAll_56 hl (k := 1) rfl (by decide) (by decide) rfl (fun ls hl => ?_)
  refine lv_goto (tgt := 3) hx hb dX2_measureAll_59 (by decide) ?_
  refine lv_iload hx hb dX2_measureAll_3 (lv_at hl 0 rfl) ?_
  refine lv_aload_n hx hb dX2_measureAll_5 rfl (lv_at hl 3 rfl) ?_
  refine va_get (D := D) (ci := 8) (v := .int 2) (C := RX8) (T := TX8) (N := 18) hx hb hB inB_X8 hown hK.1 hP 2 rfl rfl 1 (by decide) (hB _ mw_156) (fun _ h9 => h9) rfl dX2_measureAll_6 ?_
  refine lv_icmp_ge (tgt := 62) hx hb dX2_measureAll_9 (by decide) (fun _ => ?_) (fun h9 => absurd (by decide) h9)
  exact kr_v hx hb hr hlocks hP hD hS [(h4, .inl (ty 1, 256, .inl (upd (upd (upd (upd f1 0 0) 16 1000000) 1 1000000) 17 0))), (h3, .inl (ty 1, 17, .inl (upd (upd (upd (kf 0) 0 0) 1 0) 2 0))), (h0, .inr (8, [v0, .int 2, v1, v2, v3, v4, v5, v6, v7, v8, v9, v10, v11, v12, .ref h3, v13, v14, v15])), (h1, .inr (2, [.ref h2, v16, v17, v18, v19, v20])), (h2, .inl (ty 1, 16, .inl (upd (kf 1000000) 1 0)))] [0, 1, 2, 3, 4] (by decide) rfl rfl (by decide) (by decide) dX2_measureAll_62
set_option maxHeartbeats 4000000 in
set_option maxRecDepth 100000 in
theorem c122_X2_sparedBy (l : Launch) (D : va_G) (ty : Nat → ClassId) (sz : Nat) (h0 : Nat) (h1 : Nat) (h2 : Nat) (p0 : Int32) (v0 : Value) (v1 : Value) (v2 : Value) (v3 : Value) (v4 : Value) (v5 : Value) (v6 : Value) (v7 : Value) (v8 : Value) (v9 : Value) (v10 : Value) (v11 : Value) (v12 : Value) (v13 : Value) (v14 : Value) (v15 : Value) (v16 : Value) (v17 : Value) (v18 : Value) (v19 : Value) : cQ l yX2_sparedBy cX2_sparedBy 12 (some .int) 0 0 [.ref h2, .ref h0, .int 0, .int 1, .int p0] D ty [(h0, .inr (8, [v0, v1, v2, v3, v4, v5, v6, v7, v8, v9, v10, v11, .ref h1, v12, v13, v14, v15, v16])), (h1, .inr (1, [.int 0, v17, v18, v19]))] sz (qI (fun (r : Int32) (u : va_W) => 0 = r ∧ [(h0, .inr (8, [v0, v1, v2, v3, v4, v5, v6, v7, v8, v9, v10, v11, .ref h1, v12, v13, v14, v15, v16])), (h1, .inr (1, [.int 0, v17, v18, v19]))] = u)) 0 0 := by
  refine cQ.of (by decide) (Nat.le_of_ble_eq_true rfl) (fun p e s m below meth c A ls C hsz hP hK hD hA hl => ?_)
  obtain ⟨hx, hb, hml, hown, hB, hr, hlocks, hin⟩ := C
  have hown : s.vm.findClass RX2 = some m.cls := hown
  have hS : va_S A s.heap s.heap [] := va_S.rf
  have hl : lv_has ls 12 [(0, .ref h2), (1, .ref h0), (2, .int 0), (3, .int 1), (4, .int p0)] := hl
  refine lv_iconst (v := 0) hx hb dX2_sparedBy_0 (by decide) ?_
  refine lv_istore (lv' := [(5, .int 0), (0, .ref h2), (1, .ref h0), (2, .int 0), (3, .int 1), (4, .int p0)]) hx hb dX2_sparedBy_1 hl (by decide) rfl (fun ls hl => ?_)
  refine lv_iconst (v := 0) hx hb dX2_sparedBy_3 (by decide) ?_
  refine lv_istore (lv' := [(6, .int 0), (5, .int 0), (0, .ref h2), (1, .ref h0), (2, .int 0), (3, .int 1), (4, .int p0)]) hx hb dX2_sparedBy_4 hl (by decide) rfl (fun ls hl => ?_)
  refine lv_iload hx hb dX2_sparedBy_6 (lv_at hl 0 rfl) ?_
  refine lv_aload_n hx hb dX2_sparedBy_8 rfl (lv_at hl 3 rfl) ?_
  refine va_get (D := D) (ci := 8) (v := .ref h1) (C := RX8) (T := TX8) (N := 18) hx hb hB inB_X8 hown hK.1 hP 0 rfl rfl 12 (by decide) (hB _ mw_328) (fun _ h9 => h9) rfl dX2_sparedBy_9 ?_
  refine va_get (D := D) (ci := 1) (v := .int 0) (C := RX1) (T := TX1) (N := 4) hx hb hB inB_X1 hown hK.1 hP 1 rfl rfl 0 (by decide) (hB _ mw_329) (fun _ h9 => h9) rfl dX2_sparedBy_12 ?_
  refine lv_icmp_ge (tgt := 147) hx hb dX2_sparedBy_15 (by decide) (fun _ => ?_) (fun h9 => absurd (by decide) h9)
  refine lv_iload hx hb dX2_sparedBy_147 (lv_at hl 1 rfl) ?_
  exact kr_z hx hb hr rfl hlocks hP hD hS [(h0, .inr (8, [v0, v1, v2, v3, v4, v5, v6, v7, v8, v9, v10, v11, .ref h1, v12, v13, v14, v15, v16])), (h1, .inr (1, [.int 0, v17, v18, v19]))] [0, 1] (by decide) rfl ⟨rfl, rfl⟩ (by decide) (by decide) dX2_sparedBy_149
set_option maxHeartbeats 4000000 in
set_option maxRecDepth 100000 in
theorem c120_X11_spare (l : Launch) (D : va_G) (ty : Nat → ClassId) (sz : Nat) (h0 : Nat) (h1 : Nat) (h2 : Nat) (h3 : Nat) (h4 : Nat) (h5 : Nat) (h6 : Nat) (h7 : Nat) (h8 : Nat) (p0 : Int32) (p1 : Int32) (v0 : Value) (v1 : Value) (v2 : Value) (v3 : Value) (v4 : Value) (v5 : Value) (v6 : Value) (v7 : Value) (v8 : Value) (v9 : Value) (v10 : Value) (v11 : Value) (v12 : Value) (v13 : Value) (h9 : Nat) (h10 : Nat) (v14 : Value) (v15 : Value) (v16 : Value) (v17 : Value) (v18 : Value) (v19 : Value) (v20 : Value) (v21 : Value) (v22 : Value) (v23 : Value) (v24 : Value) (v25 : Value) (v26 : Value) (v27 : Value) (v28 : Value) (v29 : Value) (v30 : Value) (v31 : Value) (v32 : Value) (v33 : Value) (v34 : Value) (v35 : Value) (f0 : Nat → Int32) (f1 : Nat → Int32) : cQ l yX11_spare cX11_spare 7 (some .int) 3 81 [.ref h0, .int p0, .int p1] D ty [(h0, .inr (11, [v0, v1, v2, .ref h1, v3, v4, .ref h3, v5, v6, v7, v8, v9, v10, v11, v12])), (h1, .inr (5, [.ref h4, .ref h2, v13])), (h2, .inl (ty 6, 2, .inr (.inr (.inr (.inr (wy2 h9 h10)))))), (h3, .inr (2, [.ref h6, .ref h8, v14, v15, v16, v17])), (h4, .inr (8, [v18, .int 2, v19, v20, v21, v22, v23, v24, v25, v26, v27, v28, .ref h5, v29, .ref h7, v30, v31, v32])), (h5, .inr (1, [.int 0, v33, v34, v35])), (h6, .inl (ty 1, 16, .inl f0)), (h7, .inl (ty 1, 17, .inl (upd (upd (upd (kf 0) 0 0) 1 0) 2 0))), (h8, .inl (ty 1, 256, .inl f1))] sz (qI (fun (r : Int32) (u : va_W) => ((((((p0 < 0)) ∨ ((¬ (p0 < 0)) ∧ (2 ≤ p0)))) ∨ (((¬ (p0 < 0)) ∧ (¬ (2 ≤ p0))) ∧ (p1 < 1)) ∨ (((¬ (p0 < 0)) ∧ (¬ (2 ≤ p0))) ∧ (¬ (p1 < 1)) ∧ (¬ (p1 ≤ 60)))) ∧ (-2) = r ∧ [] = u) ∨ (((((¬ (p0 < 0)) ∧ (¬ (2 ≤ p0))) ∧ (¬ (p1 < 1)) ∧ (p1 ≤ 60) ∧ (p0 = 0)) ∨ (((¬ (p0 < 0)) ∧ (¬ (2 ≤ p0))) ∧ (¬ (p1 < 1)) ∧ (p1 ≤ 60) ∧ (p0 = 1))) ∧ 0 = r ∧ [] = u))) 0 0 := by
  refine cQ.of (by decide) (Nat.le_of_ble_eq_true rfl) (fun p e s m below meth c A ls C hsz hP hK hD hA hl => ?_)
  obtain ⟨hx, hb, hml, hown, hB, hr, hlocks, hin⟩ := C
  have hown : s.vm.findClass RX11 = some m.cls := hown
  have hS : va_S A s.heap s.heap [] := va_S.rf
  have hl : lv_has ls 7 [(0, .ref h0), (1, .int p0), (2, .int p1)] := hl
  refine lv_iload_n hx hb dX11_spare_0 rfl (lv_at hl 1 rfl) ?_
  refine kc_i (va_runS (As := [.int p0]) (rest := []) ⟨hx, hb, hml, hown, hB⟩ (c38_X11_isGiving l D ty s.heap.size p0) (va_cwS 1 hB (bw_S mw_253 mw_254 mw_216 mw_252) rfl rfl rfl (by decide +kernel) ⟨Nat.le_of_ble_eq_true rfl, Nat.le_of_ble_eq_true rfl⟩) (kp_S hK hP hD [] (by decide) rfl) rfl rfl hl.1 rfl (lv_room (Nat.le_of_ble_eq_true rfl)) dX11_spare_1 ⟨Nat.le_of_ble_eq_true rfl, Nat.le_of_ble_eq_true rfl⟩) hP hD hS hA [] [0, 1, 2, 3, 4, 5, 6, 7, 8] (wr := [(h0, .inr (11, [v0, v1, v2, .ref h1, v3, v4, .ref h3, v5, v6, v7, v8, v9, v10, v11, v12])), (h1, .inr (5, [.ref h4, .ref h2, v13])), (h2, .inl (ty 6, 2, .inr (.inr (.inr (.inr (wy2 h9 h10)))))), (h3, .inr (2, [.ref h6, .ref h8, v14, v15, v16, v17])), (h4, .inr (8, [v18, .int 2, v19, v20, v21, v22, v23, v24, v25, v26, v27, v28, .ref h5, v29, .ref h7, v30, v31, v32])), (h5, .inr (1, [.int 0, v33, v34, v35])), (h6, .inl (ty 1, 16, .inl f0)), (h7, .inl (ty 1, 17, .inl (upd (upd (upd (kf 0) 0 0) 1 0) 2 0))), (h8, .inl (ty 1, 256, .inl f1))]) rfl rfl (by decide) (by decide) (fun r u H locs w1 hP hD hS => ?_)
  rcases w1 with ⟨c2, rfl, rfl⟩ | ⟨c3, rfl, rfl⟩
  · have hP : va_P D vwCl [(h0, .inr (11, [v0, v1, v2, .ref h1, v3, v4, .ref h3, v5, v6, v7, v8, v9, v10, v11, v12])), (h1, .inr (5, [.ref h4, .ref h2, v13])), (h2, .inl (ty 6, 2, .inr (.inr (.inr (.inr (wy2 h9 h10)))))), (h3, .inr (2, [.ref h6, .ref h8, v14, v15, v16, v17])), (h4, .inr (8, [v18, .int 2, v19, v20, v21, v22, v23, v24, v25, v26, v27, v28, .ref h5, v29, .ref h7, v30, v31, v32])), (h5, .inr (1, [.int 0, v33, v34, v35])), (h6, .inl (ty 1, 16, .inl f0)), (h7, .inl (ty 1, 17, .inl (upd (upd (upd (kf 0) 0 0) 1 0) 2 0))), (h8, .inl (ty 1, 256, .inl f1))] H := hP
    have hD : va_D A [(h0, .inr (11, [v0, v1, v2, .ref h1, v3, v4, .ref h3, v5, v6, v7, v8, v9, v10, v11, v12])), (h1, .inr (5, [.ref h4, .ref h2, v13])), (h2, .inl (ty 6, 2, .inr (.inr (.inr (.inr (wy2 h9 h10)))))), (h3, .inr (2, [.ref h6, .ref h8, v14, v15, v16, v17])), (h4, .inr (8, [v18, .int 2, v19, v20, v21, v22, v23, v24, v25, v26, v27, v28, .ref h5, v29, .ref h7, v30, v31, v32])), (h5, .inr (1, [.int 0, v33, v34, v35])), (h6, .inl (ty 1, 16, .inl f0)), (h7, .inl (ty 1, 17, .inl (upd (upd (upd (kf 0) 0 0) 1 0) 2 0))), (h8, .inl (ty 1, 256, .inl f1))] := hD
    refine lv_if_eq (tgt := 18) hx hb dX11_spare_4 (by decide) (fun _ => ?_) (fun h9 => absurd (by decide) h9)
    refine lv_bipush (v := (-2)) hx hb dX11_spare_18 (by decide) ?_
    exact kr_z hx hb hr rfl hlocks hP hD hS [] [] (by decide) rfl (Or.inl ⟨(Or.inl c2), rfl, rfl⟩) (by decide) (by decide) dX11_spare_20
  · have hP : va_P D vwCl [(h0, .inr (11, [v0, v1, v2, .ref h1, v3, v4, .ref h3, v5, v6, v7, v8, v9, v10, v11, v12])), (h1, .inr (5, [.ref h4, .ref h2, v13])), (h2, .inl (ty 6, 2, .inr (.inr (.inr (.inr (wy2 h9 h10)))))), (h3, .inr (2, [.ref h6, .ref h8, v14, v15, v16, v17])), (h4, .inr (8, [v18, .int 2, v19, v20, v21, v22, v23, v24, v25, v26, v27, v28, .ref h5, v29, .ref h7, v30, v31, v32])), (h5, .inr (1, [.int 0, v33, v34, v35])), (h6, .inl (ty 1, 16, .inl f0)), (h7, .inl (ty 1, 17, .inl (upd (upd (upd (kf 0) 0 0) 1 0) 2 0))), (h8, .inl (ty 1, 256, .inl f1))] H := hP
    have hD : va_D A [(h0, .inr (11, [v0, v1, v2, .ref h1, v3, v4, .ref h3, v5, v6, v7, v8, v9, v10, v11, v12])), (h1, .inr (5, [.ref h4, .ref h2, v13])), (h2, .inl (ty 6, 2, .inr (.inr (.inr (.inr (wy2 h9 h10)))))), (h3, .inr (2, [.ref h6, .ref h8, v14, v15, v16, v17])), (h4, .inr (8, [v18, .int 2, v19, v20, v21, v22, v23, v24, v25, v26, v27, v28, .ref h5, v29, .ref h7, v30, v31, v32])), (h5, .inr (1, [.int 0, v33, v34, v35])), (h6, .inl (ty 1, 16, .inl f0)), (h7, .inl (ty 1, 17, .inl (upd (upd (upd (kf 0) 0 0) 1 0) 2 0))), (h8, .inl (ty 1, 256, .inl f1))] := hD
    refine lv_if_eq (tgt := 18) hx hb dX11_spare_4 (by decide) (fun h9 => absurd h9 (by decide)) (fun _ => ?_)
    refine lv_iload_n hx hb dX11_spare_7 rfl (lv_at hl 2 rfl) ?_
    refine lv_iconst (v := 1) hx hb dX11_spare_8 (by decide) ?_
    refine lv_icmp_lt (tgt := 18) hx hb dX11_spare_9 (by decide) (fun c4 => ?_) (fun c4 => ?_)
    · refine lv_bipush (v := (-2)) hx hb dX11_spare_18 (by decide) ?_
      exact kr_z hx hb hr rfl hlocks hP hD hS [] [] (by decide) rfl (Or.inl ⟨(Or.inr (Or.inl ⟨c3, c4⟩)), rfl, rfl⟩) (by decide) (by decide) dX11_spare_20
    · refine lv_iload_n hx hb dX11_spare_12 rfl (lv_at hl 2 rfl) ?_
      refine lv_bipush (v := 60) hx hb dX11_spare_13 (by decide) ?_
      refine lv_icmp_le (tgt := 21) hx hb dX11_spare_15 (by decide) (fun c5 => ?_) (fun c5 => ?_)
      · refine lv_aload_n hx hb dX11_spare_21 rfl (lv_at hl 0 rfl) ?_
        refine va_get (D := D) (ci := 11) (v := .ref h3) (C := RX11) (T := TX11) (N := 15) hx hb hB inB_X11 hown hK.1 hP 0 rfl rfl 6 (by decide) (hB _ mw_102) (fun _ h9 => h9) rfl dX11_spare_22 ?_
        refine lv_aload_n hx hb dX11_spare_25 rfl (lv_at hl 0 rfl) ?_
        refine va_get (D := D) (ci := 11) (v := .ref h1) (C := RX11) (T := TX11) (N := 15) hx hb hB inB_X11 hown hK.1 hP 0 rfl rfl 3 (by decide) (hB _ mw_85) (fun _ h9 => h9) rfl dX11_spare_26 ?_
        refine va_get (D := D) (ci := 5) (v := .ref h4) (C := RX5) (T := TX5) (N := 3) hx hb hB inB_X5 hown hK.1 hP 1 rfl rfl 0 (by decide) (hB _ mw_150) (fun _ h9 => h9) rfl dX11_spare_29 ?_
        refine lv_aload_n hx hb dX11_spare_32 rfl (lv_at hl 0 rfl) ?_
        refine va_get (D := D) (ci := 11) (v := .ref h1) (C := RX11) (T := TX11) (N := 15) hx hb hB inB_X11 hown hK.1 hP 0 rfl rfl 3 (by decide) (hB _ mw_85) (fun _ h9 => h9) rfl dX11_spare_33 ?_
        refine va_get (D := D) (ci := 5) (v := .ref h2) (C := RX5) (T := TX5) (N := 3) hx hb hB inB_X5 hown hK.1 hP 1 rfl rfl 1 (by decide) (hB _ mw_267) (fun _ h9 => h9) rfl dX11_spare_36 ?_
        refine lv_iload_n hx hb dX11_spare_39 rfl (lv_at hl 1 rfl) ?_
        rcases ps_2 p0 c3 with rfl | rfl
        · refine va_aldA hx hb hK.1 hP 2 6 rfl rfl (by unfold vp_in; decide) dX11_spare_40 ?_
          refine tp_v (v := .ref h9) rfl ?_
          refine lv_iconst (v := 0) hx hb dX11_spare_41 (by decide) ?_
          refine lv_ldc hx hb hown (hB _ mw_327) dX11_spare_42 ?_
          refine kc_i (va_runV (As := [.ref h4, .ref h9, .int 0, .int 1000000000]) (rest := []) ⟨hx, hb, hml, hown, hB⟩ (c75_X2_sumOf l D ty H.size h4 h5 h3 h9 v18 (.int 2) v19 v20 v21 v22 v23 v24 v25 v26 v27 v28 v29 (.ref h7) v30 v31 v32 v33 v34 v35) (cwV 4 hB (bw_V mw_331 mw_332 mw_333 mw_92 mw_330) rfl rfl rfl (by decide +kernel) ⟨Nat.le_of_ble_eq_true rfl, Nat.le_of_ble_eq_true rfl⟩) (kp_V hK hP hD [4, 5] (by decide) rfl 3 rfl rfl rfl) rfl rfl hl.1 rfl (lv_room (Nat.le_of_ble_eq_true rfl)) dX11_spare_44 ⟨Nat.le_of_ble_eq_true rfl, Nat.le_of_ble_eq_true rfl⟩) hP hD hS hA [4, 5] [0, 1, 2, 3, 6, 7, 8] (wr := [(h0, .inr (11, [v0, v1, v2, .ref h1, v3, v4, .ref h3, v5, v6, v7, v8, v9, v10, v11, v12])), (h1, .inr (5, [.ref h4, .ref h2, v13])), (h2, .inl (ty 6, 2, .inr (.inr (.inr (.inr (wy2 h9 h10)))))), (h3, .inr (2, [.ref h6, .ref h8, v14, v15, v16, v17])), (h6, .inl (ty 1, 16, .inl f0)), (h7, .inl (ty 1, 17, .inl (upd (upd (upd (kf 0) 0 0) 1 0) 2 0))), (h8, .inl (ty 1, 256, .inl f1))]) rfl rfl (by decide) (by decide) (fun r u H locs w6 hP hD hS => ?_)
          obtain ⟨rfl, rfl⟩ := w6
          have hP : va_P D vwCl [(h0, .inr (11, [v0, v1, v2, .ref h1, v3, v4, .ref h3, v5, v6, v7, v8, v9, v10, v11, v12])), (h1, .inr (5, [.ref h4, .ref h2, v13])), (h2, .inl (ty 6, 2, .inr (.inr (.inr (.inr (wy2 h9 h10)))))), (h3, .inr (2, [.ref h6, .ref h8, v14, v15, v16, v17])), (h6, .inl (ty 1, 16, .inl f0)), (h7, .inl (ty 1, 17, .inl (upd (upd (upd (kf 0) 0 0) 1 0) 2 0))), (h8, .inl (ty 1, 256, .inl f1)), (h4, .inr (8, [v18, .int 2, v19, v20, v21, v22, v23, v24, v25, v26, v27, v28, .ref h5, v29, .ref h7, v30, v31, v32])), (h5, .inr (1, [.int 0, v33, v34, v35]))] H := hP
          have hD : va_D A [(h0, .inr (11, [v0, v1, v2, .ref h1, v3, v4, .ref h3, v5, v6, v7, v8, v9, v10, v11, v12])), (h1, .inr (5, [.ref h4, .ref h2, v13])), (h2, .inl (ty 6, 2, .inr (.inr (.inr (.inr (wy2 h9 h10)))))), (h3, .inr (2, [.ref h6, .ref h8, v14, v15, v16, v17])), (h6, .inl (ty 1, 16, .inl f0)), (h7, .inl (ty 1, 17, .inl (upd (upd (upd (kf 0) 0 0) 1 0) 2 0))), (h8, .inl (ty 1, 256, .inl f1)), (h4, .inr (8, [v18, .int 2, v19, v20, v21, v22, v23, v24, v25, v26, v27, v28, .ref h5, v29, .ref h7, v30, v31, v32])), (h5, .inr (1, [.int 0, v33, v34, v35]))] := hD
          refine lv_iconst (v := (-1)) hx hb dX11_spare_47 (by decide) ?_
          refine lv_icmp_ne (tgt := 54) hx hb dX11_spare_48 (by decide) (fun _ => ?_) (fun h9 => absurd h9 (by decide))
          refine lv_aload_n hx hb dX11_spare_54 rfl (lv_at hl 0 rfl) ?_
          refine va_get (D := D) (ci := 11) (v := .ref h3) (C := RX11) (T := TX11) (N := 15) hx hb hB inB_X11 hown hK.1 hP 0 rfl rfl 6 (by decide) (hB _ mw_102) (fun _ h9 => h9) rfl dX11_spare_55 ?_
          refine lv_aload_n hx hb dX11_spare_58 rfl (lv_at hl 0 rfl) ?_
          refine va_get (D := D) (ci := 11) (v := .ref h1) (C := RX11) (T := TX11) (N := 15) hx hb hB inB_X11 hown hK.1 hP 0 rfl rfl 3 (by decide) (hB _ mw_85) (fun _ h9 => h9) rfl dX11_spare_59 ?_
          refine va_get (D := D) (ci := 5) (v := .ref h4) (C := RX5) (T := TX5) (N := 3) hx hb hB inB_X5 hown hK.1 hP 1 rfl rfl 0 (by decide) (hB _ mw_150) (fun _ h9 => h9) rfl dX11_spare_62 ?_
          refine lv_aload_n hx hb dX11_spare_65 rfl (lv_at hl 0 rfl) ?_
          refine va_get (D := D) (ci := 11) (v := .ref h1) (C := RX11) (T := TX11) (N := 15) hx hb hB inB_X11 hown hK.1 hP 0 rfl rfl 3 (by decide) (hB _ mw_85) (fun _ h9 => h9) rfl dX11_spare_66 ?_
          refine va_get (D := D) (ci := 5) (v := .ref h2) (C := RX5) (T := TX5) (N := 3) hx hb hB inB_X5 hown hK.1 hP 1 rfl rfl 1 (by decide) (hB _ mw_267) (fun _ h9 => h9) rfl dX11_spare_69 ?_
          refine lv_iload_n hx hb dX11_spare_72 rfl (lv_at hl 1 rfl) ?_
          refine va_aldA hx hb hK.1 hP 2 6 rfl rfl (by unfold vp_in; decide) dX11_spare_73 ?_
          refine tp_v (v := .ref h9) rfl ?_
          refine lv_aload_n hx hb dX11_spare_74 rfl (lv_at hl 0 rfl) ?_
          refine va_get (D := D) (ci := 11) (v := .ref h3) (C := RX11) (T := TX11) (N := 15) hx hb hB inB_X11 hown hK.1 hP 0 rfl rfl 6 (by decide) (hB _ mw_102) (fun _ h9 => h9) rfl dX11_spare_75 ?_
          refine va_get (D := D) (ci := 2) (v := .ref h8) (C := RX2) (T := TX2) (N := 6) hx hb hB inB_X2 hown hK.1 hP 3 rfl rfl 1 (by decide) (hB _ mw_395) (fun _ h9 => h9) rfl dX11_spare_78 ?_
          refine kc_v (va_runV (As := [.ref h4, .ref h9, .ref h8]) (rest := []) ⟨hx, hb, hml, hown, hB⟩ (c121_X2_measureAll l D ty H.size h4 h3 h6 h7 h8 h9 v18 v19 v20 v21 v22 v23 v24 v25 v26 v27 v28 (.ref h5) v29 v30 v31 v32 (.ref h8) v14 v15 v16 v17 f0 f1) (cwV 3 hB (bw_V mw_396 mw_173 mw_174 mw_92 mw_171) rfl rfl rfl (by decide +kernel) ⟨Nat.le_of_ble_eq_true rfl, Nat.le_of_ble_eq_true rfl⟩) (kp_V hK hP hD [7, 3, 4, 5, 6] (by decide) rfl 3 rfl rfl rfl) rfl rfl hl.1 rfl (lv_room (Nat.le_of_ble_eq_true rfl)) dX11_spare_81 ⟨Nat.le_of_ble_eq_true rfl, Nat.le_of_ble_eq_true rfl⟩) hP hD hS hA [7, 3, 4, 5, 6] [0, 1, 2, 8] (wr := [(h0, .inr (11, [v0, v1, v2, .ref h1, v3, v4, .ref h3, v5, v6, v7, v8, v9, v10, v11, v12])), (h1, .inr (5, [.ref h4, .ref h2, v13])), (h2, .inl (ty 6, 2, .inr (.inr (.inr (.inr (wy2 h9 h10)))))), (h5, .inr (1, [.int 0, v33, v34, v35]))]) rfl rfl (by decide) (by decide) (fun u H locs w7 hP hD hS => ?_)
          subst w7
          have hP : va_P D vwCl [(h0, .inr (11, [v0, v1, v2, .ref h1, v3, v4, .ref h3, v5, v6, v7, v8, v9, v10, v11, v12])), (h1, .inr (5, [.ref h4, .ref h2, v13])), (h2, .inl (ty 6, 2, .inr (.inr (.inr (.inr (wy2 h9 h10)))))), (h5, .inr (1, [.int 0, v33, v34, v35])), (h8, .inl (ty 1, 256, .inl (upd (upd (upd (upd f1 0 0) 16 1000000) 1 1000000) 17 0))), (h7, .inl (ty 1, 17, .inl (upd (upd (upd (kf 0) 0 0) 1 0) 2 0))), (h4, .inr (8, [v18, .int 2, v19, v20, v21, v22, v23, v24, v25, v26, v27, v28, .ref h5, v29, .ref h7, v30, v31, v32])), (h3, .inr (2, [.ref h6, .ref h8, v14, v15, v16, v17])), (h6, .inl (ty 1, 16, .inl (upd (kf 1000000) 1 0)))] H := hP
          have hD : va_D A [(h0, .inr (11, [v0, v1, v2, .ref h1, v3, v4, .ref h3, v5, v6, v7, v8, v9, v10, v11, v12])), (h1, .inr (5, [.ref h4, .ref h2, v13])), (h2, .inl (ty 6, 2, .inr (.inr (.inr (.inr (wy2 h9 h10)))))), (h5, .inr (1, [.int 0, v33, v34, v35])), (h8, .inl (ty 1, 256, .inl (upd (upd (upd (upd f1 0 0) 16 1000000) 1 1000000) 17 0))), (h7, .inl (ty 1, 17, .inl (upd (upd (upd (kf 0) 0 0) 1 0) 2 0))), (h4, .inr (8, [v18, .int 2, v19, v20, v21, v22, v23, v24, v25, v26, v27, v28, .ref h5, v29, .ref h7, v30, v31, v32])), (h3, .inr (2, [.ref h6, .ref h8, v14, v15, v16, v17])), (h6, .inl (ty 1, 16, .inl (upd (kf 1000000) 1 0)))] := hD
          refine lv_iconst (v := (-1)) hx hb dX11_spare_84 (by decide) ?_
          refine lv_istore_n (lv' := [(3, .int (-1)), (0, .ref h0), (1, .int 0), (2, .int p1)]) hx hb dX11_spare_85 rfl hl (by decide) rfl (fun ls hl => ?_)
          refine lv_iconst (v := 0) hx hb dX11_spare_86 (by decide) ?_
          refine lv_istore (lv' := [(4, .int 0), (3, .int (-1)), (0, .ref h0), (1, .int 0), (2, .int p1)]) hx hb dX11_spare_87 hl (by decide) rfl (fun ls hl => ?_)
          refine lv_iload hx hb dX11_spare_89 (lv_at hl 0 rfl) ?_
          refine lv_aload_n hx hb dX11_spare_91 rfl (lv_at hl 2 rfl) ?_
          refine va_get (D := D) (ci := 11) (v := .ref h1) (C := RX11) (T := TX11) (N := 15) hx hb hB inB_X11 hown hK.1 hP 0 rfl rfl 3 (by decide) (hB _ mw_85) (fun _ h9 => h9) rfl dX11_spare_92 ?_
          refine va_get (D := D) (ci := 5) (v := .ref h4) (C := RX5) (T := TX5) (N := 3) hx hb hB inB_X5 hown hK.1 hP 1 rfl rfl 0 (by decide) (hB _ mw_150) (fun _ h9 => h9) rfl dX11_spare_95 ?_
          refine va_get (D := D) (ci := 8) (v := .int 2) (C := RX8) (T := TX8) (N := 18) hx hb hB inB_X8 hown hK.1 hP 6 rfl rfl 1 (by decide) (hB _ mw_295) (fun _ h9 => h9) rfl dX11_spare_98 ?_
          refine lv_icmp_ge (tgt := 179) hx hb dX11_spare_101 (by decide) (fun h9 => absurd h9 (by decide)) (fun _ => ?_)
          refine lv_iload hx hb dX11_spare_104 (lv_at hl 0 rfl) ?_
          refine lv_iconst (v := 1) hx hb dX11_spare_106 (by decide) ?_
          refine lv_iadd hx hb dX11_spare_107 ?_
          refine tp_i (v := 1) (by decide) ?_
          refine lv_istore (lv' := [(5, .int 1), (4, .int 0), (3, .int (-1)), (0, .ref h0), (1, .int 0), (2, .int p1)]) hx hb dX11_spare_108 hl (by decide) rfl (fun ls hl => ?_)
          refine lv_iload hx hb dX11_spare_110 (lv_at hl 0 rfl) ?_
          refine lv_aload_n hx hb dX11_spare_112 rfl (lv_at hl 3 rfl) ?_
          refine va_get (D := D) (ci := 11) (v := .ref h1) (C := RX11) (T := TX11) (N := 15) hx hb hB inB_X11 hown hK.1 hP 0 rfl rfl 3 (by decide) (hB _ mw_85) (fun _ h9 => h9) rfl dX11_spare_113 ?_
          refine va_get (D := D) (ci := 5) (v := .ref h4) (C := RX5) (T := TX5) (N := 3) hx hb hB inB_X5 hown hK.1 hP 1 rfl rfl 0 (by decide) (hB _ mw_150) (fun _ h9 => h9) rfl dX11_spare_116 ?_
          refine va_get (D := D) (ci := 8) (v := .int 2) (C := RX8) (T := TX8) (N := 18) hx hb hB inB_X8 hown hK.1 hP 6 rfl rfl 1 (by decide) (hB _ mw_295) (fun _ h9 => h9) rfl dX11_spare_119 ?_
          refine lv_icmp_ge (tgt := 173) hx hb dX11_spare_122 (by decide) (fun h9 => absurd h9 (by decide)) (fun _ => ?_)
          refine lv_aload_n hx hb dX11_spare_125 rfl (lv_at hl 3 rfl) ?_
          refine va_get (D := D) (ci := 11) (v := .ref h3) (C := RX11) (T := TX11) (N := 15) hx hb hB inB_X11 hown hK.1 hP 0 rfl rfl 6 (by decide) (hB _ mw_102) (fun _ h9 => h9) rfl dX11_spare_126 ?_
          refine lv_aload_n hx hb dX11_spare_129 rfl (lv_at hl 3 rfl) ?_
          refine va_get (D := D) (ci := 11) (v := .ref h1) (C := RX11) (T := TX11) (N := 15) hx hb hB inB_X11 hown hK.1 hP 0 rfl rfl 3 (by decide) (hB _ mw_85) (fun _ h9 => h9) rfl dX11_spare_130 ?_
          refine va_get (D := D) (ci := 5) (v := .ref h4) (C := RX5) (T := TX5) (N := 3) hx hb hB inB_X5 hown hK.1 hP 1 rfl rfl 0 (by decide) (hB _ mw_150) (fun _ h9 => h9) rfl dX11_spare_133 ?_
          refine lv_iload hx hb dX11_spare_136 (lv_at hl 1 rfl) ?_
          refine lv_iload hx hb dX11_spare_138 (lv_at hl 0 rfl) ?_
          refine lv_iload_n hx hb dX11_spare_140 rfl (lv_at hl 5 rfl) ?_
          refine kc_i (va_runV (As := [.ref h4, .int 0, .int 1, .int p1]) (rest := []) ⟨hx, hb, hml, hown, hB⟩ (c122_X2_sparedBy l D ty H.size h4 h5 h3 p1 v18 (.int 2) v19 v20 v21 v22 v23 v24 v25 v26 v27 v28 v29 (.ref h7) v30 v31 v32 v33 v34 v35) (cwV 4 hB (bw_V mw_398 mw_399 mw_400 mw_92 mw_397) rfl rfl rfl (by decide +kernel) ⟨Nat.le_of_ble_eq_true rfl, Nat.le_of_ble_eq_true rfl⟩) (kp_V hK hP hD [6, 3] (by decide) rfl 7 rfl rfl rfl) rfl rfl hl.1 rfl (lv_room (Nat.le_of_ble_eq_true rfl)) dX11_spare_141 ⟨Nat.le_of_ble_eq_true rfl, Nat.le_of_ble_eq_true rfl⟩) hP hD hS hA [6, 3] [0, 1, 2, 4, 5, 7, 8] (wr := [(h0, .inr (11, [v0, v1, v2, .ref h1, v3, v4, .ref h3, v5, v6, v7, v8, v9, v10, v11, v12])), (h1, .inr (5, [.ref h4, .ref h2, v13])), (h2, .inl (ty 6, 2, .inr (.inr (.inr (.inr (wy2 h9 h10)))))), (h8, .inl (ty 1, 256, .inl (upd (upd (upd (upd f1 0 0) 16 1000000) 1 1000000) 17 0))), (h7, .inl (ty 1, 17, .inl (upd (upd (upd (kf 0) 0 0) 1 0) 2 0))), (h3, .inr (2, [.ref h6, .ref h8, v14, v15, v16, v17])), (h6, .inl (ty 1, 16, .inl (upd (kf 1000000) 1 0)))]) rfl rfl (by decide) (by decide) (fun r u H locs w8 hP hD hS => ?_)
          obtain ⟨rfl, rfl⟩ := w8
          have hP : va_P D vwCl [(h0, .inr (11, [v0, v1, v2, .ref h1, v3, v4, .ref h3, v5, v6, v7, v8, v9, v10, v11, v12])), (h1, .inr (5, [.ref h4, .ref h2, v13])), (h2, .inl (ty 6, 2, .inr (.inr (.inr (.inr (wy2 h9 h10)))))), (h8, .inl (ty 1, 256, .inl (upd (upd (upd (upd f1 0 0) 16 1000000) 1 1000000) 17 0))), (h7, .inl (ty 1, 17, .inl (upd (upd (upd (kf 0) 0 0) 1 0) 2 0))), (h3, .inr (2, [.ref h6, .ref h8, v14, v15, v16, v17])), (h6, .inl (ty 1, 16, .inl (upd (kf 1000000) 1 0))), (h4, .inr (8, [v18, .int 2, v19, v20, v21, v22, v23, v24, v25, v26, v27, v28, .ref h5, v29, .ref h7, v30, v31, v32])), (h5, .inr (1, [.int 0, v33, v34, v35]))] H := hP
          have hD : va_D A [(h0, .inr (11, [v0, v1, v2, .ref h1, v3, v4, .ref h3, v5, v6, v7, v8, v9, v10, v11, v12])), (h1, .inr (5, [.ref h4, .ref h2, v13])), (h2, .inl (ty 6, 2, .inr (.inr (.inr (.inr (wy2 h9 h10)))))), (h8, .inl (ty 1, 256, .inl (upd (upd (upd (upd f1 0 0) 16 1000000) 1 1000000) 17 0))), (h7, .inl (ty 1, 17, .inl (upd (upd (upd (kf 0) 0 0) 1 0) 2 0))), (h3, .inr (2, [.ref h6, .ref h8, v14, v15, v16, v17])), (h6, .inl (ty 1, 16, .inl (upd (kf 1000000) 1 0))), (h4, .inr (8, [v18, .int 2, v19, v20, v21, v22, v23, v24, v25, v26, v27, v28, .ref h5, v29, .ref h7, v30, v31, v32])), (h5, .inr (1, [.int 0, v33, v34, v35]))] := hD
          refine lv_istore (lv' := [(6, .int 0), (5, .int 1), (4, .int 0), (3, .int (-1)), (0, .ref h0), (1, .int 0), (2, .int p1)]) hx hb dX11_spare_144 hl (by decide) rfl (fun ls hl => ?_)
          refine lv_iload hx hb dX11_spare_146 (lv_at hl 0 rfl) ?_
          refine lv_iload_n hx hb dX11_spare_148 rfl (lv_at hl 3 rfl) ?_
          refine lv_icmp_le (tgt := 167) hx hb dX11_spare_149 (by decide) (fun h9 => absurd h9 (by decide)) (fun _ => ?_)
          refine lv_iload hx hb dX11_spare_152 (lv_at hl 0 rfl) ?_
          refine lv_istore_n (lv' := [(3, .int 0), (6, .int 0), (5, .int 1), (4, .int 0), (0, .ref h0), (1, .int 0), (2, .int p1)]) hx hb dX11_spare_154 rfl hl (by decide) rfl (fun ls hl => ?_)
          refine lv_aload_n hx hb dX11_spare_155 rfl (lv_at hl 4 rfl) ?_
          refine lv_iload hx hb dX11_spare_156 (lv_at hl 3 rfl) ?_
          refine wy_put (D := D) (ci := 11) (v := .int 0) (fty := .int) (C := RX11) (T := TX11) (N := 15) hx hb hB inB_X11 tyX11 tyX11_ok nmX11 hown hK hP hD hS 0 rfl rfl 13 (by decide) mw_138 (fun _ h9 => h9) rfl (by decide +kernel) rfl rfl (Nat.le_of_ble_eq_true rfl) dX11_spare_158 (ws' := [(h0, .inr (11, [v0, v1, v2, .ref h1, v3, v4, .ref h3, v5, v6, v7, v8, v9, v10, .int 0, v12])), (h1, .inr (5, [.ref h4, .ref h2, v13])), (h2, .inl (ty 6, 2, .inr (.inr (.inr (.inr (wy2 h9 h10)))))), (h8, .inl (ty 1, 256, .inl (upd (upd (upd (upd f1 0 0) 16 1000000) 1 1000000) 17 0))), (h7, .inl (ty 1, 17, .inl (upd (upd (upd (kf 0) 0 0) 1 0) 2 0))), (h3, .inr (2, [.ref h6, .ref h8, v14, v15, v16, v17])), (h6, .inl (ty 1, 16, .inl (upd (kf 1000000) 1 0))), (h4, .inr (8, [v18, .int 2, v19, v20, v21, v22, v23, v24, v25, v26, v27, v28, .ref h5, v29, .ref h7, v30, v31, v32])), (h5, .inr (1, [.int 0, v33, v34, v35]))]) rfl (fun H locs hP hD hS => ?_)
          refine lv_aload_n hx hb dX11_spare_161 rfl (lv_at hl 4 rfl) ?_
          refine lv_iload hx hb dX11_spare_162 (lv_at hl 2 rfl) ?_
          refine wy_put (D := D) (ci := 11) (v := .int 1) (fty := .int) (C := RX11) (T := TX11) (N := 15) hx hb hB inB_X11 tyX11 tyX11_ok nmX11 hown hK hP hD hS 0 rfl rfl 14 (by decide) mw_139 (fun _ h9 => h9) rfl (by decide +kernel) rfl rfl (Nat.le_of_ble_eq_true rfl) dX11_spare_164 (ws' := [(h0, .inr (11, [v0, v1, v2, .ref h1, v3, v4, .ref h3, v5, v6, v7, v8, v9, v10, .int 0, .int 1])), (h1, .inr (5, [.ref h4, .ref h2, v13])), (h2, .inl (ty 6, 2, .inr (.inr (.inr (.inr (wy2 h9 h10)))))), (h8, .inl (ty 1, 256, .inl (upd (upd (upd (upd f1 0 0) 16 1000000) 1 1000000) 17 0))), (h7, .inl (ty 1, 17, .inl (upd (upd (upd (kf 0) 0 0) 1 0) 2 0))), (h3, .inr (2, [.ref h6, .ref h8, v14, v15, v16, v17])), (h6, .inl (ty 1, 16, .inl (upd (kf 1000000) 1 0))), (h4, .inr (8, [v18, .int 2, v19, v20, v21, v22, v23, v24, v25, v26, v27, v28, .ref h5, v29, .ref h7, v30, v31, v32])), (h5, .inr (1, [.int 0, v33, v34, v35]))]) rfl (fun H locs hP hD hS => ?_)
          refine lv_iinc (v := 2) (lv' := [(5, .int 2), (3, .int 0), (6, .int 0), (4, .int 0), (0, .ref h0), (1, .int 0), (2, .int p1)]) hx hb dX11_spare_167 hl (k := 2) rfl (by decide) (by decide) rfl (fun ls hl => ?_)
          refine lv_goto (tgt := 110) hx hb dX11_spare_170 (by decide) ?_
          refine lv_iload hx hb dX11_spare_110 (lv_at hl 0 rfl) ?_
          refine lv_aload_n hx hb dX11_spare_112 rfl (lv_at hl 4 rfl) ?_
          refine va_get (D := D) (ci := 11) (v := .ref h1) (C := RX11) (T := TX11) (N := 15) hx hb hB inB_X11 hown hK.1 hP 0 rfl rfl 3 (by decide) (hB _ mw_85) (fun _ h9 => h9) rfl dX11_spare_113 ?_
          refine va_get (D := D) (ci := 5) (v := .ref h4) (C := RX5) (T := TX5) (N := 3) hx hb hB inB_X5 hown hK.1 hP 1 rfl rfl 0 (by decide) (hB _ mw_150) (fun _ h9 => h9) rfl dX11_spare_116 ?_
          refine va_get (D := D) (ci := 8) (v := .int 2) (C := RX8) (T := TX8) (N := 18) hx hb hB inB_X8 hown hK.1 hP 7 rfl rfl 1 (by decide) (hB _ mw_295) (fun _ h9 => h9) rfl dX11_spare_119 ?_
          refine lv_icmp_ge (tgt := 173) hx hb dX11_spare_122 (by decide) (fun _ => ?_) (fun h9 => absurd (by decide) h9)
          refine lv_iinc (v := 1) (lv' := [(4, .int 1), (5, .int 2), (3, .int 0), (6, .int 0), (0, .ref h0), (1, .int 0), (2, .int p1)]) hx hb dX11_spare_173 hl (k := 3) rfl (by decide) (by decide) rfl (fun ls hl => ?_)
          refine lv_goto (tgt := 89) hx hb dX11_spare_176 (by decide) ?_
          refine lv_iload hx hb dX11_spare_89 (lv_at hl 0 rfl) ?_
          refine lv_aload_n hx hb dX11_spare_91 rfl (lv_at hl 4 rfl) ?_
          refine va_get (D := D) (ci := 11) (v := .ref h1) (C := RX11) (T := TX11) (N := 15) hx hb hB inB_X11 hown hK.1 hP 0 rfl rfl 3 (by decide) (hB _ mw_85) (fun _ h9 => h9) rfl dX11_spare_92 ?_
          refine va_get (D := D) (ci := 5) (v := .ref h4) (C := RX5) (T := TX5) (N := 3) hx hb hB inB_X5 hown hK.1 hP 1 rfl rfl 0 (by decide) (hB _ mw_150) (fun _ h9 => h9) rfl dX11_spare_95 ?_
          refine va_get (D := D) (ci := 8) (v := .int 2) (C := RX8) (T := TX8) (N := 18) hx hb hB inB_X8 hown hK.1 hP 7 rfl rfl 1 (by decide) (hB _ mw_295) (fun _ h9 => h9) rfl dX11_spare_98 ?_
          refine lv_icmp_ge (tgt := 179) hx hb dX11_spare_101 (by decide) (fun h9 => absurd h9 (by decide)) (fun _ => ?_)
          refine lv_iload hx hb dX11_spare_104 (lv_at hl 0 rfl) ?_
          refine lv_iconst (v := 1) hx hb dX11_spare_106 (by decide) ?_
          refine lv_iadd hx hb dX11_spare_107 ?_
          refine tp_i (v := 2) (by decide) ?_
          refine lv_istore (lv' := [(5, .int 2), (4, .int 1), (3, .int 0), (6, .int 0), (0, .ref h0), (1, .int 0), (2, .int p1)]) hx hb dX11_spare_108 hl (by decide) rfl (fun ls hl => ?_)
          refine lv_iload hx hb dX11_spare_110 (lv_at hl 0 rfl) ?_
          refine lv_aload_n hx hb dX11_spare_112 rfl (lv_at hl 4 rfl) ?_
          refine va_get (D := D) (ci := 11) (v := .ref h1) (C := RX11) (T := TX11) (N := 15) hx hb hB inB_X11 hown hK.1 hP 0 rfl rfl 3 (by decide) (hB _ mw_85) (fun _ h9 => h9) rfl dX11_spare_113 ?_
          refine va_get (D := D) (ci := 5) (v := .ref h4) (C := RX5) (T := TX5) (N := 3) hx hb hB inB_X5 hown hK.1 hP 1 rfl rfl 0 (by decide) (hB _ mw_150) (fun _ h9 => h9) rfl dX11_spare_116 ?_
          refine va_get (D := D) (ci := 8) (v := .int 2) (C := RX8) (T := TX8) (N := 18) hx hb hB inB_X8 hown hK.1 hP 7 rfl rfl 1 (by decide) (hB _ mw_295) (fun _ h9 => h9) rfl dX11_spare_119 ?_
          refine lv_icmp_ge (tgt := 173) hx hb dX11_spare_122 (by decide) (fun _ => ?_) (fun h9 => absurd (by decide) h9)
          refine lv_iinc (v := 2) (lv' := [(4, .int 2), (5, .int 2), (3, .int 0), (6, .int 0), (0, .ref h0), (1, .int 0), (2, .int p1)]) hx hb dX11_spare_173 hl (k := 1) rfl (by decide) (by decide) rfl (fun ls hl => ?_)
          refine lv_goto (tgt := 89) hx hb dX11_spare_176 (by decide) ?_
          refine lv_iload hx hb dX11_spare_89 (lv_at hl 0 rfl) ?_
          refine lv_aload_n hx hb dX11_spare_91 rfl (lv_at hl 4 rfl) ?_
          refine va_get (D := D) (ci := 11) (v := .ref h1) (C := RX11) (T := TX11) (N := 15) hx hb hB inB_X11 hown hK.1 hP 0 rfl rfl 3 (by decide) (hB _ mw_85) (fun _ h9 => h9) rfl dX11_spare_92 ?_
          refine va_get (D := D) (ci := 5) (v := .ref h4) (C := RX5) (T := TX5) (N := 3) hx hb hB inB_X5 hown hK.1 hP 1 rfl rfl 0 (by decide) (hB _ mw_150) (fun _ h9 => h9) rfl dX11_spare_95 ?_
          refine va_get (D := D) (ci := 8) (v := .int 2) (C := RX8) (T := TX8) (N := 18) hx hb hB inB_X8 hown hK.1 hP 7 rfl rfl 1 (by decide) (hB _ mw_295) (fun _ h9 => h9) rfl dX11_spare_98 ?_
          refine lv_icmp_ge (tgt := 179) hx hb dX11_spare_101 (by decide) (fun _ => ?_) (fun h9 => absurd (by decide) h9)
          refine lv_iload_n hx hb dX11_spare_179 rfl (lv_at hl 2 rfl) ?_
          exact kr_z hx hb hr rfl hlocks hP hD hS [] [] (by decide) rfl (Or.inr ⟨(Or.inl ⟨c3, c4, c5, rfl⟩), rfl, rfl⟩) (by decide) (by decide) dX11_spare_180
        · refine va_aldA hx hb hK.1 hP 2 6 rfl rfl (by unfold vp_in; decide) dX11_spare_40 ?_
          refine tp_v (v := .ref h10) rfl ?_
          refine lv_iconst (v := 0) hx hb dX11_spare_41 (by decide) ?_
          refine lv_ldc hx hb hown (hB _ mw_327) dX11_spare_42 ?_
          refine kc_i (va_runV (As := [.ref h4, .ref h10, .int 0, .int 1000000000]) (rest := []) ⟨hx, hb, hml, hown, hB⟩ (c75_X2_sumOf l D ty H.size h4 h5 h3 h10 v18 (.int 2) v19 v20 v21 v22 v23 v24 v25 v26 v27 v28 v29 (.ref h7) v30 v31 v32 v33 v34 v35) (cwV 4 hB (bw_V mw_331 mw_332 mw_333 mw_92 mw_330) rfl rfl rfl (by decide +kernel) ⟨Nat.le_of_ble_eq_true rfl, Nat.le_of_ble_eq_true rfl⟩) (kp_V hK hP hD [4, 5] (by decide) rfl 3 rfl rfl rfl) rfl rfl hl.1 rfl (lv_room (Nat.le_of_ble_eq_true rfl)) dX11_spare_44 ⟨Nat.le_of_ble_eq_true rfl, Nat.le_of_ble_eq_true rfl⟩) hP hD hS hA [4, 5] [0, 1, 2, 3, 6, 7, 8] (wr := [(h0, .inr (11, [v0, v1, v2, .ref h1, v3, v4, .ref h3, v5, v6, v7, v8, v9, v10, v11, v12])), (h1, .inr (5, [.ref h4, .ref h2, v13])), (h2, .inl (ty 6, 2, .inr (.inr (.inr (.inr (wy2 h9 h10)))))), (h3, .inr (2, [.ref h6, .ref h8, v14, v15, v16, v17])), (h6, .inl (ty 1, 16, .inl f0)), (h7, .inl (ty 1, 17, .inl (upd (upd (upd (kf 0) 0 0) 1 0) 2 0))), (h8, .inl (ty 1, 256, .inl f1))]) rfl rfl (by decide) (by decide) (fun r u H locs w9 hP hD hS => ?_)
          obtain ⟨rfl, rfl⟩ := w9
          have hP : va_P D vwCl [(h0, .inr (11, [v0, v1, v2, .ref h1, v3, v4, .ref h3, v5, v6, v7, v8, v9, v10, v11, v12])), (h1, .inr (5, [.ref h4, .ref h2, v13])), (h2, .inl (ty 6, 2, .inr (.inr (.inr (.inr (wy2 h9 h10)))))), (h3, .inr (2, [.ref h6, .ref h8, v14, v15, v16, v17])), (h6, .inl (ty 1, 16, .inl f0)), (h7, .inl (ty 1, 17, .inl (upd (upd (upd (kf 0) 0 0) 1 0) 2 0))), (h8, .inl (ty 1, 256, .inl f1)), (h4, .inr (8, [v18, .int 2, v19, v20, v21, v22, v23, v24, v25, v26, v27, v28, .ref h5, v29, .ref h7, v30, v31, v32])), (h5, .inr (1, [.int 0, v33, v34, v35]))] H := hP
          have hD : va_D A [(h0, .inr (11, [v0, v1, v2, .ref h1, v3, v4, .ref h3, v5, v6, v7, v8, v9, v10, v11, v12])), (h1, .inr (5, [.ref h4, .ref h2, v13])), (h2, .inl (ty 6, 2, .inr (.inr (.inr (.inr (wy2 h9 h10)))))), (h3, .inr (2, [.ref h6, .ref h8, v14, v15, v16, v17])), (h6, .inl (ty 1, 16, .inl f0)), (h7, .inl (ty 1, 17, .inl (upd (upd (upd (kf 0) 0 0) 1 0) 2 0))), (h8, .inl (ty 1, 256, .inl f1)), (h4, .inr (8, [v18, .int 2, v19, v20, v21, v22, v23, v24, v25, v26, v27, v28, .ref h5, v29, .ref h7, v30, v31, v32])), (h5, .inr (1, [.int 0, v33, v34, v35]))] := hD
          refine lv_iconst (v := (-1)) hx hb dX11_spare_47 (by decide) ?_
          refine lv_icmp_ne (tgt := 54) hx hb dX11_spare_48 (by decide) (fun _ => ?_) (fun h9 => absurd h9 (by decide))
          refine lv_aload_n hx hb dX11_spare_54 rfl (lv_at hl 0 rfl) ?_
          refine va_get (D := D) (ci := 11) (v := .ref h3) (C := RX11) (T := TX11) (N := 15) hx hb hB inB_X11 hown hK.1 hP 0 rfl rfl 6 (by decide) (hB _ mw_102) (fun _ h9 => h9) rfl dX11_spare_55 ?_
          refine lv_aload_n hx hb dX11_spare_58 rfl (lv_at hl 0 rfl) ?_
          refine va_get (D := D) (ci := 11) (v := .ref h1) (C := RX11) (T := TX11) (N := 15) hx hb hB inB_X11 hown hK.1 hP 0 rfl rfl 3 (by decide) (hB _ mw_85) (fun _ h9 => h9) rfl dX11_spare_59 ?_
          refine va_get (D := D) (ci := 5) (v := .ref h4) (C := RX5) (T := TX5) (N := 3) hx hb hB inB_X5 hown hK.1 hP 1 rfl rfl 0 (by decide) (hB _ mw_150) (fun _ h9 => h9) rfl dX11_spare_62 ?_
          refine lv_aload_n hx hb dX11_spare_65 rfl (lv_at hl 0 rfl) ?_
          refine va_get (D := D) (ci := 11) (v := .ref h1) (C := RX11) (T := TX11) (N := 15) hx hb hB inB_X11 hown hK.1 hP 0 rfl rfl 3 (by decide) (hB _ mw_85) (fun _ h9 => h9) rfl dX11_spare_66 ?_
          refine va_get (D := D) (ci := 5) (v := .ref h2) (C := RX5) (T := TX5) (N := 3) hx hb hB inB_X5 hown hK.1 hP 1 rfl rfl 1 (by decide) (hB _ mw_267) (fun _ h9 => h9) rfl dX11_spare_69 ?_
          refine lv_iload_n hx hb dX11_spare_72 rfl (lv_at hl 1 rfl) ?_
          refine va_aldA hx hb hK.1 hP 2 6 rfl rfl (by unfold vp_in; decide) dX11_spare_73 ?_
          refine tp_v (v := .ref h10) rfl ?_
          refine lv_aload_n hx hb dX11_spare_74 rfl (lv_at hl 0 rfl) ?_
          refine va_get (D := D) (ci := 11) (v := .ref h3) (C := RX11) (T := TX11) (N := 15) hx hb hB inB_X11 hown hK.1 hP 0 rfl rfl 6 (by decide) (hB _ mw_102) (fun _ h9 => h9) rfl dX11_spare_75 ?_
          refine va_get (D := D) (ci := 2) (v := .ref h8) (C := RX2) (T := TX2) (N := 6) hx hb hB inB_X2 hown hK.1 hP 3 rfl rfl 1 (by decide) (hB _ mw_395) (fun _ h9 => h9) rfl dX11_spare_78 ?_
          refine kc_v (va_runV (As := [.ref h4, .ref h10, .ref h8]) (rest := []) ⟨hx, hb, hml, hown, hB⟩ (c121_X2_measureAll l D ty H.size h4 h3 h6 h7 h8 h10 v18 v19 v20 v21 v22 v23 v24 v25 v26 v27 v28 (.ref h5) v29 v30 v31 v32 (.ref h8) v14 v15 v16 v17 f0 f1) (cwV 3 hB (bw_V mw_396 mw_173 mw_174 mw_92 mw_171) rfl rfl rfl (by decide +kernel) ⟨Nat.le_of_ble_eq_true rfl, Nat.le_of_ble_eq_true rfl⟩) (kp_V hK hP hD [7, 3, 4, 5, 6] (by decide) rfl 3 rfl rfl rfl) rfl rfl hl.1 rfl (lv_room (Nat.le_of_ble_eq_true rfl)) dX11_spare_81 ⟨Nat.le_of_ble_eq_true rfl, Nat.le_of_ble_eq_true rfl⟩) hP hD hS hA [7, 3, 4, 5, 6] [0, 1, 2, 8] (wr := [(h0, .inr (11, [v0, v1, v2, .ref h1, v3, v4, .ref h3, v5, v6, v7, v8, v9, v10, v11, v12])), (h1, .inr (5, [.ref h4, .ref h2, v13])), (h2, .inl (ty 6, 2, .inr (.inr (.inr (.inr (wy2 h9 h10)))))), (h5, .inr (1, [.int 0, v33, v34, v35]))]) rfl rfl (by decide) (by decide) (fun u H locs w10 hP hD hS => ?_)
          subst w10
          have hP : va_P D vwCl [(h0, .inr (11, [v0, v1, v2, .ref h1, v3, v4, .ref h3, v5, v6, v7, v8, v9, v10, v11, v12])), (h1, .inr (5, [.ref h4, .ref h2, v13])), (h2, .inl (ty 6, 2, .inr (.inr (.inr (.inr (wy2 h9 h10)))))), (h5, .inr (1, [.int 0, v33, v34, v35])), (h8, .inl (ty 1, 256, .inl (upd (upd (upd (upd f1 0 0) 16 1000000) 1 1000000) 17 0))), (h7, .inl (ty 1, 17, .inl (upd (upd (upd (kf 0) 0 0) 1 0) 2 0))), (h4, .inr (8, [v18, .int 2, v19, v20, v21, v22, v23, v24, v25, v26, v27, v28, .ref h5, v29, .ref h7, v30, v31, v32])), (h3, .inr (2, [.ref h6, .ref h8, v14, v15, v16, v17])), (h6, .inl (ty 1, 16, .inl (upd (kf 1000000) 1 0)))] H := hP
          have hD : va_D A [(h0, .inr (11, [v0, v1, v2, .ref h1, v3, v4, .ref h3, v5, v6, v7, v8, v9, v10, v11, v12])), (h1, .inr (5, [.ref h4, .ref h2, v13])), (h2, .inl (ty 6, 2, .inr (.inr (.inr (.inr (wy2 h9 h10)))))), (h5, .inr (1, [.int 0, v33, v34, v35])), (h8, .inl (ty 1, 256, .inl (upd (upd (upd (upd f1 0 0) 16 1000000) 1 1000000) 17 0))), (h7, .inl (ty 1, 17, .inl (upd (upd (upd (kf 0) 0 0) 1 0) 2 0))), (h4, .inr (8, [v18, .int 2, v19, v20, v21, v22, v23, v24, v25, v26, v27, v28, .ref h5, v29, .ref h7, v30, v31, v32])), (h3, .inr (2, [.ref h6, .ref h8, v14, v15, v16, v17])), (h6, .inl (ty 1, 16, .inl (upd (kf 1000000) 1 0)))] := hD
          refine lv_iconst (v := (-1)) hx hb dX11_spare_84 (by decide) ?_
          refine lv_istore_n (lv' := [(3, .int (-1)), (0, .ref h0), (1, .int 1), (2, .int p1)]) hx hb dX11_spare_85 rfl hl (by decide) rfl (fun ls hl => ?_)
          refine lv_iconst (v := 0) hx hb dX11_spare_86 (by decide) ?_
          refine lv_istore (lv' := [(4, .int 0), (3, .int (-1)), (0, .ref h0), (1, .int 1), (2, .int p1)]) hx hb dX11_spare_87 hl (by decide) rfl (fun ls hl => ?_)
          refine lv_iload hx hb dX11_spare_89 (lv_at hl 0 rfl) ?_
          refine lv_aload_n hx hb dX11_spare_91 rfl (lv_at hl 2 rfl) ?_
          refine va_get (D := D) (ci := 11) (v := .ref h1) (C := RX11) (T := TX11) (N := 15) hx hb hB inB_X11 hown hK.1 hP 0 rfl rfl 3 (by decide) (hB _ mw_85) (fun _ h9 => h9) rfl dX11_spare_92 ?_
          refine va_get (D := D) (ci := 5) (v := .ref h4) (C := RX5) (T := TX5) (N := 3) hx hb hB inB_X5 hown hK.1 hP 1 rfl rfl 0 (by decide) (hB _ mw_150) (fun _ h9 => h9) rfl dX11_spare_95 ?_
          refine va_get (D := D) (ci := 8) (v := .int 2) (C := RX8) (T := TX8) (N := 18) hx hb hB inB_X8 hown hK.1 hP 6 rfl rfl 1 (by decide) (hB _ mw_295) (fun _ h9 => h9) rfl dX11_spare_98 ?_
          refine lv_icmp_ge (tgt := 179) hx hb dX11_spare_101 (by decide) (fun h9 => absurd h9 (by decide)) (fun _ => ?_)
          refine lv_iload hx hb dX11_spare_104 (lv_at hl 0 rfl) ?_
          refine lv_iconst (v := 1) hx hb dX11_spare_106 (by decide) ?_
          refine lv_iadd hx hb dX11_spare_107 ?_
          refine tp_i (v := 1) (by decide) ?_
          refine lv_istore (lv' := [(5, .int 1), (4, .int 0), (3, .int (-1)), (0, .ref h0), (1, .int 1), (2, .int p1)]) hx hb dX11_spare_108 hl (by decide) rfl (fun ls hl => ?_)
          refine lv_iload hx hb dX11_spare_110 (lv_at hl 0 rfl) ?_
          refine lv_aload_n hx hb dX11_spare_112 rfl (lv_at hl 3 rfl) ?_
          refine va_get (D := D) (ci := 11) (v := .ref h1) (C := RX11) (T := TX11) (N := 15) hx hb hB inB_X11 hown hK.1 hP 0 rfl rfl 3 (by decide) (hB _ mw_85) (fun _ h9 => h9) rfl dX11_spare_113 ?_
          refine va_get (D := D) (ci := 5) (v := .ref h4) (C := RX5) (T := TX5) (N := 3) hx hb hB inB_X5 hown hK.1 hP 1 rfl rfl 0 (by decide) (hB _ mw_150) (fun _ h9 => h9) rfl dX11_spare_116 ?_
          refine va_get (D := D) (ci := 8) (v := .int 2) (C := RX8) (T := TX8) (N := 18) hx hb hB inB_X8 hown hK.1 hP 6 rfl rfl 1 (by decide) (hB _ mw_295) (fun _ h9 => h9) rfl dX11_spare_119 ?_
          refine lv_icmp_ge (tgt := 173) hx hb dX11_spare_122 (by decide) (fun h9 => absurd h9 (by decide)) (fun _ => ?_)
          refine lv_aload_n hx hb dX11_spare_125 rfl (lv_at hl 3 rfl) ?_
          refine va_get (D := D) (ci := 11) (v := .ref h3) (C := RX11) (T := TX11) (N := 15) hx hb hB inB_X11 hown hK.1 hP 0 rfl rfl 6 (by decide) (hB _ mw_102) (fun _ h9 => h9) rfl dX11_spare_126 ?_
          refine lv_aload_n hx hb dX11_spare_129 rfl (lv_at hl 3 rfl) ?_
          refine va_get (D := D) (ci := 11) (v := .ref h1) (C := RX11) (T := TX11) (N := 15) hx hb hB inB_X11 hown hK.1 hP 0 rfl rfl 3 (by decide) (hB _ mw_85) (fun _ h9 => h9) rfl dX11_spare_130 ?_
          refine va_get (D := D) (ci := 5) (v := .ref h4) (C := RX5) (T := TX5) (N := 3) hx hb hB inB_X5 hown hK.1 hP 1 rfl rfl 0 (by decide) (hB _ mw_150) (fun _ h9 => h9) rfl dX11_spare_133 ?_
          refine lv_iload hx hb dX11_spare_136 (lv_at hl 1 rfl) ?_
          refine lv_iload hx hb dX11_spare_138 (lv_at hl 0 rfl) ?_
          refine lv_iload_n hx hb dX11_spare_140 rfl (lv_at hl 5 rfl) ?_
          refine kc_i (va_runV (As := [.ref h4, .int 0, .int 1, .int p1]) (rest := []) ⟨hx, hb, hml, hown, hB⟩ (c122_X2_sparedBy l D ty H.size h4 h5 h3 p1 v18 (.int 2) v19 v20 v21 v22 v23 v24 v25 v26 v27 v28 v29 (.ref h7) v30 v31 v32 v33 v34 v35) (cwV 4 hB (bw_V mw_398 mw_399 mw_400 mw_92 mw_397) rfl rfl rfl (by decide +kernel) ⟨Nat.le_of_ble_eq_true rfl, Nat.le_of_ble_eq_true rfl⟩) (kp_V hK hP hD [6, 3] (by decide) rfl 7 rfl rfl rfl) rfl rfl hl.1 rfl (lv_room (Nat.le_of_ble_eq_true rfl)) dX11_spare_141 ⟨Nat.le_of_ble_eq_true rfl, Nat.le_of_ble_eq_true rfl⟩) hP hD hS hA [6, 3] [0, 1, 2, 4, 5, 7, 8] (wr := [(h0, .inr (11, [v0, v1, v2, .ref h1, v3, v4, .ref h3, v5, v6, v7, v8, v9, v10, v11, v12])), (h1, .inr (5, [.ref h4, .ref h2, v13])), (h2, .inl (ty 6, 2, .inr (.inr (.inr (.inr (wy2 h9 h10)))))), (h8, .inl (ty 1, 256, .inl (upd (upd (upd (upd f1 0 0) 16 1000000) 1 1000000) 17 0))), (h7, .inl (ty 1, 17, .inl (upd (upd (upd (kf 0) 0 0) 1 0) 2 0))), (h3, .inr (2, [.ref h6, .ref h8, v14, v15, v16, v17])), (h6, .inl (ty 1, 16, .inl (upd (kf 1000000) 1 0)))]) rfl rfl (by decide) (by decide) (fun r u H locs w11 hP hD hS => ?_)
          obtain ⟨rfl, rfl⟩ := w11
          have hP : va_P D vwCl [(h0, .inr (11, [v0, v1, v2, .ref h1, v3, v4, .ref h3, v5, v6, v7, v8, v9, v10, v11, v12])), (h1, .inr (5, [.ref h4, .ref h2, v13])), (h2, .inl (ty 6, 2, .inr (.inr (.inr (.inr (wy2 h9 h10)))))), (h8, .inl (ty 1, 256, .inl (upd (upd (upd (upd f1 0 0) 16 1000000) 1 1000000) 17 0))), (h7, .inl (ty 1, 17, .inl (upd (upd (upd (kf 0) 0 0) 1 0) 2 0))), (h3, .inr (2, [.ref h6, .ref h8, v14, v15, v16, v17])), (h6, .inl (ty 1, 16, .inl (upd (kf 1000000) 1 0))), (h4, .inr (8, [v18, .int 2, v19, v20, v21, v22, v23, v24, v25, v26, v27, v28, .ref h5, v29, .ref h7, v30, v31, v32])), (h5, .inr (1, [.int 0, v33, v34, v35]))] H := hP
          have hD : va_D A [(h0, .inr (11, [v0, v1, v2, .ref h1, v3, v4, .ref h3, v5, v6, v7, v8, v9, v10, v11, v12])), (h1, .inr (5, [.ref h4, .ref h2, v13])), (h2, .inl (ty 6, 2, .inr (.inr (.inr (.inr (wy2 h9 h10)))))), (h8, .inl (ty 1, 256, .inl (upd (upd (upd (upd f1 0 0) 16 1000000) 1 1000000) 17 0))), (h7, .inl (ty 1, 17, .inl (upd (upd (upd (kf 0) 0 0) 1 0) 2 0))), (h3, .inr (2, [.ref h6, .ref h8, v14, v15, v16, v17])), (h6, .inl (ty 1, 16, .inl (upd (kf 1000000) 1 0))), (h4, .inr (8, [v18, .int 2, v19, v20, v21, v22, v23, v24, v25, v26, v27, v28, .ref h5, v29, .ref h7, v30, v31, v32])), (h5, .inr (1, [.int 0, v33, v34, v35]))] := hD
          refine lv_istore (lv' := [(6, .int 0), (5, .int 1), (4, .int 0), (3, .int (-1)), (0, .ref h0), (1, .int 1), (2, .int p1)]) hx hb dX11_spare_144 hl (by decide) rfl (fun ls hl => ?_)
          refine lv_iload hx hb dX11_spare_146 (lv_at hl 0 rfl) ?_
          refine lv_iload_n hx hb dX11_spare_148 rfl (lv_at hl 3 rfl) ?_
          refine lv_icmp_le (tgt := 167) hx hb dX11_spare_149 (by decide) (fun h9 => absurd h9 (by decide)) (fun _ => ?_)
          refine lv_iload hx hb dX11_spare_152 (lv_at hl 0 rfl) ?_
          refine lv_istore_n (lv' := [(3, .int 0), (6, .int 0), (5, .int 1), (4, .int 0), (0, .ref h0), (1, .int 1), (2, .int p1)]) hx hb dX11_spare_154 rfl hl (by decide) rfl (fun ls hl => ?_)
          refine lv_aload_n hx hb dX11_spare_155 rfl (lv_at hl 4 rfl) ?_
          refine lv_iload hx hb dX11_spare_156 (lv_at hl 3 rfl) ?_
          refine wy_put (D := D) (ci := 11) (v := .int 0) (fty := .int) (C := RX11) (T := TX11) (N := 15) hx hb hB inB_X11 tyX11 tyX11_ok nmX11 hown hK hP hD hS 0 rfl rfl 13 (by decide) mw_138 (fun _ h9 => h9) rfl (by decide +kernel) rfl rfl (Nat.le_of_ble_eq_true rfl) dX11_spare_158 (ws' := [(h0, .inr (11, [v0, v1, v2, .ref h1, v3, v4, .ref h3, v5, v6, v7, v8, v9, v10, .int 0, v12])), (h1, .inr (5, [.ref h4, .ref h2, v13])), (h2, .inl (ty 6, 2, .inr (.inr (.inr (.inr (wy2 h9 h10)))))), (h8, .inl (ty 1, 256, .inl (upd (upd (upd (upd f1 0 0) 16 1000000) 1 1000000) 17 0))), (h7, .inl (ty 1, 17, .inl (upd (upd (upd (kf 0) 0 0) 1 0) 2 0))), (h3, .inr (2, [.ref h6, .ref h8, v14, v15, v16, v17])), (h6, .inl (ty 1, 16, .inl (upd (kf 1000000) 1 0))), (h4, .inr (8, [v18, .int 2, v19, v20, v21, v22, v23, v24, v25, v26, v27, v28, .ref h5, v29, .ref h7, v30, v31, v32])), (h5, .inr (1, [.int 0, v33, v34, v35]))]) rfl (fun H locs hP hD hS => ?_)
          refine lv_aload_n hx hb dX11_spare_161 rfl (lv_at hl 4 rfl) ?_
          refine lv_iload hx hb dX11_spare_162 (lv_at hl 2 rfl) ?_
          refine wy_put (D := D) (ci := 11) (v := .int 1) (fty := .int) (C := RX11) (T := TX11) (N := 15) hx hb hB inB_X11 tyX11 tyX11_ok nmX11 hown hK hP hD hS 0 rfl rfl 14 (by decide) mw_139 (fun _ h9 => h9) rfl (by decide +kernel) rfl rfl (Nat.le_of_ble_eq_true rfl) dX11_spare_164 (ws' := [(h0, .inr (11, [v0, v1, v2, .ref h1, v3, v4, .ref h3, v5, v6, v7, v8, v9, v10, .int 0, .int 1])), (h1, .inr (5, [.ref h4, .ref h2, v13])), (h2, .inl (ty 6, 2, .inr (.inr (.inr (.inr (wy2 h9 h10)))))), (h8, .inl (ty 1, 256, .inl (upd (upd (upd (upd f1 0 0) 16 1000000) 1 1000000) 17 0))), (h7, .inl (ty 1, 17, .inl (upd (upd (upd (kf 0) 0 0) 1 0) 2 0))), (h3, .inr (2, [.ref h6, .ref h8, v14, v15, v16, v17])), (h6, .inl (ty 1, 16, .inl (upd (kf 1000000) 1 0))), (h4, .inr (8, [v18, .int 2, v19, v20, v21, v22, v23, v24, v25, v26, v27, v28, .ref h5, v29, .ref h7, v30, v31, v32])), (h5, .inr (1, [.int 0, v33, v34, v35]))]) rfl (fun H locs hP hD hS => ?_)
          refine lv_iinc (v := 2) (lv' := [(5, .int 2), (3, .int 0), (6, .int 0), (4, .int 0), (0, .ref h0), (1, .int 1), (2, .int p1)]) hx hb dX11_spare_167 hl (k := 2) rfl (by decide) (by decide) rfl (fun ls hl => ?_)
          refine lv_goto (tgt := 110) hx hb dX11_spare_170 (by decide) ?_
          refine lv_iload hx hb dX11_spare_110 (lv_at hl 0 rfl) ?_
          refine lv_aload_n hx hb dX11_spare_112 rfl (lv_at hl 4 rfl) ?_
          refine va_get (D := D) (ci := 11) (v := .ref h1) (C := RX11) (T := TX11) (N := 15) hx hb hB inB_X11 hown hK.1 hP 0 rfl rfl 3 (by decide) (hB _ mw_85) (fun _ h9 => h9) rfl dX11_spare_113 ?_
          refine va_get (D := D) (ci := 5) (v := .ref h4) (C := RX5) (T := TX5) (N := 3) hx hb hB inB_X5 hown hK.1 hP 1 rfl rfl 0 (by decide) (hB _ mw_150) (fun _ h9 => h9) rfl dX11_spare_116 ?_
          refine va_get (D := D) (ci := 8) (v := .int 2) (C := RX8) (T := TX8) (N := 18) hx hb hB inB_X8 hown hK.1 hP 7 rfl rfl 1 (by decide) (hB _ mw_295) (fun _ h9 => h9) rfl dX11_spare_119 ?_
          refine lv_icmp_ge (tgt := 173) hx hb dX11_spare_122 (by decide) (fun _ => ?_) (fun h9 => absurd (by decide) h9)
          refine lv_iinc (v := 1) (lv' := [(4, .int 1), (5, .int 2), (3, .int 0), (6, .int 0), (0, .ref h0), (1, .int 1), (2, .int p1)]) hx hb dX11_spare_173 hl (k := 3) rfl (by decide) (by decide) rfl (fun ls hl => ?_)
          refine lv_goto (tgt := 89) hx hb dX11_spare_176 (by decide) ?_
          refine lv_iload hx hb dX11_spare_89 (lv_at hl 0 rfl) ?_
          refine lv_aload_n hx hb dX11_spare_91 rfl (lv_at hl 4 rfl) ?_
          refine va_get (D := D) (ci := 11) (v := .ref h1) (C := RX11) (T := TX11) (N := 15) hx hb hB inB_X11 hown hK.1 hP 0 rfl rfl 3 (by decide) (hB _ mw_85) (fun _ h9 => h9) rfl dX11_spare_92 ?_
          refine va_get (D := D) (ci := 5) (v := .ref h4) (C := RX5) (T := TX5) (N := 3) hx hb hB inB_X5 hown hK.1 hP 1 rfl rfl 0 (by decide) (hB _ mw_150) (fun _ h9 => h9) rfl dX11_spare_95 ?_
          refine va_get (D := D) (ci := 8) (v := .int 2) (C := RX8) (T := TX8) (N := 18) hx hb hB inB_X8 hown hK.1 hP 7 rfl rfl 1 (by decide) (hB _ mw_295) (fun _ h9 => h9) rfl dX11_spare_98 ?_
          refine lv_icmp_ge (tgt := 179) hx hb dX11_spare_101 (by decide) (fun h9 => absurd h9 (by decide)) (fun _ => ?_)
          refine lv_iload hx hb dX11_spare_104 (lv_at hl 0 rfl) ?_
          refine lv_iconst (v := 1) hx hb dX11_spare_106 (by decide) ?_
          refine lv_iadd hx hb dX11_spare_107 ?_
          refine tp_i (v := 2) (by decide) ?_
          refine lv_istore (lv' := [(5, .int 2), (4, .int 1), (3, .int 0), (6, .int 0), (0, .ref h0), (1, .int 1), (2, .int p1)]) hx hb dX11_spare_108 hl (by decide) rfl (fun ls hl => ?_)
          refine lv_iload hx hb dX11_spare_110 (lv_at hl 0 rfl) ?_
          refine lv_aload_n hx hb dX11_spare_112 rfl (lv_at hl 4 rfl) ?_
          refine va_get (D := D) (ci := 11) (v := .ref h1) (C := RX11) (T := TX11) (N := 15) hx hb hB inB_X11 hown hK.1 hP 0 rfl rfl 3 (by decide) (hB _ mw_85) (fun _ h9 => h9) rfl dX11_spare_113 ?_
          refine va_get (D := D) (ci := 5) (v := .ref h4) (C := RX5) (T := TX5) (N := 3) hx hb hB inB_X5 hown hK.1 hP 1 rfl rfl 0 (by decide) (hB _ mw_150) (fun _ h9 => h9) rfl dX11_spare_116 ?_
          refine va_get (D := D) (ci := 8) (v := .int 2) (C := RX8) (T := TX8) (N := 18) hx hb hB inB_X8 hown hK.1 hP 7 rfl rfl 1 (by decide) (hB _ mw_295) (fun _ h9 => h9) rfl dX11_spare_119 ?_
          refine lv_icmp_ge (tgt := 173) hx hb dX11_spare_122 (by decide) (fun _ => ?_) (fun h9 => absurd (by decide) h9)
          refine lv_iinc (v := 2) (lv' := [(4, .int 2), (5, .int 2), (3, .int 0), (6, .int 0), (0, .ref h0), (1, .int 1), (2, .int p1)]) hx hb dX11_spare_173 hl (k := 1) rfl (by decide) (by decide) rfl (fun ls hl => ?_)
          refine lv_goto (tgt := 89) hx hb dX11_spare_176 (by decide) ?_
          refine lv_iload hx hb dX11_spare_89 (lv_at hl 0 rfl) ?_
          refine lv_aload_n hx hb dX11_spare_91 rfl (lv_at hl 4 rfl) ?_
          refine va_get (D := D) (ci := 11) (v := .ref h1) (C := RX11) (T := TX11) (N := 15) hx hb hB inB_X11 hown hK.1 hP 0 rfl rfl 3 (by decide) (hB _ mw_85) (fun _ h9 => h9) rfl dX11_spare_92 ?_
          refine va_get (D := D) (ci := 5) (v := .ref h4) (C := RX5) (T := TX5) (N := 3) hx hb hB inB_X5 hown hK.1 hP 1 rfl rfl 0 (by decide) (hB _ mw_150) (fun _ h9 => h9) rfl dX11_spare_95 ?_
          refine va_get (D := D) (ci := 8) (v := .int 2) (C := RX8) (T := TX8) (N := 18) hx hb hB inB_X8 hown hK.1 hP 7 rfl rfl 1 (by decide) (hB _ mw_295) (fun _ h9 => h9) rfl dX11_spare_98 ?_
          refine lv_icmp_ge (tgt := 179) hx hb dX11_spare_101 (by decide) (fun _ => ?_) (fun h9 => absurd (by decide) h9)
          refine lv_iload_n hx hb dX11_spare_179 rfl (lv_at hl 2 rfl) ?_
          exact kr_z hx hb hr rfl hlocks hP hD hS [] [] (by decide) rfl (Or.inr ⟨(Or.inr ⟨c3, c4, c5, rfl⟩), rfl, rfl⟩) (by decide) (by decide) dX11_spare_180
      · refine lv_bipush (v := (-2)) hx hb dX11_spare_18 (by decide) ?_
        exact kr_z hx hb hr rfl hlocks hP hD hS [] [] (by decide) rfl (Or.inl ⟨(Or.inr (Or.inr ⟨c3, c4, c5⟩)), rfl, rfl⟩) (by decide) (by decide) dX11_spare_20
set_option maxHeartbeats 4000000 in
set_option maxRecDepth 100000 in
theorem c123_X11_spared (l : Launch) (D : va_G) (ty : Nat → ClassId) (sz : Nat) (h0 : Nat) (p0 : Int32) (v0 : Value) (v1 : Value) (v2 : Value) (v3 : Value) (v4 : Value) (v5 : Value) (v6 : Value) (v7 : Value) (v8 : Value) (v9 : Value) (v10 : Value) (v11 : Value) (v12 : Value) : cQ l yX11_spared cX11_spared 2 (some .int) 0 0 [.ref h0, .int p0] D ty [(h0, .inr (11, [v0, v1, v2, v3, v4, v5, v6, v7, v8, v9, v10, v11, v12, .int (-1), .int (-1)]))] sz (qI (fun (r : Int32) (u : va_W) => (-1) = r ∧ [] = u)) 0 0 := by
  refine cQ.of (by decide) (Nat.le_of_ble_eq_true rfl) (fun p e s m below meth c A ls C hsz hP hK hD hA hl => ?_)
  obtain ⟨hx, hb, hml, hown, hB, hr, hlocks, hin⟩ := C
  have hown : s.vm.findClass RX11 = some m.cls := hown
  have hS : va_S A s.heap s.heap [] := va_S.rf
  have hl : lv_has ls 2 [(0, .ref h0), (1, .int p0)] := hl
  refine lv_iload_n hx hb dX11_spared_0 rfl (lv_at hl 1 rfl) ?_
  refine lv_if_ne (tgt := 9) hx hb dX11_spared_1 (by decide) (fun c1 => ?_) (fun c1 => ?_)
  · refine lv_iload_n hx hb dX11_spared_9 rfl (lv_at hl 1 rfl) ?_
    refine lv_iconst (v := 1) hx hb dX11_spared_10 (by decide) ?_
    refine lv_icmp_ne (tgt := 21) hx hb dX11_spared_11 (by decide) (fun c2 => ?_) (fun c2 => ?_)
    · refine lv_iconst (v := (-1)) hx hb dX11_spared_21 (by decide) ?_
      exact kr_z hx hb hr rfl hlocks hP hD hS [] [] (by decide) rfl ⟨rfl, rfl⟩ (by decide) (by decide) dX11_spared_22
    · refine lv_aload_n hx hb dX11_spared_14 rfl (lv_at hl 0 rfl) ?_
      refine va_get (D := D) (ci := 11) (v := .int (-1)) (C := RX11) (T := TX11) (N := 15) hx hb hB inB_X11 hown hK.1 hP 0 rfl rfl 14 (by decide) (hB _ mw_139) (fun _ h9 => h9) rfl dX11_spared_15 ?_
      refine lv_goto (tgt := 22) hx hb dX11_spared_18 (by decide) ?_
      exact kr_z hx hb hr rfl hlocks hP hD hS [] [] (by decide) rfl ⟨rfl, rfl⟩ (by decide) (by decide) dX11_spared_22
  · refine lv_aload_n hx hb dX11_spared_4 rfl (lv_at hl 0 rfl) ?_
    refine va_get (D := D) (ci := 11) (v := .int (-1)) (C := RX11) (T := TX11) (N := 15) hx hb hB inB_X11 hown hK.1 hP 0 rfl rfl 13 (by decide) (hB _ mw_138) (fun _ h9 => h9) rfl dX11_spared_5 ?_
    exact kr_z hx hb hr rfl hlocks hP hD hS [] [] (by decide) rfl ⟨rfl, rfl⟩ (by decide) (by decide) dX11_spared_8
set_option maxHeartbeats 4000000 in
set_option maxRecDepth 100000 in
theorem c124_X11_alley (l : Launch) (D : va_G) (ty : Nat → ClassId) (sz : Nat) (h0 : Nat) (h1 : Nat) (h2 : Nat) (p0 : Int32) (p1 : Int32) (v0 : Value) (v1 : Value) (v2 : Value) (v3 : Value) (v4 : Value) (v5 : Value) (v6 : Value) (v7 : Value) (v8 : Value) (v9 : Value) (v10 : Value) (v11 : Value) (v12 : Value) (v13 : Value) (v14 : Value) (v15 : Value) (v16 : Value) (v17 : Value) (v18 : Value) (v19 : Value) (v20 : Value) (v21 : Value) (v22 : Value) (v23 : Value) (v24 : Value) (v25 : Value) (v26 : Value) (v27 : Value) (v28 : Value) (v29 : Value) (v30 : Value) (v31 : Value) (v32 : Value) : cQ l yX11_alley cX11_alley 3 (some .int) 1 21 [.ref h0, .int p0, .int p1] D ty [(h0, .inr (11, [v0, v1, v2, .ref h1, v3, v4, v5, v6, v7, v8, v9, v10, v11, v12, v13])), (h1, .inr (5, [.ref h2, v14, v15])), (h2, .inr (8, [v16, v17, .int 0, v18, v19, v20, v21, v22, v23, v24, v25, v26, v27, v28, v29, v30, v31, v32]))] sz (qI (fun (r : Int32) (u : va_W) => (-2000000000) = r ∧ [] = u)) 0 0 := by
  refine cQ.of (by decide) (Nat.le_of_ble_eq_true rfl) (fun p e s m below meth c A ls C hsz hP hK hD hA hl => ?_)
  obtain ⟨hx, hb, hml, hown, hB, hr, hlocks, hin⟩ := C
  have hown : s.vm.findClass RX11 = some m.cls := hown
  have hS : va_S A s.heap s.heap [] := va_S.rf
  have hl : lv_has ls 3 [(0, .ref h0), (1, .int p0), (2, .int p1)] := hl
  refine lv_aload_n hx hb dX11_alley_0 rfl (lv_at hl 0 rfl) ?_
  refine lv_iload_n hx hb dX11_alley_1 rfl (lv_at hl 1 rfl) ?_
  refine kc_i (va_runV (As := [.int p0]) (rest := []) ⟨hx, hb, hml, hown, hB⟩ (c39_X11_isAlley l D ty s.heap.size h0 h1 h2 p0 v0 v1 v2 v3 v4 v5 v6 v7 v8 v9 v10 v11 v12 v13 v14 v15 v16 v17 v18 v19 v20 v21 v22 v23 v24 v25 v26 v27 v28 v29 v30 v31 v32) (cwV 1 hB (bw_V mw_257 mw_258 mw_259 mw_216 mw_256) rfl rfl rfl (by decide +kernel) ⟨Nat.le_of_ble_eq_true rfl, Nat.le_of_ble_eq_true rfl⟩) (kp_V hK hP hD [0, 1, 2] (by decide) rfl 0 rfl rfl rfl) rfl rfl hl.1 rfl (lv_room (Nat.le_of_ble_eq_true rfl)) dX11_alley_2 ⟨Nat.le_of_ble_eq_true rfl, Nat.le_of_ble_eq_true rfl⟩) hP hD hS hA [0, 1, 2] [] (wr := []) rfl rfl (by decide) (by decide) (fun r u H locs w1 hP hD hS => ?_)
  obtain ⟨rfl, rfl⟩ := w1
  have hP : va_P D vwCl [(h0, .inr (11, [v0, v1, v2, .ref h1, v3, v4, v5, v6, v7, v8, v9, v10, v11, v12, v13])), (h1, .inr (5, [.ref h2, v14, v15])), (h2, .inr (8, [v16, v17, .int 0, v18, v19, v20, v21, v22, v23, v24, v25, v26, v27, v28, v29, v30, v31, v32]))] H := hP
  have hD : va_D A [(h0, .inr (11, [v0, v1, v2, .ref h1, v3, v4, v5, v6, v7, v8, v9, v10, v11, v12, v13])), (h1, .inr (5, [.ref h2, v14, v15])), (h2, .inr (8, [v16, v17, .int 0, v18, v19, v20, v21, v22, v23, v24, v25, v26, v27, v28, v29, v30, v31, v32]))] := hD
  refine lv_if_ne (tgt := 12) hx hb dX11_alley_5 (by decide) (fun h9 => absurd (by decide) h9) (fun _ => ?_)
  refine lv_ldcw hx hb hown (hB _ mw_401) dX11_alley_8 ?_
  exact kr_z hx hb hr rfl hlocks hP hD hS [] [] (by decide) rfl ⟨rfl, rfl⟩ (by decide) (by decide) dX11_alley_11
set_option maxHeartbeats 4000000 in
set_option maxRecDepth 100000 in
theorem c125_X11_street (l : Launch) (D : va_G) (ty : Nat → ClassId) (sz : Nat) (h0 : Nat) (h1 : Nat) (h2 : Nat) (h3 : Nat) (p0 : Int32) (p1 : Int32) (v0 : Value) (v1 : Value) (v2 : Value) (v3 : Value) (v4 : Value) (v5 : Value) (v6 : Value) (v7 : Value) (v8 : Value) (v9 : Value) (v10 : Value) (v11 : Value) (v12 : Value) (v13 : Value) (v14 : Value) (v15 : Value) (v16 : Value) (v17 : Value) (v18 : Value) (v19 : Value) (v20 : Value) (v21 : Value) (v22 : Value) (v23 : Value) (v24 : Value) (v25 : Value) (v26 : Value) (v27 : Value) (v28 : Value) (v29 : Value) (v30 : Value) (v31 : Value) (v32 : Value) (v33 : Value) (v34 : Value) (v35 : Value) : cQ l yX11_street cX11_street 4 (some .int) 0 0 [.ref h0, .int p0, .int p1] D ty [(h0, .inr (11, [v0, v1, v2, .ref h1, v3, v4, v5, v6, v7, v8, v9, v10, v11, v12, v13])), (h1, .inr (5, [.ref h2, v14, v15])), (h2, .inr (8, [v16, v17, v18, v19, v20, v21, v22, v23, v24, v25, v26, v27, v28, .ref h3, v29, v30, v31, v32])), (h3, .inr (6, [.int 0, v33, v34, v35]))] sz (qI (fun (r : Int32) (u : va_W) => (-1) = r ∧ [] = u)) 0 0 := by
  refine cQ.of (by decide) (Nat.le_of_ble_eq_true rfl) (fun p e s m below meth c A ls C hsz hP hK hD hA hl => ?_)
  obtain ⟨hx, hb, hml, hown, hB, hr, hlocks, hin⟩ := C
  have hown : s.vm.findClass RX11 = some m.cls := hown
  have hS : va_S A s.heap s.heap [] := va_S.rf
  have hl : lv_has ls 4 [(0, .ref h0), (1, .int p0), (2, .int p1)] := hl
  refine lv_aload_n hx hb dX11_street_0 rfl (lv_at hl 0 rfl) ?_
  refine va_get (D := D) (ci := 11) (v := .ref h1) (C := RX11) (T := TX11) (N := 15) hx hb hB inB_X11 hown hK.1 hP 0 rfl rfl 3 (by decide) (hB _ mw_85) (fun _ h9 => h9) rfl dX11_street_1 ?_
  refine va_get (D := D) (ci := 5) (v := .ref h2) (C := RX5) (T := TX5) (N := 3) hx hb hB inB_X5 hown hK.1 hP 1 rfl rfl 0 (by decide) (hB _ mw_150) (fun _ h9 => h9) rfl dX11_street_4 ?_
  refine va_get (D := D) (ci := 8) (v := .ref h3) (C := RX8) (T := TX8) (N := 18) hx hb hB inB_X8 hown hK.1 hP 2 rfl rfl 13 (by decide) (hB _ mw_368) (fun _ h9 => h9) rfl dX11_street_7 ?_
  refine lv_astore_n (lv' := [(3, .ref h3), (0, .ref h0), (1, .int p0), (2, .int p1)]) hx hb dX11_street_10 rfl hl (by decide) rfl (fun ls hl => ?_)
  refine lv_iload_n hx hb dX11_street_11 rfl (lv_at hl 2 rfl) ?_
  refine lv_if_lt (tgt := 37) hx hb dX11_street_12 (by decide) (fun c1 => ?_) (fun c1 => ?_)
  · refine lv_iconst (v := (-1)) hx hb dX11_street_37 (by decide) ?_
    exact kr_z hx hb hr rfl hlocks hP hD hS [] [] (by decide) rfl ⟨rfl, rfl⟩ (by decide) (by decide) dX11_street_38
  · refine lv_iload_n hx hb dX11_street_15 rfl (lv_at hl 2 rfl) ?_
    refine lv_aload_n hx hb dX11_street_16 rfl (lv_at hl 0 rfl) ?_
    refine va_get (D := D) (ci := 6) (v := .int 0) (C := RX6) (T := TX6) (N := 4) hx hb hB inB_X6 hown hK.1 hP 3 rfl rfl 0 (by decide) (hB _ mw_369) (fun _ h9 => h9) rfl dX11_street_17 ?_
    refine lv_icmp_ge (tgt := 37) hx hb dX11_street_20 (by decide) (fun _ => ?_) (fun h9 => (ps_0 p0 c1 h9).elim)
    refine lv_iconst (v := (-1)) hx hb dX11_street_37 (by decide) ?_
    exact kr_z hx hb hr rfl hlocks hP hD hS [] [] (by decide) rfl ⟨rfl, rfl⟩ (by decide) (by decide) dX11_street_38
set_option maxHeartbeats 4000000 in
set_option maxRecDepth 100000 in
theorem c126_X11_journey (l : Launch) (D : va_G) (ty : Nat → ClassId) (sz : Nat) (h0 : Nat) (h1 : Nat) (h2 : Nat) (h3 : Nat) (p0 : Int32) (p1 : Int32) (v0 : Value) (v1 : Value) (v2 : Value) (v3 : Value) (v4 : Value) (v5 : Value) (v6 : Value) (v7 : Value) (v8 : Value) (v9 : Value) (v10 : Value) (v11 : Value) (v12 : Value) (v13 : Value) (v14 : Value) (v15 : Value) (v16 : Value) (v17 : Value) (v18 : Value) (v19 : Value) (v20 : Value) (v21 : Value) (v22 : Value) (v23 : Value) (v24 : Value) (v25 : Value) (v26 : Value) (v27 : Value) (v28 : Value) (v29 : Value) (v30 : Value) (v31 : Value) (v32 : Value) (v33 : Value) (v34 : Value) (v35 : Value) : cQ l yX11_journey cX11_journey 4 (some .int) 1 21 [.ref h0, .int p0, .int p1] D ty [(h0, .inr (11, [v0, v1, v2, .ref h1, v3, v4, v5, v6, v7, v8, v9, v10, v11, v12, v13])), (h1, .inr (5, [.ref h2, v14, v15])), (h2, .inr (8, [v16, v17, v18, v19, v20, v21, v22, v23, v24, v25, v26, v27, .ref h3, v28, v29, v30, v31, v32])), (h3, .inr (1, [.int 0, v33, v34, v35]))] sz (qI (fun (r : Int32) (u : va_W) => (-2000000000) = r ∧ [] = u)) 0 0 := by
  refine cQ.of (by decide) (Nat.le_of_ble_eq_true rfl) (fun p e s m below meth c A ls C hsz hP hK hD hA hl => ?_)
  obtain ⟨hx, hb, hml, hown, hB, hr, hlocks, hin⟩ := C
  have hown : s.vm.findClass RX11 = some m.cls := hown
  have hS : va_S A s.heap s.heap [] := va_S.rf
  have hl : lv_has ls 4 [(0, .ref h0), (1, .int p0), (2, .int p1)] := hl
  refine lv_aload_n hx hb dX11_journey_0 rfl (lv_at hl 0 rfl) ?_
  refine lv_iload_n hx hb dX11_journey_1 rfl (lv_at hl 1 rfl) ?_
  refine kc_i (va_runV (As := [.int p0]) (rest := []) ⟨hx, hb, hml, hown, hB⟩ (c73_X11_isJourney l D ty s.heap.size h0 h1 h2 h3 p0 v0 v1 v2 v3 v4 v5 v6 v7 v8 v9 v10 v11 v12 v13 v14 v15 v16 v17 v18 v19 v20 v21 v22 v23 v24 v25 v26 v27 v28 v29 v30 v31 v32 v33 v34 v35) (cwV 1 hB (bw_V mw_324 mw_325 mw_326 mw_216 mw_323) rfl rfl rfl (by decide +kernel) ⟨Nat.le_of_ble_eq_true rfl, Nat.le_of_ble_eq_true rfl⟩) (kp_V hK hP hD [0, 1, 2, 3] (by decide) rfl 0 rfl rfl rfl) rfl rfl hl.1 rfl (lv_room (Nat.le_of_ble_eq_true rfl)) dX11_journey_2 ⟨Nat.le_of_ble_eq_true rfl, Nat.le_of_ble_eq_true rfl⟩) hP hD hS hA [0, 1, 2, 3] [] (wr := []) rfl rfl (by decide) (by decide) (fun r u H locs w1 hP hD hS => ?_)
  obtain ⟨rfl, rfl⟩ := w1
  have hP : va_P D vwCl [(h0, .inr (11, [v0, v1, v2, .ref h1, v3, v4, v5, v6, v7, v8, v9, v10, v11, v12, v13])), (h1, .inr (5, [.ref h2, v14, v15])), (h2, .inr (8, [v16, v17, v18, v19, v20, v21, v22, v23, v24, v25, v26, v27, .ref h3, v28, v29, v30, v31, v32])), (h3, .inr (1, [.int 0, v33, v34, v35]))] H := hP
  have hD : va_D A [(h0, .inr (11, [v0, v1, v2, .ref h1, v3, v4, v5, v6, v7, v8, v9, v10, v11, v12, v13])), (h1, .inr (5, [.ref h2, v14, v15])), (h2, .inr (8, [v16, v17, v18, v19, v20, v21, v22, v23, v24, v25, v26, v27, .ref h3, v28, v29, v30, v31, v32])), (h3, .inr (1, [.int 0, v33, v34, v35]))] := hD
  refine lv_if_ne (tgt := 12) hx hb dX11_journey_5 (by decide) (fun h9 => absurd (by decide) h9) (fun _ => ?_)
  refine lv_ldcw hx hb hown (hB _ mw_401) dX11_journey_8 ?_
  exact kr_z hx hb hr rfl hlocks hP hD hS [] [] (by decide) rfl ⟨rfl, rfl⟩ (by decide) (by decide) dX11_journey_11
set_option maxHeartbeats 4000000 in
set_option maxRecDepth 100000 in
theorem c128_X11_filledSlots (l : Launch) (D : va_G) (ty : Nat → ClassId) (sz : Nat) (h0 : Nat) (h1 : Nat) (h2 : Nat) (h3 : Nat) (h4 : Nat) (h5 : Nat) (v0 : Value) (v1 : Value) (v2 : Value) (v3 : Value) (v4 : Value) (v5 : Value) (v6 : Value) (v7 : Value) (v8 : Value) (v9 : Value) (v10 : Value) (v11 : Value) (v12 : Value) (v13 : Value) (v14 : Value) (v15 : Value) (v16 : Value) (v17 : Value) (v18 : Value) (v19 : Value) (v20 : Value) (v21 : Value) : cQ l yX11_filledSlots cX11_filledSlots 3 (some .int) 1 20 [.ref h0] D ty [(h0, .inr (11, [v0, v1, v2, v3, v4, .ref h1, v5, v6, v7, v8, v9, v10, v11, v12, v13])), (h1, .inl (ty 4, 4, .inr (.inr (.inr (.inr (va_up (va_up (va_up (va_up kn 0 (some h2)) 1 (some h3)) 2 (some h4)) 3 (some h5))))))), (h2, .inr (4, [.int (-1), v14, v15])), (h3, .inr (4, [.int (-1), v16, v17])), (h4, .inr (4, [.int (-1), v18, v19])), (h5, .inr (4, [.int (-1), v20, v21]))] sz (qI (fun (r : Int32) (u : va_W) => 0 = r ∧ [(h0, .inr (11, [v0, v1, v2, v3, v4, .ref h1, v5, v6, v7, v8, v9, v10, v11, v12, v13])), (h1, .inl (ty 4, 4, .inr (.inr (.inr (.inr (va_up (va_up (va_up (va_up kn 0 (some h2)) 1 (some h3)) 2 (some h4)) 3 (some h5))))))), (h2, .inr (4, [.int (-1), v14, v15])), (h3, .inr (4, [.int (-1), v16, v17])), (h4, .inr (4, [.int (-1), v18, v19])), (h5, .inr (4, [.int (-1), v20, v21]))] = u)) 0 0 := by
  refine cQ.of (by decide) (Nat.le_of_ble_eq_true rfl) (fun p e s m below meth c A ls C hsz hP hK hD hA hl => ?_)
  obtain ⟨hx, hb, hml, hown, hB, hr, hlocks, hin⟩ := C
  have hown : s.vm.findClass RX11 = some m.cls := hown
  have hS : va_S A s.heap s.heap [] := va_S.rf
  have hl : lv_has ls 3 [(0, .ref h0)] := hl
  refine lv_iconst (v := 0) hx hb dX11_filledSlots_0 (by decide) ?_
  refine lv_istore_n (lv' := [(1, .int 0), (0, .ref h0)]) hx hb dX11_filledSlots_1 rfl hl (by decide) rfl (fun ls hl => ?_)
  refine lv_iconst (v := 0) hx hb dX11_filledSlots_2 (by decide) ?_
  refine lv_istore_n (lv' := [(2, .int 0), (1, .int 0), (0, .ref h0)]) hx hb dX11_filledSlots_3 rfl hl (by decide) rfl (fun ls hl => ?_)
  refine lv_iload_n hx hb dX11_filledSlots_4 rfl (lv_at hl 0 rfl) ?_
  refine lv_iconst (v := 4) hx hb dX11_filledSlots_5 (by decide) ?_
  refine lv_icmp_ge (tgt := 30) hx hb dX11_filledSlots_6 (by decide) (fun h9 => absurd h9 (by decide)) (fun _ => ?_)
  refine lv_aload_n hx hb dX11_filledSlots_9 rfl (lv_at hl 2 rfl) ?_
  refine va_get (D := D) (ci := 11) (v := .ref h1) (C := RX11) (T := TX11) (N := 15) hx hb hB inB_X11 hown hK.1 hP 0 rfl rfl 5 (by decide) (hB _ mw_89) (fun _ h9 => h9) rfl dX11_filledSlots_10 ?_
  refine lv_iload_n hx hb dX11_filledSlots_13 rfl (lv_at hl 0 rfl) ?_
  refine va_aldq hx hb hK.1 hP 1 4 rfl rfl (by unfold vp_in; decide) dX11_filledSlots_14 ?_
  refine tp_v (v := .ref h2) rfl ?_
  refine kc_i (va_runV (As := []) (rest := []) ⟨hx, hb, hml, hown, hB⟩ (c42_X4_isThere l D ty s.heap.size h2 v14 v15) (cwV 0 hB (bw_V mw_264 mw_265 mw_266 mw_142 mw_263) rfl rfl rfl (by decide +kernel) ⟨Nat.le_of_ble_eq_true rfl, Nat.le_of_ble_eq_true rfl⟩) (kp_V hK hP hD [2] (by decide) rfl 2 rfl rfl rfl) rfl rfl hl.1 rfl (lv_room (Nat.le_of_ble_eq_true rfl)) dX11_filledSlots_15 ⟨Nat.le_of_ble_eq_true rfl, Nat.le_of_ble_eq_true rfl⟩) hP hD hS hA [2] [0, 1, 3, 4, 5] (wr := [(h0, .inr (11, [v0, v1, v2, v3, v4, .ref h1, v5, v6, v7, v8, v9, v10, v11, v12, v13])), (h1, .inl (ty 4, 4, .inr (.inr (.inr (.inr (va_up (va_up (va_up (va_up kn 0 (some h2)) 1 (some h3)) 2 (some h4)) 3 (some h5))))))), (h3, .inr (4, [.int (-1), v16, v17])), (h4, .inr (4, [.int (-1), v18, v19])), (h5, .inr (4, [.int (-1), v20, v21]))]) rfl rfl (by decide) (by decide) (fun r u H locs w1 hP hD hS => ?_)
  obtain ⟨rfl, rfl⟩ := w1
  have hP : va_P D vwCl [(h0, .inr (11, [v0, v1, v2, v3, v4, .ref h1, v5, v6, v7, v8, v9, v10, v11, v12, v13])), (h1, .inl (ty 4, 4, .inr (.inr (.inr (.inr (va_up (va_up (va_up (va_up kn 0 (some h2)) 1 (some h3)) 2 (some h4)) 3 (some h5))))))), (h3, .inr (4, [.int (-1), v16, v17])), (h4, .inr (4, [.int (-1), v18, v19])), (h5, .inr (4, [.int (-1), v20, v21])), (h2, .inr (4, [.int (-1), v14, v15]))] H := hP
  have hD : va_D A [(h0, .inr (11, [v0, v1, v2, v3, v4, .ref h1, v5, v6, v7, v8, v9, v10, v11, v12, v13])), (h1, .inl (ty 4, 4, .inr (.inr (.inr (.inr (va_up (va_up (va_up (va_up kn 0 (some h2)) 1 (some h3)) 2 (some h4)) 3 (some h5))))))), (h3, .inr (4, [.int (-1), v16, v17])), (h4, .inr (4, [.int (-1), v18, v19])), (h5, .inr (4, [.int (-1), v20, v21])), (h2, .inr (4, [.int (-1), v14, v15]))] := hD
  refine lv_if_eq (tgt := 24) hx hb dX11_filledSlots_18 (by decide) (fun _ => ?_) (fun h9 => absurd (by decide) h9)
  refine lv_iinc (v := 1) (lv' := [(2, .int 1), (1, .int 0), (0, .ref h0)]) hx hb dX11_filledSlots_24 hl (k := 0) rfl (by decide) (by decide) rfl (fun ls hl => ?_)
  refine lv_goto (tgt := 4) hx hb dX11_filledSlots_27 (by decide) ?_
  refine lv_iload_n hx hb dX11_filledSlots_4 rfl (lv_at hl 0 rfl) ?_
  refine lv_iconst (v := 4) hx hb dX11_filledSlots_5 (by decide) ?_
  refine lv_icmp_ge (tgt := 30) hx hb dX11_filledSlots_6 (by decide) (fun h9 => absurd h9 (by decide)) (fun _ => ?_)
  refine lv_aload_n hx hb dX11_filledSlots_9 rfl (lv_at hl 2 rfl) ?_
  refine va_get (D := D) (ci := 11) (v := .ref h1) (C := RX11) (T := TX11) (N := 15) hx hb hB inB_X11 hown hK.1 hP 0 rfl rfl 5 (by decide) (hB _ mw_89) (fun _ h9 => h9) rfl dX11_filledSlots_10 ?_
  refine lv_iload_n hx hb dX11_filledSlots_13 rfl (lv_at hl 0 rfl) ?_
  refine va_aldq hx hb hK.1 hP 1 4 rfl rfl (by unfold vp_in; decide) dX11_filledSlots_14 ?_
  refine tp_v (v := .ref h3) rfl ?_
  refine kc_i (va_runV (As := []) (rest := []) ⟨hx, hb, hml, hown, hB⟩ (c42_X4_isThere l D ty H.size h3 v16 v17) (cwV 0 hB (bw_V mw_264 mw_265 mw_266 mw_142 mw_263) rfl rfl rfl (by decide +kernel) ⟨Nat.le_of_ble_eq_true rfl, Nat.le_of_ble_eq_true rfl⟩) (kp_V hK hP hD [2] (by decide) rfl 2 rfl rfl rfl) rfl rfl hl.1 rfl (lv_room (Nat.le_of_ble_eq_true rfl)) dX11_filledSlots_15 ⟨Nat.le_of_ble_eq_true rfl, Nat.le_of_ble_eq_true rfl⟩) hP hD hS hA [2] [0, 1, 3, 4, 5] (wr := [(h0, .inr (11, [v0, v1, v2, v3, v4, .ref h1, v5, v6, v7, v8, v9, v10, v11, v12, v13])), (h1, .inl (ty 4, 4, .inr (.inr (.inr (.inr (va_up (va_up (va_up (va_up kn 0 (some h2)) 1 (some h3)) 2 (some h4)) 3 (some h5))))))), (h4, .inr (4, [.int (-1), v18, v19])), (h5, .inr (4, [.int (-1), v20, v21])), (h2, .inr (4, [.int (-1), v14, v15]))]) rfl rfl (by decide) (by decide) (fun r u H locs w2 hP hD hS => ?_)
  obtain ⟨rfl, rfl⟩ := w2
  have hP : va_P D vwCl [(h0, .inr (11, [v0, v1, v2, v3, v4, .ref h1, v5, v6, v7, v8, v9, v10, v11, v12, v13])), (h1, .inl (ty 4, 4, .inr (.inr (.inr (.inr (va_up (va_up (va_up (va_up kn 0 (some h2)) 1 (some h3)) 2 (some h4)) 3 (some h5))))))), (h4, .inr (4, [.int (-1), v18, v19])), (h5, .inr (4, [.int (-1), v20, v21])), (h2, .inr (4, [.int (-1), v14, v15])), (h3, .inr (4, [.int (-1), v16, v17]))] H := hP
  have hD : va_D A [(h0, .inr (11, [v0, v1, v2, v3, v4, .ref h1, v5, v6, v7, v8, v9, v10, v11, v12, v13])), (h1, .inl (ty 4, 4, .inr (.inr (.inr (.inr (va_up (va_up (va_up (va_up kn 0 (some h2)) 1 (some h3)) 2 (some h4)) 3 (some h5))))))), (h4, .inr (4, [.int (-1), v18, v19])), (h5, .inr (4, [.int (-1), v20, v21])), (h2, .inr (4, [.int (-1), v14, v15])), (h3, .inr (4, [.int (-1), v16, v17]))] := hD
  refine lv_if_eq (tgt := 24) hx hb dX11_filledSlots_18 (by decide) (fun _ => ?_) (fun h9 => absurd (by decide) h9)
  refine lv_iinc (v := 2) (lv' := [(2, .int 2), (1, .int 0), (0, .ref h0)]) hx hb dX11_filledSlots_24 hl (k := 0) rfl (by decide) (by decide) rfl (fun ls hl => ?_)
  refine lv_goto (tgt := 4) hx hb dX11_filledSlots_27 (by decide) ?_
  refine lv_iload_n hx hb dX11_filledSlots_4 rfl (lv_at hl 0 rfl) ?_
  refine lv_iconst (v := 4) hx hb dX11_filledSlots_5 (by decide) ?_
  refine lv_icmp_ge (tgt := 30) hx hb dX11_filledSlots_6 (by decide) (fun h9 => absurd h9 (by decide)) (fun _ => ?_)
  refine lv_aload_n hx hb dX11_filledSlots_9 rfl (lv_at hl 2 rfl) ?_
  refine va_get (D := D) (ci := 11) (v := .ref h1) (C := RX11) (T := TX11) (N := 15) hx hb hB inB_X11 hown hK.1 hP 0 rfl rfl 5 (by decide) (hB _ mw_89) (fun _ h9 => h9) rfl dX11_filledSlots_10 ?_
  refine lv_iload_n hx hb dX11_filledSlots_13 rfl (lv_at hl 0 rfl) ?_
  refine va_aldq hx hb hK.1 hP 1 4 rfl rfl (by unfold vp_in; decide) dX11_filledSlots_14 ?_
  refine tp_v (v := .ref h4) rfl ?_
  refine kc_i (va_runV (As := []) (rest := []) ⟨hx, hb, hml, hown, hB⟩ (c42_X4_isThere l D ty H.size h4 v18 v19) (cwV 0 hB (bw_V mw_264 mw_265 mw_266 mw_142 mw_263) rfl rfl rfl (by decide +kernel) ⟨Nat.le_of_ble_eq_true rfl, Nat.le_of_ble_eq_true rfl⟩) (kp_V hK hP hD [2] (by decide) rfl 2 rfl rfl rfl) rfl rfl hl.1 rfl (lv_room (Nat.le_of_ble_eq_true rfl)) dX11_filledSlots_15 ⟨Nat.le_of_ble_eq_true rfl, Nat.le_of_ble_eq_true rfl⟩) hP hD hS hA [2] [0, 1, 3, 4, 5] (wr := [(h0, .inr (11, [v0, v1, v2, v3, v4, .ref h1, v5, v6, v7, v8, v9, v10, v11, v12, v13])), (h1, .inl (ty 4, 4, .inr (.inr (.inr (.inr (va_up (va_up (va_up (va_up kn 0 (some h2)) 1 (some h3)) 2 (some h4)) 3 (some h5))))))), (h5, .inr (4, [.int (-1), v20, v21])), (h2, .inr (4, [.int (-1), v14, v15])), (h3, .inr (4, [.int (-1), v16, v17]))]) rfl rfl (by decide) (by decide) (fun r u H locs w3 hP hD hS => ?_)
  obtain ⟨rfl, rfl⟩ := w3
  have hP : va_P D vwCl [(h0, .inr (11, [v0, v1, v2, v3, v4, .ref h1, v5, v6, v7, v8, v9, v10, v11, v12, v13])), (h1, .inl (ty 4, 4, .inr (.inr (.inr (.inr (va_up (va_up (va_up (va_up kn 0 (some h2)) 1 (some h3)) 2 (some h4)) 3 (some h5))))))), (h5, .inr (4, [.int (-1), v20, v21])), (h2, .inr (4, [.int (-1), v14, v15])), (h3, .inr (4, [.int (-1), v16, v17])), (h4, .inr (4, [.int (-1), v18, v19]))] H := hP
  have hD : va_D A [(h0, .inr (11, [v0, v1, v2, v3, v4, .ref h1, v5, v6, v7, v8, v9, v10, v11, v12, v13])), (h1, .inl (ty 4, 4, .inr (.inr (.inr (.inr (va_up (va_up (va_up (va_up kn 0 (some h2)) 1 (some h3)) 2 (some h4)) 3 (some h5))))))), (h5, .inr (4, [.int (-1), v20, v21])), (h2, .inr (4, [.int (-1), v14, v15])), (h3, .inr (4, [.int (-1), v16, v17])), (h4, .inr (4, [.int (-1), v18, v19]))] := hD
  refine lv_if_eq (tgt := 24) hx hb dX11_filledSlots_18 (by decide) (fun _ => ?_) (fun h9 => absurd (by decide) h9)
  refine lv_iinc (v := 3) (lv' := [(2, .int 3), (1, .int 0), (0, .ref h0)]) hx hb dX11_filledSlots_24 hl (k := 0) rfl (by decide) (by decide) rfl (fun ls hl => ?_)
  refine lv_goto (tgt := 4) hx hb dX11_filledSlots_27 (by decide) ?_
  refine lv_iload_n hx hb dX11_filledSlots_4 rfl (lv_at hl 0 rfl) ?_
  refine lv_iconst (v := 4) hx hb dX11_filledSlots_5 (by decide) ?_
  refine lv_icmp_ge (tgt := 30) hx hb dX11_filledSlots_6 (by decide) (fun h9 => absurd h9 (by decide)) (fun _ => ?_)
  refine lv_aload_n hx hb dX11_filledSlots_9 rfl (lv_at hl 2 rfl) ?_
  refine va_get (D := D) (ci := 11) (v := .ref h1) (C := RX11) (T := TX11) (N := 15) hx hb hB inB_X11 hown hK.1 hP 0 rfl rfl 5 (by decide) (hB _ mw_89) (fun _ h9 => h9) rfl dX11_filledSlots_10 ?_
  refine lv_iload_n hx hb dX11_filledSlots_13 rfl (lv_at hl 0 rfl) ?_
  refine va_aldq hx hb hK.1 hP 1 4 rfl rfl (by unfold vp_in; decide) dX11_filledSlots_14 ?_
  refine tp_v (v := .ref h5) rfl ?_
  refine kc_i (va_runV (As := []) (rest := []) ⟨hx, hb, hml, hown, hB⟩ (c42_X4_isThere l D ty H.size h5 v20 v21) (cwV 0 hB (bw_V mw_264 mw_265 mw_266 mw_142 mw_263) rfl rfl rfl (by decide +kernel) ⟨Nat.le_of_ble_eq_true rfl, Nat.le_of_ble_eq_true rfl⟩) (kp_V hK hP hD [2] (by decide) rfl 2 rfl rfl rfl) rfl rfl hl.1 rfl (lv_room (Nat.le_of_ble_eq_true rfl)) dX11_filledSlots_15 ⟨Nat.le_of_ble_eq_true rfl, Nat.le_of_ble_eq_true rfl⟩) hP hD hS hA [2] [0, 1, 3, 4, 5] (wr := [(h0, .inr (11, [v0, v1, v2, v3, v4, .ref h1, v5, v6, v7, v8, v9, v10, v11, v12, v13])), (h1, .inl (ty 4, 4, .inr (.inr (.inr (.inr (va_up (va_up (va_up (va_up kn 0 (some h2)) 1 (some h3)) 2 (some h4)) 3 (some h5))))))), (h2, .inr (4, [.int (-1), v14, v15])), (h3, .inr (4, [.int (-1), v16, v17])), (h4, .inr (4, [.int (-1), v18, v19]))]) rfl rfl (by decide) (by decide) (fun r u H locs w4 hP hD hS => ?_)
  obtain ⟨rfl, rfl⟩ := w4
  have hP : va_P D vwCl [(h0, .inr (11, [v0, v1, v2, v3, v4, .ref h1, v5, v6, v7, v8, v9, v10, v11, v12, v13])), (h1, .inl (ty 4, 4, .inr (.inr (.inr (.inr (va_up (va_up (va_up (va_up kn 0 (some h2)) 1 (some h3)) 2 (some h4)) 3 (some h5))))))), (h2, .inr (4, [.int (-1), v14, v15])), (h3, .inr (4, [.int (-1), v16, v17])), (h4, .inr (4, [.int (-1), v18, v19])), (h5, .inr (4, [.int (-1), v20, v21]))] H := hP
  have hD : va_D A [(h0, .inr (11, [v0, v1, v2, v3, v4, .ref h1, v5, v6, v7, v8, v9, v10, v11, v12, v13])), (h1, .inl (ty 4, 4, .inr (.inr (.inr (.inr (va_up (va_up (va_up (va_up kn 0 (some h2)) 1 (some h3)) 2 (some h4)) 3 (some h5))))))), (h2, .inr (4, [.int (-1), v14, v15])), (h3, .inr (4, [.int (-1), v16, v17])), (h4, .inr (4, [.int (-1), v18, v19])), (h5, .inr (4, [.int (-1), v20, v21]))] := hD
  refine lv_if_eq (tgt := 24) hx hb dX11_filledSlots_18 (by decide) (fun _ => ?_) (fun h9 => absurd (by decide) h9)
  refine lv_iinc (v := 4) (lv' := [(2, .int 4), (1, .int 0), (0, .ref h0)]) hx hb dX11_filledSlots_24 hl (k := 0) rfl (by decide) (by decide) rfl (fun ls hl => ?_)
  refine lv_goto (tgt := 4) hx hb dX11_filledSlots_27 (by decide) ?_
  refine lv_iload_n hx hb dX11_filledSlots_4 rfl (lv_at hl 0 rfl) ?_
  refine lv_iconst (v := 4) hx hb dX11_filledSlots_5 (by decide) ?_
  refine lv_icmp_ge (tgt := 30) hx hb dX11_filledSlots_6 (by decide) (fun _ => ?_) (fun h9 => absurd (by decide) h9)
  refine lv_iload_n hx hb dX11_filledSlots_30 rfl (lv_at hl 1 rfl) ?_
  exact kr_z hx hb hr rfl hlocks hP hD hS [(h0, .inr (11, [v0, v1, v2, v3, v4, .ref h1, v5, v6, v7, v8, v9, v10, v11, v12, v13])), (h1, .inl (ty 4, 4, .inr (.inr (.inr (.inr (va_up (va_up (va_up (va_up kn 0 (some h2)) 1 (some h3)) 2 (some h4)) 3 (some h5))))))), (h2, .inr (4, [.int (-1), v14, v15])), (h3, .inr (4, [.int (-1), v16, v17])), (h4, .inr (4, [.int (-1), v18, v19])), (h5, .inr (4, [.int (-1), v20, v21]))] [0, 1, 2, 3, 4, 5] (by decide) rfl ⟨rfl, rfl⟩ (by decide) (by decide) dX11_filledSlots_31
